def bt (x : Int32) (i : Nat) : Bool := x.toBitVec.getLsbD i
theorem b_ext {x y : Int32} (h : ∀ i, i < 32 → bt x i = bt y i) : x = y := Int32.toBitVec_inj.mp (BitVec.eq_of_getLsbD_eq (fun i hi => h i hi))
theorem b_or (x y : Int32) (i : Nat) : bt (x ||| y) i = (bt x i || bt y i) := by unfold bt; rw [Int32.toBitVec_or, BitVec.getLsbD_or]
theorem b_and (x y : Int32) (i : Nat) : bt (x &&& y) i = (bt x i && bt y i) := by unfold bt; rw [Int32.toBitVec_and, BitVec.getLsbD_and]
theorem b_xor (x y : Int32) (i : Nat) : bt (x ^^^ y) i = (bt x i ^^ bt y i) := by unfold bt; rw [Int32.toBitVec_xor, BitVec.getLsbD_xor]
theorem b_big {x : Int32} {i : Nat} (h : 32 ≤ i) : bt x i = false := BitVec.getLsbD_of_ge _ _ h
theorem b_255 (i : Nat) : bt 255 i = decide (i < 8) := by
  rcases Nat.lt_or_ge i 32 with h | h
  · exact (by decide +kernel : ∀ i, i < 32 → bt 255 i = decide (i < 8)) i h
  · rw [b_big h, decide_eq_false (by omega)]
theorem b_65535 (i : Nat) : bt 65535 i = decide (i < 16) := by
  rcases Nat.lt_or_ge i 32 with h | h
  · exact (by decide +kernel : ∀ i, i < 32 → bt 65535 i = decide (i < 16)) i h
  · rw [b_big h, decide_eq_false (by omega)]
theorem b_m1 : ∀ i, i < 32 → bt (-1) i = true := by decide +kernel
theorem b_0 (i : Nat) : bt 0 i = false := BitVec.getLsbD_zero
theorem s_l : ∀ n, n < 32 → ((nI n &&& 31).toBitVec.smod 32).toNat = n := by decide +kernel
theorem s_u : ∀ n, n < 32 → (((nI n).toUInt32 &&& Int32.toUInt32 31).toBitVec % 32).toNat = n := by decide +kernel
theorem b_shl (n : Nat) (hn : n < 32) (x : Int32) {i : Nat} (hi : i < 32) : bt (x <<< (nI n &&& 31)) i = (decide (n ≤ i) && bt x (i - n)) := by
  unfold bt
  rw [Int32.toBitVec_shiftLeft]
  show (x.toBitVec <<< ((nI n &&& 31).toBitVec.smod 32).toNat).getLsbD i = _
  rw [s_l n hn, BitVec.getLsbD_shiftLeft]
  rcases Nat.lt_or_ge i n with h | h
  · simp [h, Nat.not_le.mpr h]
  · simp [hi, h, Nat.not_lt.mpr h]
theorem b_ushr (n : Nat) (hn : n < 32) (x : Int32) (i : Nat) : bt ((x.toUInt32 >>> ((nI n).toUInt32 &&& Int32.toUInt32 31)).toInt32) i = bt x (n + i) := by
  show (x.toUInt32 >>> ((nI n).toUInt32 &&& Int32.toUInt32 31)).toBitVec.getLsbD i = x.toUInt32.toBitVec.getLsbD (n + i)
  rw [UInt32.toBitVec_shiftRight]
  show (x.toUInt32.toBitVec >>> (((nI n).toUInt32 &&& Int32.toUInt32 31).toBitVec % 32).toNat).getLsbD i = _
  rw [s_u n hn, BitVec.getLsbD_ushiftRight]
theorem b_sshr (n : Nat) (hn : n < 32) (x : Int32) {i : Nat} (hi : i < 32) : bt (x >>> (nI n &&& 31)) i = if n + i < 32 then bt x (n + i) else bt x 31 := by
  unfold bt
  rw [Int32.toBitVec_shiftRight]
  show (x.toBitVec.sshiftRight ((nI n &&& 31).toBitVec.smod 32).toNat).getLsbD i = _
  rw [s_l n hn, BitVec.getLsbD_sshiftRight, BitVec.msb_eq_getLsbD_last]
  simp [hi]
theorem bp_b (x : Int32) : x.toInt8.toInt32 &&& 255 = x &&& 255 := by
  apply Int32.toBitVec_inj.mp
  rw [Int32.toBitVec_and, Int32.toBitVec_and, Int8.toBitVec_toInt32, Int32.toBitVec_toInt8]
  apply BitVec.eq_of_getLsbD_eq
  intro i hi
  rw [BitVec.getLsbD_and, BitVec.getLsbD_and]
  have hm : ∀ i < 32, 8 ≤ i → (255 : Int32).toBitVec.getLsbD i = false := by decide
  rcases Nat.lt_or_ge i 8 with z | z
  · rw [BitVec.getLsbD_signExtend, BitVec.getLsbD_signExtend, if_pos z, if_pos hi]
    simp only [z, hi, decide_true, Bool.true_and]
  · rw [hm i hi z]; simp

theorem ush_bt (x : Int32) (s i : Nat) (hs : s < 32) : bt (ush x s) i = bt x (s + i) := b_ushr s hs x i
theorem sar_255 {v : Int32} {s : Nat} (hs : s ≤ 24) : (v >>> (nI s &&& 31)) &&& 255 = ush v s &&& 255 := by
  apply b_ext
  intro i hi
  rw [b_and, b_and, b_255]
  by_cases h : i < 8
  · rw [b_sshr s (by omega) v hi, ush_bt v s i (by omega), if_pos (by omega)]
  · simp [h]
theorem b_15 : ∀ i, i < 32 → bt (nI 15) i = decide (i < 4) := by decide +kernel
theorem sar_15 {v : Int32} {s : Nat} (hs : s ≤ 28) : (v >>> (nI s &&& 31)) &&& nI 15 = ush v s &&& nI 15 := by
  apply b_ext
  intro i hi
  rw [b_and, b_and, b_15 i hi]
  by_cases h : i < 4
  · rw [b_sshr s (by omega) v hi, ush_bt v s i (by omega), if_pos (by omega)]
  · simp [h]
theorem i8_of {x y : Int32} (h : x &&& 255 = y &&& 255) : x.toInt8.toInt32 = y.toInt8.toInt32 := by
  have hx : x.toInt8.toInt32 &&& 255 = nI (u8 x) := (bp_b x).trans (u8_eq x)
  have hy : y.toInt8.toInt32 &&& 255 = nI (u8 x) := (bp_b y).trans (h.symm.trans (u8_eq x))
  rw [(sc_eq (b8b8 x) (u8_lt x)).mpr hx, (sc_eq (b8b8 y) (u8_lt x)).mpr hy]
theorem sar_b {v : Int32} {j : Nat} (hj : j < 4) : (v >>> (nI (24 - 8 * j) &&& 31)).toInt8.toInt32 = wB v j := i8_of (sar_255 (by omega))
theorem fit_i8 {x : Int32} (h : fits .byte (.int x) = true) : x.toInt8.toInt32 = x := by
  have h1 : -128 ≤ x ∧ x ≤ 127 := by simpa [fits] using h
  have h2 : (-128 : Int) ≤ x.toInt := by have := Int32.le_iff_toInt_le.mp h1.1; simpa using this
  have h3 : x.toInt ≤ 127 := by have := Int32.le_iff_toInt_le.mp h1.2; simpa using this
  apply Int32.toInt_inj.mp
  rw [Int8.toInt_toInt32, Int32.toInt_toInt8]
  have e : ((2 ^ 8 : Nat) : Int) = 256 := rfl
  simp only [Int.bmod, e]
  split <;> omega
theorem raw_n {x : Int32} (h : fits .byte (.int x) = true) : x = (nI (u8 x)).toInt8.toInt32 := (sc_eq (fit_i8 h) (u8_lt x)).mpr (u8_eq x)
theorem raw_eq {x : Int32} {n : Nat} (h : fits .byte (.int x) = true) (hn : n < 128) : x = nI n ↔ x &&& 255 = nI n := by
  have e := sc_eq (fit_i8 h) (n := n) (by omega)
  rwa [b7N n hn] at e
theorem raw_vis {x : Int32} (h : fits .byte (.int x) = true) : pVis (x &&& 255) ↔ (¬ x < nI 33 ∧ ¬ nI 126 < x) := by
  have e := raw_n h
  have hn := u8_lt x
  have k : ∀ n, n < 256 → (pVis (nI n) ↔ (¬ (nI n).toInt8.toInt32 < nI 33 ∧ ¬ nI 126 < (nI n).toInt8.toInt32)) := by decide +kernel
  have k2 := k _ hn
  rw [← e, ← u8_eq x] at k2
  exact k2
/-- the check, bit by bit -/
def bitS (c : Int32) : Int32 := if c &&& nI 1 = nI 1 then ush c 1 ^^^ (-306674912) else ush c 1
def pm (b : Bool) : Int32 := if b = true then -306674912 else 0
theorem one_bt (c : Int32) : c &&& nI 1 = nI 1 ↔ bt c 0 = true := by
  have b1 : ∀ i, i < 32 → bt (nI 1) i = decide (i = 0) := by decide +kernel
  constructor
  · intro h
    have h2 : bt (c &&& nI 1) 0 = bt (nI 1) 0 := by rw [h]
    rw [b_and, b1 0 (by decide)] at h2
    simpa using h2
  · intro h
    apply b_ext
    intro i hi
    rw [b_and, b1 i hi]
    by_cases hz : i = 0
    · subst hz; simp [h]
    · simp [hz]
theorem bitS_eq (c : Int32) : bitS c = ush c 1 ^^^ pm (bt c 0) := by
  unfold bitS pm
  by_cases h : bt c 0 = true
  · rw [if_pos ((one_bt c).mpr h), if_pos h]
  · rw [if_neg (fun z => h ((one_bt c).mp z)), if_neg h, Int32.xor_zero]
theorem pm_low : ∀ (b : Bool) (j : Nat), j < 5 → bt (pm b) j = false := by
  intro b j hj
  have h : ∀ j, j < 5 → bt (pm true) j = false := by decide +kernel
  have h' : ∀ j, j < 5 → bt (pm false) j = false := by decide +kernel
  cases b
  · exact h' j hj
  · exact h j hj
theorem bitS_bt (c : Int32) {j : Nat} (hj : j < 5) : bt (bitS c) j = bt c (1 + j) := by rw [bitS_eq, b_xor, ush_bt _ _ _ (by decide), pm_low _ _ hj]; simp
theorem ush_xor (x y : Int32) {s : Nat} (hs : s < 32) : ush (x ^^^ y) s = ush x s ^^^ ush y s := by
  apply b_ext
  intro i _
  rw [ush_bt _ _ _ hs, b_xor, b_xor, ush_bt _ _ _ hs, ush_bt _ _ _ hs]
theorem ush_ush (x : Int32) {s t : Nat} (hs : s < 32) (ht : t < 32) (hst : s + t < 32) : ush (ush x s) t = ush x (s + t) := by
  apply b_ext
  intro i _
  rw [ush_bt _ _ _ ht, ush_bt _ _ _ hs, ush_bt _ _ _ hst, Nat.add_assoc]
theorem bits4 (c : Int32) : bitS (bitS (bitS (bitS c))) = ush c 4 ^^^ (ush (pm (bt c 0)) 3 ^^^ (ush (pm (bt c 1)) 2 ^^^ (ush (pm (bt c 2)) 1 ^^^ pm (bt c 3)))) := by
  have e1 := bitS_bt c (j := 0) (by decide)
  have e2 : bt (bitS (bitS c)) 0 = bt c 2 := by rw [bitS_bt _ (by decide), bitS_bt _ (by decide)]
  have e3 : bt (bitS (bitS (bitS c))) 0 = bt c 3 := by rw [bitS_bt _ (by decide), bitS_bt _ (by decide), bitS_bt _ (by decide)]
  rw [bitS_eq (bitS (bitS (bitS c))), e3, bitS_eq (bitS (bitS c)), e2, bitS_eq (bitS c), e1, bitS_eq c]
  simp only [ush_xor _ _ (show 1 < 32 by decide), ush_ush _ (show 1 < 32 by decide) (show 1 < 32 by decide) (show 1 + 1 < 32 by decide), ush_ush _ (show 1 + 1 < 32 by decide) (show 1 < 32 by decide) (show 1 + 1 + 1 < 32 by decide), ush_ush _ (show 1 + 1 + 1 < 32 by decide) (show 1 < 32 by decide) (show 1 + 1 + 1 + 1 < 32 by decide), Int32.xor_assoc]
theorem tab4 : ∀ b0 b1 b2 b3 : Bool, cTab.getD (b0.toNat + 2 * b1.toNat + 4 * b2.toNat + 8 * b3.toNat) 0 = ush (pm b0) 3 ^^^ (ush (pm b1) 2 ^^^ (ush (pm b2) 1 ^^^ pm b3)) := by decide +kernel
theorem low4 (c : Int32) : (c &&& nI 15).toNatClampNeg = (bt c 0).toNat + 2 * (bt c 1).toNat + 4 * (bt c 2).toNat + 8 * (bt c 3).toNat := by
  have e : c &&& nI 15 = nI ((bt c 0).toNat + 2 * (bt c 1).toNat + 4 * (bt c 2).toNat + 8 * (bt c 3).toNat) := by
    apply b_ext
    intro i hi
    rw [b_and, b_15 i hi]
    have key : ∀ b0 b1 b2 b3 : Bool, ∀ i, i < 32 → bt (nI (b0.toNat + 2 * b1.toNat + 4 * b2.toNat + 8 * b3.toNat)) i = (if i = 0 then b0 else if i = 1 then b1 else if i = 2 then b2 else if i = 3 then b3 else false) := by decide +kernel
    rw [key _ _ _ _ i hi]
    rcases (show i = 0 ∨ i = 1 ∨ i = 2 ∨ i = 3 ∨ 4 ≤ i by omega) with rfl | rfl | rfl | rfl | h
    · simp
    · simp
    · simp
    · simp
    · rw [if_neg (by omega), if_neg (by omega), if_neg (by omega), if_neg (by omega), decide_eq_false (by omega), Bool.and_false]
  have hl : (bt c 0).toNat + 2 * (bt c 1).toNat + 4 * (bt c 2).toNat + 8 * (bt c 3).toNat < 2 ^ 31 := by
    have h : ∀ b : Bool, b.toNat ≤ 1 := by decide
    have h0 := h (bt c 0); have h1 := h (bt c 1); have h2 := h (bt c 2); have h3 := h (bt c 3)
    omega
  rw [e, nI_clamp hl]
theorem nib_bit (c : Int32) : bitS (bitS (bitS (bitS c))) = nibS c := by
  rw [bits4]
  show _ = ush c 4 ^^^ cTab.getD (c &&& nI 15).toNatClampNeg 0
  rw [low4, tab4]
def bitN : Nat → Int32 → Int32
  | 0, c => c
  | n + 1, c => bitS (bitN n c)
theorem bit8 (c : Int32) : bitN 8 c = nibS (nibS c) := by
  rw [← nib_bit, ← nib_bit]
  rfl
/-- four bytes as a number -/
def bw (f : Nat → Int32) (a : Nat) : Nat → Nat
  | 0 => 0
  | k + 1 => bw f a k * 256 + u8 (f (a + k))
theorem bw_lt (f : Nat → Int32) (a : Nat) : ∀ k, bw f a k < 256 ^ k := by
  intro k
  induction k with
  | zero => show 0 < 1; decide
  | succ k ih =>
    have h := u8_lt (f (a + k))
    show bw f a k * 256 + u8 (f (a + k)) < 256 ^ (k + 1)
    rw [Nat.pow_succ]
    omega
set_option maxRecDepth 20000 in
theorem be4_nat (f : Nat → Int32) (a : Nat) : be4 f a = nI (bw f a 4) := by
  have h0 := u8_lt (f a); have h1 := u8_lt (f (a + 1)); have h2 := u8_lt (f (a + 2)); have h3 := u8_lt (f (a + 3))
  unfold be4
  rw [u8_eq (f a), u8_eq (f (a + 1)), u8_eq (f (a + 2)), u8_eq (f (a + 3)), pk_shlN (nI 24 &&& 31) 24 (by decide) (by omega), pk_shlN (nI 16 &&& 31) 16 (by decide) (by omega), pk_shlN (nI 8 &&& 31) 8 (by decide) (by omega)]
  rw [nI_or (k := 24) (by omega) (by omega)]
  have e1 : u8 (f a) * 2 ^ 24 + u8 (f (a + 1)) * 2 ^ 16 = (u8 (f a) * 256 + u8 (f (a + 1))) * 2 ^ 16 := by omega
  rw [e1, nI_or (k := 16) (by omega) (by omega)]
  have e0 : ∀ x y : Nat, x * 2 ^ 16 + y * 2 ^ 8 = (x * 256 + y) * 2 ^ 8 := by clear h0 h1 h2 h3 e1; intro x y; simp only [Nat.reducePow]; omega
  have e2 := e0 (u8 (f a) * 256 + u8 (f (a + 1))) (u8 (f (a + 2)))
  rw [e2, nI_or (k := 8) (by omega) (by omega)]
  have e3 : bw f a 4 = ((u8 (f a) * 256 + u8 (f (a + 1))) * 256 + u8 (f (a + 2))) * 2 ^ 8 + u8 (f (a + 3)) := by
    show (((0 * 256 + u8 (f (a + 0))) * 256 + u8 (f (a + 1))) * 256 + u8 (f (a + 2))) * 256 + u8 (f (a + 3)) = _
    rw [Nat.add_zero]
    omega
  rw [e3]
set_option maxRecDepth 20000 in
theorem be4_u (f : Nat → Int32) (a : Nat) : u32 (be4 f a) = bw f a 4 := by
  rw [be4_nat]
  exact pk_tn (by have := bw_lt f a 4; omega)
theorem lN_or8 {m b : Nat} (hb : b < 256) (h : m * 256 + b < 2 ^ 64) : lN (m * 256) ||| lN b = lN (m * 256 + b) := by
  apply Int64.toBitVec_inj.mp
  apply BitVec.eq_of_toNat_eq
  show (BitVec.ofNat 64 (m * 256) ||| BitVec.ofNat 64 b).toNat = (BitVec.ofNat 64 (m * 256 + b)).toNat
  rw [BitVec.toNat_or, BitVec.toNat_ofNat, BitVec.toNat_ofNat, BitVec.toNat_ofNat, Nat.mod_eq_of_lt (show m * 256 < 2 ^ 64 from Nat.lt_of_le_of_lt (Nat.le_add_right _ _) h), Nat.mod_eq_of_lt (show b < 2 ^ 64 from Nat.lt_of_lt_of_le hb (by decide)), Nat.mod_eq_of_lt h]
  have e := Nat.shiftLeft_add_eq_or_of_lt (i := 8) hb m
  rw [Nat.shiftLeft_eq] at e
  exact e.symm
theorem lN_shl8 {m : Nat} (h : m < 2 ^ 32) : lN m <<< ((nI 8).toInt64 &&& 63) = lN (m * 256) := by
  have e8 : (nI 8).toInt64 &&& 63 = 8 := by decide
  rw [e8]
  apply Int64.toBitVec_inj.mp
  apply BitVec.eq_of_toNat_eq
  show (BitVec.ofNat 64 m <<< ((8 : Int64).toBitVec.smod 64)).toNat = (BitVec.ofNat 64 (m * 256)).toNat
  rw [show ((8 : Int64).toBitVec.smod 64) = 8#64 from by decide, BitVec.shiftLeft_eq', BitVec.toNat_shiftLeft, BitVec.toNat_ofNat, BitVec.toNat_ofNat, Nat.shiftLeft_eq, Nat.mod_eq_of_lt (a := m) (by omega)]
  rfl
theorem lN_low {m : Nat} (h : m < 2 ^ 32) : (lN m).toInt32 = nI m := by
  apply Int32.toBitVec_inj.mp
  apply BitVec.eq_of_toNat_eq
  show ((BitVec.ofNat 64 m).signExtend 32).toNat = (BitVec.ofNat 32 m).toNat
  rw [BitVec.signExtend_eq_setWidth_of_le _ (by decide), BitVec.toNat_setWidth, BitVec.toNat_ofNat, BitVec.toNat_ofNat]
  omega
