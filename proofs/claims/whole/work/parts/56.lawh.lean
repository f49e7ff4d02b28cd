def pot3 (lim n : Nat) : Nat := if n = lim then 3 * lim else 2 * n
theorem pot_gs {lim n need : Nat} (h : need ≤ lim) (hn : n ≤ lim) : pot3 lim n + gsN lim n need ≤ pot3 lim (cpN lim n need) := by
  unfold pot3 gsN cpN
  by_cases h1 : need ≤ n
  · rw [if_pos h1, if_pos h1]; omega
  · rw [if_neg h1, if_neg h1, if_neg (show ¬ n = lim by omega)]
    split <;> omega
theorem pot_le {lim n : Nat} (hn : n ≤ lim) : pot3 lim n ≤ 3 * lim := by unfold pot3; split <;> omega
def LTd (st nt : Nat) (f h : Nat → Int32) : Prop := st ≤ nt ∧ nt ≤ 65540 ∧ 256 ≤ nt ∧ sb_Fit f ∧ ∀ j, j < st → h j = f j
def LId (si ni : Nat) (f h : Nat → Int32) : Prop := si ≤ ni ∧ ni ≤ 65535 ∧ 256 ≤ ni ∧ sb_Fit f ∧ ∀ j, j < si → h j = f j
def LEd (op c0 cM ne si : Nat) (fe gm gp gl gc : Nat → Int32) : Prop := op ≤ 1 ∧ (op = 0 → c0 = 0) ∧ (op = 1 → cM = c0) ∧ c0 ≤ 64 ∧ c0 * 64 ≤ ne ∧ ne ≤ 4096 ∧ sb_Fit fe ∧ (∀ t, t < c0 → ∀ j, j < 48 → gm (48 * t + j) = fe (t * 64 + j)) ∧ (∀ t, t < c0 → gp t = be4 fe (t * 64 + 48) ∧ gl t = be4 fe (t * 64 + 52) ∧ gc t = be4 fe (t * 64 + 56)) ∧ (∀ t, t < c0 → u32 (be4 fe (t * 64 + 48)) + u32 (be4 fe (t * 64 + 52)) ≤ si)
def LSd (sb nb lv : Nat) (f h : Nat → Int32) : Prop := sb ≤ nb ∧ nb ≤ 4096 ∧ lv ≤ 65536 ∧ sb_Fit f ∧ ∀ j, j < sb → h j = f j
def LPd (sn nn : Nat) (f : Nat → Int32) : Prop := sn ≤ nn ∧ nn ≤ 4106 ∧ 256 ≤ nn ∧ sb_Fit f
def LAd (sa na al bl : Nat) (fz gw gy : Nat → Int32) : Prop := sa ≤ na ∧ na ≤ 66047 ∧ 256 ≤ na ∧ sb_Fit fz ∧ al + bl = sa ∧ al ≤ 512 ∧ bl ≤ 65535 ∧ (∀ j, j < al → gw j = fz j) ∧ ∀ j, j < bl → gy j = fz (al + j)
def LKd (kc ks n st nt ni na : Nat) : Prop := kc ≤ 40 + 6 * n ∧ ks ≤ 300000 + pot3 65540 nt + pot3 65535 ni + pot3 66047 na + 12318 * n ∧ st ≤ 20 * n
theorem lkB {kc ks n st nt ni na : Nat} (h : LKd kc ks n st nt ni na) (hn : n ≤ 512) (h1 : nt ≤ 65540) (h2 : ni ≤ 65535) (h3 : na ≤ 66047) : kc ≤ 40 + 6 * n ∧ ks ≤ 891366 + 12318 * n ∧ st ≤ 20 * n := by
  have a := pot_le h1
  have b := pot_le h2
  have c := pot_le h3
  obtain ⟨d, e, f⟩ := h
  exact ⟨d, by omega, f⟩
theorem lk0 {kc ks n st st' a b c : Nat} (h : LKd kc ks n st a b c) (hs : st' ≤ st + 20) : LKd kc ks (n + 1) st' a b c := by
  obtain ⟨d, e, f⟩ := h
  exact ⟨by omega, by omega, by omega⟩
theorem lkZ {kc ks n st st' a b c : Nat} (h : LKd kc ks n st a b c) (hs : st' ≤ st + 20) : LKd (kc + 0) (ks + 0) (n + 1) st' a b c := lk0 h hs
theorem lk1 {kc ks n st st' a b c : Nat} (h : LKd kc ks n st a b c) (hs : st' ≤ st + 20) : LKd (kc + 1) (ks + 4096) (n + 1) st' a b c := by
  obtain ⟨d, e, f⟩ := h
  exact ⟨by omega, by omega, by omega⟩
theorem lkT {kc ks n st st' a a' b c need : Nat} (h : LKd kc ks n st a b c) (hs : st' ≤ st + 20) (hn : need ≤ 65540) (ha : a ≤ 65540) (e : a' = cpN 65540 a need) : LKd (kc + gcN a need) (ks + gsN 65540 a need) (n + 1) st' a' b c := by
  subst e
  have q := pot_gs hn ha
  have r := gcN_le1 a need
  obtain ⟨d, e, f⟩ := h
  exact ⟨by omega, by omega, by omega⟩
theorem lkI {kc ks n st st' a b b' c need : Nat} (h : LKd kc ks n st a b c) (hs : st' ≤ st + 20) (hn : need ≤ 65535) (ha : b ≤ 65535) (e : b' = cpN 65535 b need) : LKd (kc + gcN b need) (ks + gsN 65535 b need) (n + 1) st' a b' c := by
  subst e
  have q := pot_gs hn ha
  have r := gcN_le1 b need
  obtain ⟨d, e, f⟩ := h
  exact ⟨by omega, by omega, by omega⟩
theorem lkL {kc ks n st a b c c' need : Nat} (h : LKd kc ks n st a b c) (hn : need ≤ 66047) (ha : c ≤ 66047) (e : c' = cpN 66047 c need) : LKd (kc + (5 + gcN c need)) (ks + (12318 + gsN 66047 c need)) (n + 1) st a b c' := by
  subst e
  have q := pot_gs hn ha
  have r := gcN_le1 c need
  obtain ⟨d, e, f⟩ := h
  exact ⟨by omega, by omega, by omega⟩
theorem lkN {kc ks n st a b c c' : Nat} (h : LKd kc ks n st a b c) (e : c' = c) : LKd (kc + 5) (ks + 12318) (n + 1) st a b c' := by
  subst e
  obtain ⟨d, e, f⟩ := h
  exact ⟨by omega, by omega, by omega⟩
theorem cpB {lim n need m : Nat} (e : m = cpN lim n need) (h : need ≤ lim) (hn : n ≤ lim) (h6 : 256 ≤ n) : need ≤ m ∧ m ≤ lim ∧ 256 ≤ m := by
  subst e
  exact ⟨le_cpN _ _ _, cpN_le h hn, Nat.le_trans h6 (n_le_cpN hn)⟩
theorem feedJ {f h f' h' : Nat → Int32} {st : Nat} {x1 x2 x3 x4 x5 : Int32} (e : ∀ j, j < st → h j = f j) (ef : ∀ j, j < st → f' j = f j) (eh : ∀ j, j < st → h' j = h j)
    (a0 : ∀ j, j < 4 → f' (st + 0 + j) = wB x1 j) (a1 : ∀ j, j < 4 → f' (st + 4 + j) = wB x2 j) (a2 : ∀ j, j < 4 → f' (st + 8 + j) = wB x3 j) (a3 : ∀ j, j < 4 → f' (st + 12 + j) = wB x4 j) (a4 : ∀ j, j < 4 → f' (st + 16 + j) = wB x5 j)
    (b0 : ∀ j, j < 4 → h' (st + 0 + j) = wB x1 j) (b1 : ∀ j, j < 4 → h' (st + 4 + j) = wB x2 j) (b2 : ∀ j, j < 4 → h' (st + 8 + j) = wB x3 j) (b3 : ∀ j, j < 4 → h' (st + 12 + j) = wB x4 j) (b4 : ∀ j, j < 4 → h' (st + 16 + j) = wB x5 j) : ∀ j, j < st + 20 → h' j = f' j := by
  intro j hj
  by_cases h0 : j < st
  · rw [eh j h0, ef j h0, e j h0]
  by_cases h1 : j < st + 4
  · obtain ⟨k, hk, rfl⟩ : ∃ k, k < 4 ∧ j = st + 0 + k := ⟨j - st, by omega, by omega⟩
    rw [a0 k hk, b0 k hk]
  by_cases h2 : j < st + 8
  · obtain ⟨k, hk, rfl⟩ : ∃ k, k < 4 ∧ j = st + 4 + k := ⟨j - (st + 4), by omega, by omega⟩
    rw [a1 k hk, b1 k hk]
  by_cases h3 : j < st + 12
  · obtain ⟨k, hk, rfl⟩ : ∃ k, k < 4 ∧ j = st + 8 + k := ⟨j - (st + 8), by omega, by omega⟩
    rw [a2 k hk, b2 k hk]
  by_cases h4 : j < st + 16
  · obtain ⟨k, hk, rfl⟩ : ∃ k, k < 4 ∧ j = st + 12 + k := ⟨j - (st + 12), by omega, by omega⟩
    rw [a3 k hk, b3 k hk]
  obtain ⟨k, hk, rfl⟩ : ∃ k, k < 4 ∧ j = st + 16 + k := ⟨j - (st + 16), by omega, by omega⟩
  rw [a4 k hk, b4 k hk]
theorem comeJ {f h f' h' q : Nat → Int32} {sb st : Nat} (e : ∀ j, j < sb → h j = f j) (ef : ∀ j, j < sb → f' j = f j) (eh : ∀ j, j < sb → h' j = h j) (a : ∀ j, j < st → f' (sb + j) = q j) (b : ∀ j, j < st → h' (sb + j) = q j) : ∀ j, j < sb + st → h' j = f' j := by
  intro j hj
  by_cases h0 : j < sb
  · rw [eh j h0, ef j h0, e j h0]
  obtain ⟨k, hk, rfl⟩ : ∃ k, k < st ∧ j = sb + k := ⟨j - sb, by omega, by omega⟩
  rw [a k hk, b k hk]
theorem updJ {f h : Nat → Int32} {n a : Nat} {v : Int32} (hM : ∀ j, j < n → h j = f j) : ∀ j, j < n → upd h a v j = upd f a v j := by
  intro j hj
  by_cases e : j = a
  · subst e; rw [pk_us, pk_us]
  · rw [pk_un e, pk_un e]; exact hM j hj
theorem be4_sh {f1 f : Nat → Int32} {c t o : Nat} (h : ∀ j, j < c * 64 → f1 j = f (8 + j)) (ht : t < c) (ho : o + 4 ≤ 64) : be4 f1 (t * 64 + o) = be4 f (8 + t * 64 + o) := by
  unfold be4
  rw [h (t * 64 + o) (by omega), h (t * 64 + o + 1) (by omega), h (t * 64 + o + 2) (by omega), h (t * 64 + o + 3) (by omega), show 8 + (t * 64 + o) = 8 + t * 64 + o by omega, show 8 + (t * 64 + o + 1) = 8 + t * 64 + o + 1 by omega, show 8 + (t * 64 + o + 2) = 8 + t * 64 + o + 2 by omega, show 8 + (t * 64 + o + 3) = 8 + t * 64 + o + 3 by omega]
theorem openE {f f1 n1 p1 l1 c1 : Nat → Int32} {si ne : Nat} (hR : pRight f si (cntF f)) (hne : ne ≤ 4096 ∧ cntF f * 64 ≤ ne) (ec : ∀ j, j < cntF f * 64 → f1 j = f (8 + j)) (ft : sb_Fit f1) (en : ∀ t, t < cntF f → ∀ j, j < 48 → n1 (48 * t + j) = f (8 + t * 64 + j)) (ep : ∀ t, t < cntF f → p1 t = be4 f (8 + t * 64 + 48)) (el : ∀ t, t < cntF f → l1 t = be4 f (8 + t * 64 + 52)) (ek : ∀ t, t < cntF f → c1 t = be4 f (8 + t * 64 + 56)) : LEd 1 (cntF f) (cntF f) ne si f1 n1 p1 l1 c1 := by
  refine ⟨by decide, fun z => absurd z (by decide), fun _ => rfl, hR.1, hne.2, hne.1, ft, fun t ht j hj => ?_, fun t ht => ⟨?_, ?_, ?_⟩, fun t ht => ?_⟩
  · rw [en t ht j hj, ec _ (by omega), show 8 + (t * 64 + j) = 8 + t * 64 + j by omega]
  · rw [ep t ht, be4_sh ec ht (by decide)]
  · rw [el t ht, be4_sh ec ht (by decide)]
  · rw [ek t ht, be4_sh ec ht (by decide)]
  · rw [be4_sh ec ht (by decide), be4_sh ec ht (by decide)]
    exact (hR.2.2.2.2.2.2 t ht).1.2.1
theorem endX {x : Int32} {st j : Nat} (h : x < 0 ∨ nI st < x) (hx : x = nI j) (hj : j ≤ st) (hs : st < 2 ^ 31) : False := by
  subst hx
  rcases h with z | z
  · exact absurd ((nI_ltI (a := j) (b := 0) (by omega) (by decide)).mp z) (by omega)
  · exact absurd ((nI_ltI (a := st) (b := j) (by omega) (by omega)).mp z) (by omega)
theorem atX {x : Int32} {n j : Nat} (h : x < 0 ∨ nI n ≤ x) (hx : x = nI j) (hj : j < n) (hs : n < 2 ^ 31) : False := by
  subst hx
  rcases h with z | z
  · exact absurd ((nI_ltI (a := j) (b := 0) (by omega) (by decide)).mp z) (by omega)
  · exact absurd ((nI_leI (a := n) (b := j) (by omega) (by omega)).mp z) (by omega)
theorem sameJ {x : Int32} {j j' : Nat} (h : x = nI j) (h' : x = nI j') (a : j < 2 ^ 31) (b : j' < 2 ^ 31) : j = j' := (nI_eq a b).mp (h.symm.trans h')
theorem ansN {k e0 tk me cz c0 : Nat} {fe fq w1 y1 f5 : Nat → Int32} {al bl s5 n5 na : Nat} (hA : ANS k e0 tk me cz c0 fe fq w1 y1 al bl) (g1 : ¬ (k = 0 ∧ ¬ me = 1)) (g2 : n5 = na) (g3 : s5 = (aL k e0 tk me cz fe).length ∧ s5 ≤ 256) (g4 : hasL f5 0 (aL k e0 tk me cz fe)) (ft : sb_Fit f5) (h2 : na ≤ 66047) (h3 : 256 ≤ na) : LAd s5 n5 al bl f5 w1 y1 := by
  subst g2
  rcases hA with ⟨-, hb, ha, hl⟩ | ⟨hk, hm, -⟩
  · refine ⟨by omega, h2, h3, ft, by omega, by omega, by omega, fun j hj => ?_, fun j hj => absurd hj (by omega)⟩
    rw [hasL_at hl (by omega), hasL_at g4 (by omega)]
  · exact absurd ⟨hk, hm⟩ g1
theorem ansS {k e0 tk me cz c0 : Nat} {fe fq w1 y1 f5 : Nat → Int32} {al bl s5 n5 na : Nat} (hA : ANS k e0 tk me cz c0 fe fq w1 y1 al bl) (g1 : k = 0 ∧ ¬ me = 1 ∧ e0 < c0) (g2 : n5 = cpN 66047 na s5) (g3 : s5 = (hdL k (lnF fe e0) tk (be4 fe (e0 * 64 + 56)) cz).length + lnF fe e0 ∧ (hdL k (lnF fe e0) tk (be4 fe (e0 * 64 + 56)) cz).length ≤ 200) (g4 : hasL f5 0 (hdL k (lnF fe e0) tk (be4 fe (e0 * 64 + 56)) cz)) (g5 : ∀ j, j < lnF fe e0 → f5 ((hdL k (lnF fe e0) tk (be4 fe (e0 * 64 + 56)) cz).length + j) = fq (u32 (be4 fe (e0 * 64 + 48)) + j)) (ft : sb_Fit f5) (h2 : na ≤ 66047) (h3 : 256 ≤ na) : LAd s5 n5 al bl f5 w1 y1 := by
  have hln := lnF_le fe e0
  obtain ⟨c1, c2, c3⟩ := cpB g2 (by omega) h2 h3
  rcases hA with ⟨hn, -⟩ | ⟨-, -, -, hb, ha, hl, hy⟩
  · exact absurd ⟨g1.1, g1.2.1⟩ hn
  · refine ⟨c1, c2, c3, ft, by omega, by omega, by omega, fun j hj => ?_, fun j hj => ?_⟩
    · rw [hasL_at hl (by omega), hasL_at g4 (by omega)]
    · rw [hy j (by omega), ha, g5 j (by omega)]
theorem ansB {k e0 tk me cz c0 : Nat} {fe : Nat → Int32} {s5 : Nat} (g3 : s5 = (hdL k (lnF fe e0) tk (be4 fe (e0 * 64 + 56)) cz).length + lnF fe e0 ∧ (hdL k (lnF fe e0) tk (be4 fe (e0 * 64 + 56)) cz).length ≤ 200) : s5 ≤ 66047 := by
  have hln := lnF_le fe e0
  omega
theorem lsB {sb nb lv s1 l1 s2 e : Nat} (b1 : s1 = sb - min lv sb ∧ l1 = lv - min lv sb) (c1 : e ≤ s1 ∧ s2 = s1 - e) : s2 ≤ sb ∧ l1 ≤ lv := by omega
theorem lsJ1 {sb nb lv s1 l1 s2 e : Nat} {f h f2 h2 : Nat → Int32} (h0 : LSd sb nb lv f h) (b1 : s1 = sb - min lv sb ∧ l1 = lv - min lv sb) (c1 : e ≤ s1 ∧ s2 = s1 - e) (ft : sb_Fit f2) (e9 : ∀ j, j < s2 → h2 j = f2 j) : LSd s2 nb l1 f2 h2 := by
  obtain ⟨q1, q2, q3, q4, q5⟩ := h0
  obtain ⟨r1, r2⟩ := lsB b1 c1 (nb := nb)
  exact ⟨by omega, q2, by omega, ft, e9⟩
theorem lsJ2 {sb nb lv s1 l1 s2 e s3 d lb : Nat} {f h f3 h3 : Nat → Int32} (h0 : LSd sb nb lv f h) (b1 : s1 = sb - min lv sb ∧ l1 = lv - min lv sb) (c1 : e ≤ s1 ∧ s2 = s1 - e) (g3 : s3 + d = s2) (hl : lb ≤ 65536) (ft : sb_Fit f3) (e9 : ∀ j, j < s3 → h3 j = f3 j) : LSd s3 nb lb f3 h3 := by
  obtain ⟨q1, q2, q3, q4, q5⟩ := h0
  obtain ⟨r1, r2⟩ := lsB b1 c1 (nb := nb)
  exact ⟨by omega, q2, hl, ft, e9⟩
theorem sw15 (x : Int32) : ∃ d, d < 16 ∧ x &&& nI 15 = nI d := ⟨_, Nat.mod_lt _ (by decide), pk_and x 4 (by decide)⟩
theorem sub6 : ∀ L, L < 6 → nI L - nI 6 < nI 0 := by decide

