theorem all_s {P : Nat → Prop} {a i : Nat} (h : ∀ j, a ≤ j → j < i → P j) (hi : P i) : ∀ j, a ≤ j → j < i + 1 → P j := by
  intro j h1 h2
  rcases Nat.lt_or_ge j i with z | z
  · exact h j h1 z
  · have e : j = i := by omega
    rw [e]; exact hi
def be4 (f : Nat → Int32) (i : Nat) : Int32 := ((((f i &&& 255) <<< (nI 24 &&& 31)) ||| ((f (i + 1) &&& 255) <<< (nI 16 &&& 31))) ||| ((f (i + 2) &&& 255) <<< (nI 8 &&& 31))) ||| (f (i + 3) &&& 255)
theorem sub_eq3 {a b c : Nat} (ha : a < 2 ^ 29) (hb : b < 2 ^ 29) (hc : c < 2 ^ 29) : nI a - nI b = nI c ↔ a = b + c := by
  constructor
  · intro h
    have h1 : (nI a - nI b).toInt = (nI c).toInt := by rw [h]
    rw [pk_sub_toInt (by omega) (by omega), nI_toInt (by omega)] at h1
    omega
  · intro h
    subst h
    rw [pk_sub (by omega)]
    congr 1
    omega
def pText (f : Nat → Int32) (a b k : Nat) : Prop := b = a + slen k ∧ ∀ j, j < slen k → f (a + j) &&& 255 = sbyt k j &&& 255
def lowI (x : Int32) : Int32 := if pGreat x then x + nI 32 else x
def pWord (f : Nat → Int32) (a b k : Nat) : Prop := b = a + slen k ∧ ∀ j, j < slen k → lowI (f (a + j) &&& 255) = sbyt k j &&& 255
def pFind (f : Nat → Int32) (code : Int32) (a b r : Nat) : Prop := (∀ j, a ≤ j → j < r → ¬ f j &&& 255 = code) ∧ (r = b ∨ (a ≤ r ∧ r < b ∧ f r &&& 255 = code))
def nibS (c : Int32) : Int32 := (c.toUInt32 >>> (Int32.toUInt32 (nI 4) &&& Int32.toUInt32 31)).toInt32 ^^^ cTab.getD (c &&& nI 15).toNatClampNeg 0
def crcR (f : Nat → Int32) (a : Nat) : Nat → Int32
  | 0 => -1
  | i + 1 => nibS (nibS (crcR f a i ^^^ (f (a + i) &&& 255)))

set_option maxHeartbeats 4000000 in
set_option maxRecDepth 100000 in
theorem c_intFrom (l : Launch) (g : GT) (h : Nat) (q : Nat) (lim : Nat) (n : Nat) (sz : Nat) (f : Nat → Int32) (i : Nat) (hsn : sz ≤ n) (hnb : n < 2 ^ 30) (hi : i + 4 ≤ sz) : CT l g yX4_intFrom wsX4_intFrom ({ frames := 1, cells := 0, slots := 0, locals := 21 } : Room) [.ref h, .int (nI i)] [(h, .inr (3, [.int (nI lim), .ref q, .int (nI sz)])), (q, .inl (gB g, n, .inl f))] (fun r w => (r = some (.int (be4 f i)) ∧ w = [(h, .inr (3, [.int (nI lim), .ref q, .int (nI sz)])), (q, .inl (gB g, n, .inl f))])) (0) (0) := by
  refine ct_of (cc := cX4_intFrom) (maxL := 2) (ret := (some .int)) (by decide) rfl (Nat.le_of_ble_eq_true rfl) ?_
  intro p e s m args below meth c A Q hx hb hr hml hown hts hlocks hnam hAe hQ hA hG hK hP hD hS ls hl
  have hl : lv_has ls 2 [(0, .ref h), (1, .int (nI i))] := hl
  have hown : s.vm.findClass RX4 = some m.cls := hown
  have hinX4 : ∀ w ∈ u_ws RX4 TX4 3, w ∈ wsX4_intFrom := by decide +kernel
  have hf19 := hts (.fieldLink RX4 19 "RequestReader$Row" "size" "I") (by decide +kernel)
  refine lv_iload_n hx hb dX4_intFrom_0 rfl (lv_at hl 1 rfl) ?_
  refine lv_if_lt (tgt := 14) hx hb dX4_intFrom_1 (by decide) (fun c1 => ?_) (fun c1 => ?_)
  · skip
    have c1 : i < 0 := (nI_ltI (a := i) (b := 0) (by omega) (by omega)).mp c1
    exact absurd c1 (by omega)
  · skip
    have c1 : ¬ (i < 0) := fun z => c1 ((nI_ltI (a := i) (b := 0) (by omega) (by omega)).mpr z)
    refine lv_iload_n hx hb dX4_intFrom_4 rfl (lv_at hl 1 rfl) ?_
    refine lv_aload_n hx hb dX4_intFrom_5 rfl (lv_at hl 0 rfl) ?_
    refine va_get (D := gD g) (ci := 3) (v := .int (nI sz)) (C := RX4) (T := TX4) (N := 3) hx hb hts hinX4 hown hK hP 0 rfl rfl 2 (by decide) hf19 (fun _ h9 => h9) rfl dX4_intFrom_6 ?_
    refine lv_iconst (v := nI 4) hx hb dX4_intFrom_9 (by decide) ?_
    refine q_isub (v := nI (sz - 4)) hx hb dX4_intFrom_10 (pk_sub (a := sz) (b := 4) (by omega)) ?_
    refine lv_icmp_le (tgt := 16) hx hb dX4_intFrom_11 (by decide) (fun c11 => ?_) (fun c11 => ?_)
    · skip
      have c11 : i ≤ sz - 4 := (nI_leI (a := i) (b := sz - 4) (by omega) (by omega)).mp c11
      refine lv_aload_n hx hb dX4_intFrom_16 rfl (lv_at hl 0 rfl) ?_
      refine lv_iload_n hx hb dX4_intFrom_17 rfl (lv_at hl 1 rfl) ?_
      refine ct_callV (wr := []) hx hb hml hown hts hK hP hD hS hA hG hl.1 (c_getIn l g h q lim n sz f i (by omega) (by omega) (by omega)) (cwV 1 hts gX4_intFrom_X4_get rfl rfl rfl (by decide +kernel) ⟨Nat.le_of_ble_eq_true rfl, Nat.le_of_ble_eq_true rfl⟩) (va_recv hK hP (ci := 3) (q0 := 0) rfl rfl) rfl rfl (Nat.le_of_ble_eq_true rfl) dX4_intFrom_18 ⟨show 0 + 0 ≤ 0 by omega, show 0 + 0 ≤ 0 by omega⟩ [0, 1] [] rfl rfl (by decide) (by decide) (by decide) (fun r_ w_ H locs hp_ hP hD hS => ?_)
      obtain ⟨rfl, rfl⟩ := hp_
      have hP : va_P (gD g) vwCl [(h, .inr (3, [.int (nI lim), .ref q, .int (nI sz)])), (q, .inl (gB g, n, .inl f))] H := hP
      have hD : va_D A [(h, .inr (3, [.int (nI lim), .ref q, .int (nI sz)])), (q, .inl (gB g, n, .inl f))] := hD
      refine W.eq (g2 := F0 m 21 ls [.int (f i &&& 255)]) rfl ?_
      refine lv_bipush (v := nI 24) hx hb dX4_intFrom_21 (by decide) ?_
      refine q_ishl (v := (f i &&& 255) <<< (nI 24 &&& 31)) hx hb dX4_intFrom_23 (rfl) ?_
      refine lv_aload_n hx hb dX4_intFrom_24 rfl (lv_at hl 0 rfl) ?_
      refine lv_iload_n hx hb dX4_intFrom_25 rfl (lv_at hl 1 rfl) ?_
      refine lv_iconst (v := nI 1) hx hb dX4_intFrom_26 (by decide) ?_
      refine q_iadd (v := nI (i + 1)) hx hb dX4_intFrom_27 (nI_add i 1) ?_
      refine ct_callV (wr := []) hx hb hml hown hts hK hP hD hS hA hG hl.1 (c_getIn l g h q lim n sz f (i + 1) (by omega) (by omega) (by omega)) (cwV 1 hts gX4_intFrom_X4_get rfl rfl rfl (by decide +kernel) ⟨Nat.le_of_ble_eq_true rfl, Nat.le_of_ble_eq_true rfl⟩) (va_recv hK hP (ci := 3) (q0 := 0) rfl rfl) rfl rfl (Nat.le_of_ble_eq_true rfl) dX4_intFrom_28 ⟨show 0 + 0 ≤ 0 by omega, show 0 + 0 ≤ 0 by omega⟩ [0, 1] [] rfl rfl (by decide) (by decide) (by decide) (fun r_ w_ H locs hp_ hP hD hS => ?_)
      obtain ⟨rfl, rfl⟩ := hp_
      have hP : va_P (gD g) vwCl [(h, .inr (3, [.int (nI lim), .ref q, .int (nI sz)])), (q, .inl (gB g, n, .inl f))] H := hP
      have hD : va_D A [(h, .inr (3, [.int (nI lim), .ref q, .int (nI sz)])), (q, .inl (gB g, n, .inl f))] := hD
      refine W.eq (g2 := F0 m 31 ls [.int (f (i + 1) &&& 255), .int ((f i &&& 255) <<< (nI 24 &&& 31))]) rfl ?_
      refine lv_bipush (v := nI 16) hx hb dX4_intFrom_31 (by decide) ?_
      refine q_ishl (v := (f (i + 1) &&& 255) <<< (nI 16 &&& 31)) hx hb dX4_intFrom_33 (rfl) ?_
      refine q_ior (v := ((f i &&& 255) <<< (nI 24 &&& 31)) ||| ((f (i + 1) &&& 255) <<< (nI 16 &&& 31))) hx hb dX4_intFrom_34 (rfl) ?_
      refine lv_aload_n hx hb dX4_intFrom_35 rfl (lv_at hl 0 rfl) ?_
      refine lv_iload_n hx hb dX4_intFrom_36 rfl (lv_at hl 1 rfl) ?_
      refine lv_iconst (v := nI 2) hx hb dX4_intFrom_37 (by decide) ?_
      refine q_iadd (v := nI (i + 2)) hx hb dX4_intFrom_38 (nI_add i 2) ?_
      refine ct_callV (wr := []) hx hb hml hown hts hK hP hD hS hA hG hl.1 (c_getIn l g h q lim n sz f (i + 2) (by omega) (by omega) (by omega)) (cwV 1 hts gX4_intFrom_X4_get rfl rfl rfl (by decide +kernel) ⟨Nat.le_of_ble_eq_true rfl, Nat.le_of_ble_eq_true rfl⟩) (va_recv hK hP (ci := 3) (q0 := 0) rfl rfl) rfl rfl (Nat.le_of_ble_eq_true rfl) dX4_intFrom_39 ⟨show 0 + 0 ≤ 0 by omega, show 0 + 0 ≤ 0 by omega⟩ [0, 1] [] rfl rfl (by decide) (by decide) (by decide) (fun r_ w_ H locs hp_ hP hD hS => ?_)
      obtain ⟨rfl, rfl⟩ := hp_
      have hP : va_P (gD g) vwCl [(h, .inr (3, [.int (nI lim), .ref q, .int (nI sz)])), (q, .inl (gB g, n, .inl f))] H := hP
      have hD : va_D A [(h, .inr (3, [.int (nI lim), .ref q, .int (nI sz)])), (q, .inl (gB g, n, .inl f))] := hD
      refine W.eq (g2 := F0 m 42 ls [.int (f (i + 2) &&& 255), .int (((f i &&& 255) <<< (nI 24 &&& 31)) ||| ((f (i + 1) &&& 255) <<< (nI 16 &&& 31)))]) rfl ?_
      refine lv_bipush (v := nI 8) hx hb dX4_intFrom_42 (by decide) ?_
      refine q_ishl (v := (f (i + 2) &&& 255) <<< (nI 8 &&& 31)) hx hb dX4_intFrom_44 (rfl) ?_
      refine q_ior (v := (((f i &&& 255) <<< (nI 24 &&& 31)) ||| ((f (i + 1) &&& 255) <<< (nI 16 &&& 31))) ||| ((f (i + 2) &&& 255) <<< (nI 8 &&& 31))) hx hb dX4_intFrom_45 (rfl) ?_
      refine lv_aload_n hx hb dX4_intFrom_46 rfl (lv_at hl 0 rfl) ?_
      refine lv_iload_n hx hb dX4_intFrom_47 rfl (lv_at hl 1 rfl) ?_
      refine lv_iconst (v := nI 3) hx hb dX4_intFrom_48 (by decide) ?_
      refine q_iadd (v := nI (i + 3)) hx hb dX4_intFrom_49 (nI_add i 3) ?_
      refine ct_callV (wr := []) hx hb hml hown hts hK hP hD hS hA hG hl.1 (c_getIn l g h q lim n sz f (i + 3) (by omega) (by omega) (by omega)) (cwV 1 hts gX4_intFrom_X4_get rfl rfl rfl (by decide +kernel) ⟨Nat.le_of_ble_eq_true rfl, Nat.le_of_ble_eq_true rfl⟩) (va_recv hK hP (ci := 3) (q0 := 0) rfl rfl) rfl rfl (Nat.le_of_ble_eq_true rfl) dX4_intFrom_50 ⟨show 0 + 0 ≤ 0 by omega, show 0 + 0 ≤ 0 by omega⟩ [0, 1] [] rfl rfl (by decide) (by decide) (by decide) (fun r_ w_ H locs hp_ hP hD hS => ?_)
      obtain ⟨rfl, rfl⟩ := hp_
      have hP : va_P (gD g) vwCl [(h, .inr (3, [.int (nI lim), .ref q, .int (nI sz)])), (q, .inl (gB g, n, .inl f))] H := hP
      have hD : va_D A [(h, .inr (3, [.int (nI lim), .ref q, .int (nI sz)])), (q, .inl (gB g, n, .inl f))] := hD
      refine W.eq (g2 := F0 m 53 ls [.int (f (i + 3) &&& 255), .int ((((f i &&& 255) <<< (nI 24 &&& 31)) ||| ((f (i + 1) &&& 255) <<< (nI 16 &&& 31))) ||| ((f (i + 2) &&& 255) <<< (nI 8 &&& 31)))]) rfl ?_
      refine q_ior (v := ((((f i &&& 255) <<< (nI 24 &&& 31)) ||| ((f (i + 1) &&& 255) <<< (nI 16 &&& 31))) ||| ((f (i + 2) &&& 255) <<< (nI 8 &&& 31))) ||| (f (i + 3) &&& 255)) hx hb dX4_intFrom_53 (rfl) ?_
      refine ct_iret (w := [(h, .inr (3, [.int (nI lim), .ref q, .int (nI sz)])), (q, .inl (gB g, n, .inl f))]) hx hb hr rfl hlocks hQ hAe hK (hP.sub [0, 1] rfl) (hD.sub [0, 1] (by decide) rfl) hS (by omega) (by omega) dX4_intFrom_54 ?_
      exact ⟨rfl, rfl⟩
    · skip
      have c11 : ¬ (i ≤ sz - 4) := fun z => c11 ((nI_leI (a := i) (b := sz - 4) (by omega) (by omega)).mpr z)
      exact absurd (by omega) c11

set_option maxHeartbeats 4000000 in
set_option maxRecDepth 100000 in
theorem c_set (l : Launch) (g : GT) (h : Nat) (q : Nat) (lim : Nat) (n : Nat) (sz : Nat) (f : Nat → Int32) (x : Int32) (v : Int32) (hsn : sz ≤ n) (hnb : n < 2 ^ 30) (hfit : sb_Fit f) : CT l g yX4_set wsX4_set ({ frames := 0, cells := 0, slots := 0, locals := 0 } : Room) [.ref h, .int x, .int v] [(h, .inr (3, [.int (nI lim), .ref q, .int (nI sz)])), (q, .inl (gB g, n, .inl f))] (fun r w => (r = some (.int (nI 0)) ∧ w = [(h, .inr (3, [.int (nI lim), .ref q, .int (nI sz)])), (q, .inl (gB g, n, .inl f))] ∧ (x < 0 ∨ nI sz ≤ x)) ∨ (∃ (j : Nat) (f1 : Nat → Int32), r = some (.int (nI 1)) ∧ w = [(h, .inr (3, [.int (nI lim), .ref q, .int (nI sz)])), (q, .inl (gB g, n, .inl f1))] ∧ (x = nI j) ∧ (j < sz) ∧ (f1 = upd f j v.toInt8.toInt32) ∧ (sb_Fit f1))) (0) (0) := by
  refine ct_of (cc := cX4_set) (maxL := 3) (ret := (some .boolean)) (by decide) rfl (Nat.le_of_ble_eq_true rfl) ?_
  intro p e s m args below meth c A Q hx hb hr hml hown hts hlocks hnam hAe hQ hA hG hK hP hD hS ls hl
  have hl : lv_has ls 3 [(0, .ref h), (1, .int x), (2, .int v)] := hl
  have hown : s.vm.findClass RX4 = some m.cls := hown
  have hinX4 : ∀ w ∈ u_ws RX4 TX4 3, w ∈ wsX4_set := by decide +kernel
  have hf15 := hts (.fieldLink RX4 15 "RequestReader$Row" "cells" "[B") (by decide +kernel)
  have hf19 := hts (.fieldLink RX4 19 "RequestReader$Row" "size" "I") (by decide +kernel)
  refine lv_iload_n hx hb dX4_set_0 rfl (lv_at hl 1 rfl) ?_
  refine lv_if_lt (tgt := 12) hx hb dX4_set_1 (by decide) (fun c1 => ?_) (fun c1 => ?_)
  · skip
    refine lv_iconst (v := nI 0) hx hb dX4_set_12 (by decide) ?_
    refine ct_iret (w := [(h, .inr (3, [.int (nI lim), .ref q, .int (nI sz)])), (q, .inl (gB g, n, .inl f))]) hx hb hr rfl hlocks hQ hAe hK (hP.sub [0, 1] rfl) (hD.sub [0, 1] (by decide) rfl) hS (by omega) (by omega) dX4_set_13 ?_
    refine Or.inl (?_)
    exact ⟨rfl, rfl, by first | exact Or.inl c1 | exact Or.inr (Int32.not_lt.mp c9)⟩
  · skip
    refine lv_iload_n hx hb dX4_set_4 rfl (lv_at hl 1 rfl) ?_
    refine lv_aload_n hx hb dX4_set_5 rfl (lv_at hl 0 rfl) ?_
    refine va_get (D := gD g) (ci := 3) (v := .int (nI sz)) (C := RX4) (T := TX4) (N := 3) hx hb hts hinX4 hown hK hP 0 rfl rfl 2 (by decide) hf19 (fun _ h9 => h9) rfl dX4_set_6 ?_
    refine lv_icmp_lt (tgt := 14) hx hb dX4_set_9 (by decide) (fun c9 => ?_) (fun c9 => ?_)
    · skip
      obtain ⟨j, hj, rfl⟩ := nI_of c1
      have hj2 : j < sz := (nI_ltI hj (by omega)).mp c9
      refine lv_aload_n hx hb dX4_set_14 rfl (lv_at hl 0 rfl) ?_
      refine va_get (D := gD g) (ci := 3) (v := .ref q) (C := RX4) (T := TX4) (N := 3) hx hb hts hinX4 hown hK hP 0 rfl rfl 1 (by decide) hf15 (fun _ h9 => h9) rfl dX4_set_15 ?_
      refine lv_iload_n hx hb dX4_set_18 rfl (lv_at hl 1 rfl) ?_
      refine lv_iload_n hx hb dX4_set_19 rfl (lv_at hl 2 rfl) ?_
      refine lv_i2b (v := v.toInt8.toInt32) hx hb dX4_set_20 (rfl) ?_
      refine q_bast hx hb hK hP hD hS 1 rfl (j) rfl (by omega) (by omega) dX4_set_21 (fun H locs hP hD hS => ?_)
      have hP : va_P (gD g) vwCl [(h, .inr (3, [.int (nI lim), .ref q, .int (nI sz)])), (q, .inl (gB g, n, .inl (upd f j v.toInt8.toInt32.toInt8.toInt32)))] H := hP
      have hD : va_D A [(h, .inr (3, [.int (nI lim), .ref q, .int (nI sz)])), (q, .inl (gB g, n, .inl (upd f j v.toInt8.toInt32.toInt8.toInt32)))] := hD
      refine lv_iconst (v := nI 1) hx hb dX4_set_22 (by decide) ?_
      refine ct_iret (w := [(h, .inr (3, [.int (nI lim), .ref q, .int (nI sz)])), (q, .inl (gB g, n, .inl (upd f j v.toInt8.toInt32.toInt8.toInt32)))]) hx hb hr rfl hlocks hQ hAe hK (hP.sub [0, 1] rfl) (hD.sub [0, 1] (by decide) rfl) hS (by omega) (by omega) dX4_set_23 ?_
      refine Or.inr ((?_))
      exact ⟨j, upd f j v.toInt8.toInt32.toInt8.toInt32, rfl, rfl, by rfl, by omega, by rw [b8b8], by exact sb_fitU hfit (pk_fb _)⟩
    · skip
      refine lv_iconst (v := nI 0) hx hb dX4_set_12 (by decide) ?_
      refine ct_iret (w := [(h, .inr (3, [.int (nI lim), .ref q, .int (nI sz)])), (q, .inl (gB g, n, .inl f))]) hx hb hr rfl hlocks hQ hAe hK (hP.sub [0, 1] rfl) (hD.sub [0, 1] (by decide) rfl) hS (by omega) (by omega) dX4_set_13 ?_
      refine Or.inl (?_)
      exact ⟨rfl, rfl, by first | exact Or.inl c1 | exact Or.inr (Int32.not_lt.mp c9)⟩

set_option maxHeartbeats 4000000 in
set_option maxRecDepth 100000 in
theorem c_cutTo (l : Launch) (g : GT) (h : Nat) (q : Nat) (lim : Nat) (n : Nat) (sz : Nat) (f : Nat → Int32) (k : Nat) (hsn : sz ≤ n) (hnb : n < 2 ^ 30) (hkb : k < 2 ^ 30) : CT l g yX4_cutTo wsX4_cutTo ({ frames := 0, cells := 0, slots := 0, locals := 0 } : Room) [.ref h, .int (nI k)] [(h, .inr (3, [.int (nI lim), .ref q, .int (nI sz)])), (q, .inl (gB g, n, .inl f))] (fun r w => (∃ (s1 : Nat), r = none ∧ w = [(h, .inr (3, [.int (nI lim), .ref q, .int (nI s1)])), (q, .inl (gB g, n, .inl f))] ∧ (s1 = min k sz))) (0) (0) := by
  refine ct_of (cc := cX4_cutTo) (maxL := 2) (ret := none) (by decide) rfl (Nat.le_of_ble_eq_true rfl) ?_
  intro p e s m args below meth c A Q hx hb hr hml hown hts hlocks hnam hAe hQ hA hG hK hP hD hS ls hl
  have hl : lv_has ls 2 [(0, .ref h), (1, .int (nI k))] := hl
  have hown : s.vm.findClass RX4 = some m.cls := hown
  have hinX4 : ∀ w ∈ u_ws RX4 TX4 3, w ∈ wsX4_cutTo := by decide +kernel
  have hf19 := hts (.fieldLink RX4 19 "RequestReader$Row" "size" "I") (by decide +kernel)
  refine lv_iload_n hx hb dX4_cutTo_0 rfl (lv_at hl 1 rfl) ?_
  refine lv_if_lt (tgt := 17) hx hb dX4_cutTo_1 (by decide) (fun c1 => ?_) (fun c1 => ?_)
  · skip
    have c1 : k < 0 := (nI_ltI (a := k) (b := 0) (by omega) (by omega)).mp c1
    exact absurd c1 (by omega)
  · skip
    have c1 : ¬ (k < 0) := fun z => c1 ((nI_ltI (a := k) (b := 0) (by omega) (by omega)).mpr z)
    refine lv_iload_n hx hb dX4_cutTo_4 rfl (lv_at hl 1 rfl) ?_
    refine lv_aload_n hx hb dX4_cutTo_5 rfl (lv_at hl 0 rfl) ?_
    refine va_get (D := gD g) (ci := 3) (v := .int (nI sz)) (C := RX4) (T := TX4) (N := 3) hx hb hts hinX4 hown hK hP 0 rfl rfl 2 (by decide) hf19 (fun _ h9 => h9) rfl dX4_cutTo_6 ?_
    refine lv_icmp_ge (tgt := 17) hx hb dX4_cutTo_9 (by decide) (fun c9 => ?_) (fun c9 => ?_)
    · skip
      have c9 : sz ≤ k := (nI_leI (a := sz) (b := k) (by omega) (by omega)).mp c9
      refine ct_vret (w := [(h, .inr (3, [.int (nI lim), .ref q, .int (nI sz)])), (q, .inl (gB g, n, .inl f))]) hx hb hr hlocks hQ hAe hK (hP.sub [0, 1] rfl) (hD.sub [0, 1] (by decide) rfl) hS (by omega) (by omega) dX4_cutTo_17 ?_
      exact ⟨sz, rfl, rfl, by omega⟩
    · skip
      have c9 : ¬ (sz ≤ k) := fun z => c9 ((nI_leI (a := sz) (b := k) (by omega) (by omega)).mpr z)
      refine lv_aload_n hx hb dX4_cutTo_12 rfl (lv_at hl 0 rfl) ?_
      refine lv_iload_n hx hb dX4_cutTo_13 rfl (lv_at hl 1 rfl) ?_
      refine va_put (D := gD g) (ci := 3) (v := .int (nI k)) (ty := .int) (C := RX4) (T := TX4) (N := 3) hx hb hts hinX4 tyX4 tyX4_ok nmX4 hown hK hP hD hS 0 rfl rfl 2 (by decide) hf19 (fun _ h9 => h9) rfl (by decide +kernel) rfl rfl (Nat.le_of_ble_eq_true rfl) dX4_cutTo_14 (fun H locs hP hD hS => ?_)
      have hP : va_P (gD g) vwCl [(h, .inr (3, [.int (nI lim), .ref q, .int (nI k)])), (q, .inl (gB g, n, .inl f))] H := hP
      have hD : va_D A [(h, .inr (3, [.int (nI lim), .ref q, .int (nI k)])), (q, .inl (gB g, n, .inl f))] := hD
      refine ct_vret (w := [(h, .inr (3, [.int (nI lim), .ref q, .int (nI k)])), (q, .inl (gB g, n, .inl f))]) hx hb hr hlocks hQ hAe hK (hP.sub [0, 1] rfl) (hD.sub [0, 1] (by decide) rfl) hS (by omega) (by omega) dX4_cutTo_17 ?_
      exact ⟨k, rfl, rfl, by omega⟩

set_option maxHeartbeats 4000000 in
set_option maxRecDepth 100000 in
theorem c_dropFirst (l : Launch) (g : GT) (h : Nat) (q : Nat) (lim : Nat) (n : Nat) (sz : Nat) (f : Nat → Int32) (k : Nat) (hsn : sz ≤ n) (hnb : n < 2 ^ 30) (hfit : sb_Fit f) (hk : k ≤ sz) : CT l g yX4_dropFirst wsX4_dropFirst ({ frames := 1, cells := 0, slots := 0, locals := 40 } : Room) [.ref h, .int (nI k)] [(h, .inr (3, [.int (nI lim), .ref q, .int (nI sz)])), (q, .inl (gB g, n, .inl f))] (fun r w => (∃ (s1 : Nat) (f1 : Nat → Int32), r = none ∧ w = [(h, .inr (3, [.int (nI lim), .ref q, .int (nI s1)])), (q, .inl (gB g, n, .inl f1))] ∧ (s1 = sz - k) ∧ (∀ j, j < s1 → f1 j = f (k + j)) ∧ (sb_Fit f1))) (0) (0) := by
  refine ct_of (cc := cX4_dropFirst) (maxL := 2) (ret := none) (by decide) rfl (Nat.le_of_ble_eq_true rfl) ?_
  intro p e s m args below meth c A Q hx hb hr hml hown hts hlocks hnam hAe hQ hA hG hK hP hD hS ls hl
  have hl : lv_has ls 2 [(0, .ref h), (1, .int (nI k))] := hl
  have hown : s.vm.findClass RX4 = some m.cls := hown
  have hinX4 : ∀ w ∈ u_ws RX4 TX4 3, w ∈ wsX4_dropFirst := by decide +kernel
  have hf15 := hts (.fieldLink RX4 15 "RequestReader$Row" "cells" "[B") (by decide +kernel)
  have hf19 := hts (.fieldLink RX4 19 "RequestReader$Row" "size" "I") (by decide +kernel)
  refine lv_iload_n hx hb dX4_dropFirst_0 rfl (lv_at hl 1 rfl) ?_
  refine lv_if_le (tgt := 41) hx hb dX4_dropFirst_1 (by decide) (fun c1 => ?_) (fun c1 => ?_)
  · skip
    have c1 : k ≤ 0 := (nI_leI (a := k) (b := 0) (by omega) (by omega)).mp c1
    refine ct_vret (w := [(h, .inr (3, [.int (nI lim), .ref q, .int (nI sz)])), (q, .inl (gB g, n, .inl f))]) hx hb hr hlocks hQ hAe hK (hP.sub [0, 1] rfl) (hD.sub [0, 1] (by decide) rfl) hS (by omega) (by omega) dX4_dropFirst_41 ?_
    exact ⟨sz, f, rfl, rfl, by omega, by first | exact fun j _ => by rw [show k + j = j by omega] | exact fun j hj => by rw [pk_cpy_in (by omega) (by omega)]; rfl, by first | assumption | exact sb_fitC hfit hfit⟩
  · skip
    have c1 : ¬ (k ≤ 0) := fun z => c1 ((nI_leI (a := k) (b := 0) (by omega) (by omega)).mpr z)
    refine lv_iload_n hx hb dX4_dropFirst_4 rfl (lv_at hl 1 rfl) ?_
    refine lv_aload_n hx hb dX4_dropFirst_5 rfl (lv_at hl 0 rfl) ?_
    refine va_get (D := gD g) (ci := 3) (v := .int (nI sz)) (C := RX4) (T := TX4) (N := 3) hx hb hts hinX4 hown hK hP 0 rfl rfl 2 (by decide) hf19 (fun _ h9 => h9) rfl dX4_dropFirst_6 ?_
    refine lv_icmp_gt (tgt := 41) hx hb dX4_dropFirst_9 (by decide) (fun c9 => ?_) (fun c9 => ?_)
    · skip
      have c9 : sz < k := (nI_ltI (a := sz) (b := k) (by omega) (by omega)).mp c9
      exact absurd c9 (by omega)
    · skip
      have c9 : ¬ (sz < k) := fun z => c9 ((nI_ltI (a := sz) (b := k) (by omega) (by omega)).mpr z)
      refine lv_aload_n hx hb dX4_dropFirst_12 rfl (lv_at hl 0 rfl) ?_
      refine va_get (D := gD g) (ci := 3) (v := .ref q) (C := RX4) (T := TX4) (N := 3) hx hb hts hinX4 hown hK hP 0 rfl rfl 1 (by decide) hf15 (fun _ h9 => h9) rfl dX4_dropFirst_13 ?_
      refine lv_iload_n hx hb dX4_dropFirst_16 rfl (lv_at hl 1 rfl) ?_
      refine lv_aload_n hx hb dX4_dropFirst_17 rfl (lv_at hl 0 rfl) ?_
      refine va_get (D := gD g) (ci := 3) (v := .ref q) (C := RX4) (T := TX4) (N := 3) hx hb hts hinX4 hown hK hP 0 rfl rfl 1 (by decide) hf15 (fun _ h9 => h9) rfl dX4_dropFirst_18 ?_
      refine lv_iconst (v := nI 0) hx hb dX4_dropFirst_21 (by decide) ?_
      refine lv_aload_n hx hb dX4_dropFirst_22 rfl (lv_at hl 0 rfl) ?_
      refine va_get (D := gD g) (ci := 3) (v := .int (nI sz)) (C := RX4) (T := TX4) (N := 3) hx hb hts hinX4 hown hK hP 0 rfl rfl 2 (by decide) hf19 (fun _ h9 => h9) rfl dX4_dropFirst_23 ?_
      refine lv_iload_n hx hb dX4_dropFirst_26 rfl (lv_at hl 1 rfl) ?_
      refine q_isub (v := nI (sz - k)) hx hb dX4_dropFirst_27 (pk_sub (a := sz) (b := k) (by omega)) ?_
      refine q_copy hx hb (by rw [hml]; exact hl.1.symm) hown (hts (.methodLink RX4 26 arraycopyName) (by decide +kernel)) (hts (.native arraycopyName) (by decide +kernel)) (hts (.static arraycopyName) (by decide +kernel)) (hts (.initialized "java/lang/System") (by decide +kernel)) hK hP hD hS 1 1 rfl rfl (k) (0) (sz - k) rfl rfl rfl (by omega) (by omega) (by omega) (by omega) (by assumption) (Nat.le_of_ble_eq_true rfl) (Nat.le_of_ble_eq_true rfl) dX4_dropFirst_28 (fun H locs hP hD hS => ?_)
      have hP : va_P (gD g) vwCl [(h, .inr (3, [.int (nI lim), .ref q, .int (nI sz)])), (q, .inl (gB g, n, .inl (va_cpy f f k 0 (sz - k))))] H := hP
      have hD : va_D A [(h, .inr (3, [.int (nI lim), .ref q, .int (nI sz)])), (q, .inl (gB g, n, .inl (va_cpy f f k 0 (sz - k))))] := hD
      refine lv_aload_n hx hb dX4_dropFirst_31 rfl (lv_at hl 0 rfl) ?_
      refine lv_dup hx hb dX4_dropFirst_32 rfl ?_
      refine va_get (D := gD g) (ci := 3) (v := .int (nI sz)) (C := RX4) (T := TX4) (N := 3) hx hb hts hinX4 hown hK hP 0 rfl rfl 2 (by decide) hf19 (fun _ h9 => h9) rfl dX4_dropFirst_33 ?_
      refine lv_iload_n hx hb dX4_dropFirst_36 rfl (lv_at hl 1 rfl) ?_
      refine q_isub (v := nI (sz - k)) hx hb dX4_dropFirst_37 (pk_sub (a := sz) (b := k) (by omega)) ?_
      refine va_put (D := gD g) (ci := 3) (v := .int (nI (sz - k))) (ty := .int) (C := RX4) (T := TX4) (N := 3) hx hb hts hinX4 tyX4 tyX4_ok nmX4 hown hK hP hD hS 0 rfl rfl 2 (by decide) hf19 (fun _ h9 => h9) rfl (by decide +kernel) rfl rfl (Nat.le_of_ble_eq_true rfl) dX4_dropFirst_38 (fun H locs hP hD hS => ?_)
      have hP : va_P (gD g) vwCl [(h, .inr (3, [.int (nI lim), .ref q, .int (nI (sz - k))])), (q, .inl (gB g, n, .inl (va_cpy f f k 0 (sz - k))))] H := hP
      have hD : va_D A [(h, .inr (3, [.int (nI lim), .ref q, .int (nI (sz - k))])), (q, .inl (gB g, n, .inl (va_cpy f f k 0 (sz - k))))] := hD
      refine ct_vret (w := [(h, .inr (3, [.int (nI lim), .ref q, .int (nI (sz - k))])), (q, .inl (gB g, n, .inl (va_cpy f f k 0 (sz - k))))]) hx hb hr hlocks hQ hAe hK (hP.sub [0, 1] rfl) (hD.sub [0, 1] (by decide) rfl) hS (by omega) (by omega) dX4_dropFirst_41 ?_
      exact ⟨sz - k, va_cpy f f k 0 (sz - k), rfl, rfl, by omega, by first | exact fun j _ => by rw [show k + j = j by omega] | exact fun j hj => by rw [pk_cpy_in (by omega) (by omega)]; rfl, by first | assumption | exact sb_fitC hfit hfit⟩

set_option maxHeartbeats 4000000 in
set_option maxRecDepth 100000 in
theorem c_addRange (l : Launch) (g : GT) (h : Nat) (q : Nat) (lim : Nat) (n : Nat) (sz : Nat) (f : Nat → Int32) (h2 : Nat) (q2 : Nat) (lim2 : Nat) (n2 : Nat) (sz2 : Nat) (f2 : Nat → Int32) (i : Nat) (k : Nat) (hsn : sz ≤ n) (hnb : n < 2 ^ 30) (hnl : n ≤ lim) (hlb : lim < 2 ^ 27) (hfit : sb_Fit f) (hk : sz + k ≤ lim) (hs2 : sz2 ≤ n2) (hn2 : n2 < 2 ^ 30) (hfit2 : sb_Fit f2) (hik : i + k ≤ sz2) : CT l g yX4_addRange wsX4_addRange ({ frames := 2, cells := gcN n (sz + k), slots := gsN lim n (sz + k), locals := 63 } : Room) [.ref h, .ref h2, .int (nI i), .int (nI k)] [(h, .inr (3, [.int (nI lim), .ref q, .int (nI sz)])), (q, .inl (gB g, n, .inl f)), (h2, .inr (3, [.int (nI lim2), .ref q2, .int (nI sz2)])), (q2, .inl (gB g, n2, .inl f2))] (fun r w => (∃ (q1 : Nat) (n1 : Nat) (f1 : Nat → Int32), r = none ∧ w = [(h, .inr (3, [.int (nI lim), .ref q1, .int (nI (sz + k))])), (q1, .inl (gB g, n1, .inl f1)), (h2, .inr (3, [.int (nI lim2), .ref q2, .int (nI sz2)])), (q2, .inl (gB g, n2, .inl f2))] ∧ (n1 = cpN lim n (sz + k)) ∧ (∀ j, j < sz → f1 j = f j) ∧ (∀ j, j < k → f1 (sz + j) = f2 (i + j)) ∧ (sb_Fit f1))) (gcN n (sz + k)) (gsN lim n (sz + k)) := by
  refine ct_of (cc := cX4_addRange) (maxL := 4) (ret := none) (by decide) rfl (Nat.le_of_ble_eq_true rfl) ?_
  intro p e s m args below meth c A Q hx hb hr hml hown hts hlocks hnam hAe hQ hA hG hK hP hD hS ls hl
  have hl : lv_has ls 4 [(0, .ref h), (1, .ref h2), (2, .int (nI i)), (3, .int (nI k))] := hl
  have hown : s.vm.findClass RX4 = some m.cls := hown
  have hinX4 : ∀ w ∈ u_ws RX4 TX4 3, w ∈ wsX4_addRange := by decide +kernel
  have hf15 := hts (.fieldLink RX4 15 "RequestReader$Row" "cells" "[B") (by decide +kernel)
  have hf19 := hts (.fieldLink RX4 19 "RequestReader$Row" "size" "I") (by decide +kernel)
  refine lv_iload_n hx hb dX4_addRange_0 rfl (lv_at hl 2 rfl) ?_
  refine lv_if_lt (tgt := 26) hx hb dX4_addRange_1 (by decide) (fun c1 => ?_) (fun c1 => ?_)
  · skip
    have c1 : i < 0 := (nI_ltI (a := i) (b := 0) (by omega) (by omega)).mp c1
    exact absurd c1 (by omega)
  · skip
    have c1 : ¬ (i < 0) := fun z => c1 ((nI_ltI (a := i) (b := 0) (by omega) (by omega)).mpr z)
    refine lv_iload_n hx hb dX4_addRange_4 rfl (lv_at hl 3 rfl) ?_
    refine lv_if_lt (tgt := 26) hx hb dX4_addRange_5 (by decide) (fun c5 => ?_) (fun c5 => ?_)
    · skip
      have c5 : k < 0 := (nI_ltI (a := k) (b := 0) (by omega) (by omega)).mp c5
      exact absurd c5 (by omega)
    · skip
      have c5 : ¬ (k < 0) := fun z => c5 ((nI_ltI (a := k) (b := 0) (by omega) (by omega)).mpr z)
      refine lv_iload_n hx hb dX4_addRange_8 rfl (lv_at hl 2 rfl) ?_
      refine lv_aload_n hx hb dX4_addRange_9 rfl (lv_at hl 1 rfl) ?_
      refine va_get (D := gD g) (ci := 3) (v := .int (nI sz2)) (C := RX4) (T := TX4) (N := 3) hx hb hts hinX4 hown hK hP 2 rfl rfl 2 (by decide) hf19 (fun _ h9 => h9) rfl dX4_addRange_10 ?_
      refine lv_iload_n hx hb dX4_addRange_13 rfl (lv_at hl 3 rfl) ?_
      refine q_isub (v := nI (sz2 - k)) hx hb dX4_addRange_14 (pk_sub (a := sz2) (b := k) (by omega)) ?_
      refine lv_icmp_gt (tgt := 26) hx hb dX4_addRange_15 (by decide) (fun c15 => ?_) (fun c15 => ?_)
      · skip
        have c15 : sz2 - k < i := (nI_ltI (a := sz2 - k) (b := i) (by omega) (by omega)).mp c15
        exact absurd c15 (by omega)
      · skip
        have c15 : ¬ (sz2 - k < i) := fun z => c15 ((nI_ltI (a := sz2 - k) (b := i) (by omega) (by omega)).mpr z)
        refine lv_aload_n hx hb dX4_addRange_18 rfl (lv_at hl 0 rfl) ?_
        refine lv_iload_n hx hb dX4_addRange_19 rfl (lv_at hl 3 rfl) ?_
        refine ct_callV (wr := [(h2, .inr (3, [.int (nI lim2), .ref q2, .int (nI sz2)])), (q2, .inl (gB g, n2, .inl f2))]) hx hb hml hown hts hK hP hD hS hA hG hl.1 (c_makeRoom l g h q lim n sz f k (by omega) (by omega) (by omega) (by omega) (by assumption) (by omega)) (cwV 1 hts gX4_addRange_X4_makeRoom rfl rfl rfl (by decide +kernel) ⟨Nat.le_of_ble_eq_true rfl, Nat.le_of_ble_eq_true rfl⟩) (va_recv hK hP (ci := 3) (q0 := 0) rfl rfl) rfl rfl (Nat.le_of_ble_eq_true rfl) dX4_addRange_20 ⟨show 0 + (gcN n (sz + k)) ≤ gcN n (sz + k) by first | omega | exact Nat.zero_le _, show 0 + (gsN lim n (sz + k)) ≤ gsN lim n (sz + k) by first | omega | exact Nat.zero_le _⟩ [0, 1] [2, 3] rfl rfl (by decide) (by decide) (by decide) (fun r_ w_ H locs hp_ hP hD hS => ?_)
        obtain ⟨q1_20, n1_20, f1_20, rfl, rfl, en_20, ef_20, ft_20⟩ := hp_
        have hP : va_P (gD g) vwCl [(h2, .inr (3, [.int (nI lim2), .ref q2, .int (nI sz2)])), (q2, .inl (gB g, n2, .inl f2)), (h, .inr (3, [.int (nI lim), .ref q1_20, .int (nI sz)])), (q1_20, .inl (gB g, n1_20, .inl f1_20))] H := hP
        have hD : va_D A [(h2, .inr (3, [.int (nI lim2), .ref q2, .int (nI sz2)])), (q2, .inl (gB g, n2, .inl f2)), (h, .inr (3, [.int (nI lim), .ref q1_20, .int (nI sz)])), (q1_20, .inl (gB g, n1_20, .inl f1_20))] := hD
        have en_20 : n1_20 = cpN lim n (sz + k) := en_20
        have ef_20 : ∀ j, j < sz → f1_20 j = f j := ef_20
        have ft_20 : sb_Fit f1_20 := ft_20
        refine W.widen (k := gcN n (sz + k)) (n := gsN lim n (sz + k)) (by omega) (by omega) ?_
        refine W.eq (g2 := F0 m 23 ls [.int (nI 1)]) rfl ?_
        have hq1 := le_cpN lim n (sz + k)
        have hq2 := cpN_le (lim := lim) (n := n) (need := sz + k) (by omega) (by omega)
        have hq3 := n_le_cpN (lim := lim) (n := n) (need := sz + k) (by omega)
        refine lv_if_ne (tgt := 27) hx hb dX4_addRange_23 (by decide) (fun _ => ?_) (fun c23 => absurd c23 (by decide))
        refine lv_aload_n hx hb dX4_addRange_27 rfl (lv_at hl 1 rfl) ?_
        refine va_get (D := gD g) (ci := 3) (v := .ref q2) (C := RX4) (T := TX4) (N := 3) hx hb hts hinX4 hown hK hP 0 rfl rfl 1 (by decide) hf15 (fun _ h9 => h9) rfl dX4_addRange_28 ?_
        refine lv_iload_n hx hb dX4_addRange_31 rfl (lv_at hl 2 rfl) ?_
        refine lv_aload_n hx hb dX4_addRange_32 rfl (lv_at hl 0 rfl) ?_
        refine va_get (D := gD g) (ci := 3) (v := .ref q1_20) (C := RX4) (T := TX4) (N := 3) hx hb hts hinX4 hown hK hP 2 rfl rfl 1 (by decide) hf15 (fun _ h9 => h9) rfl dX4_addRange_33 ?_
        refine lv_aload_n hx hb dX4_addRange_36 rfl (lv_at hl 0 rfl) ?_
        refine va_get (D := gD g) (ci := 3) (v := .int (nI sz)) (C := RX4) (T := TX4) (N := 3) hx hb hts hinX4 hown hK hP 2 rfl rfl 2 (by decide) hf19 (fun _ h9 => h9) rfl dX4_addRange_37 ?_
        refine lv_iload_n hx hb dX4_addRange_40 rfl (lv_at hl 3 rfl) ?_
        refine q_copy hx hb (by rw [hml]; exact hl.1.symm) hown (hts (.methodLink RX4 26 arraycopyName) (by decide +kernel)) (hts (.native arraycopyName) (by decide +kernel)) (hts (.static arraycopyName) (by decide +kernel)) (hts (.initialized "java/lang/System") (by decide +kernel)) hK hP hD hS 1 3 rfl rfl (i) (sz) (k) rfl rfl rfl (by omega) (by omega) (by omega) (by omega) (hfit2) (Nat.le_of_ble_eq_true rfl) (Nat.le_of_ble_eq_true rfl) dX4_addRange_41 (fun H locs hP hD hS => ?_)
        have hP : va_P (gD g) vwCl [(h2, .inr (3, [.int (nI lim2), .ref q2, .int (nI sz2)])), (q2, .inl (gB g, n2, .inl f2)), (h, .inr (3, [.int (nI lim), .ref q1_20, .int (nI sz)])), (q1_20, .inl (gB g, n1_20, .inl (va_cpy f2 f1_20 i sz k)))] H := hP
        have hD : va_D A [(h2, .inr (3, [.int (nI lim2), .ref q2, .int (nI sz2)])), (q2, .inl (gB g, n2, .inl f2)), (h, .inr (3, [.int (nI lim), .ref q1_20, .int (nI sz)])), (q1_20, .inl (gB g, n1_20, .inl (va_cpy f2 f1_20 i sz k)))] := hD
        refine lv_aload_n hx hb dX4_addRange_44 rfl (lv_at hl 0 rfl) ?_
        refine lv_dup hx hb dX4_addRange_45 rfl ?_
        refine va_get (D := gD g) (ci := 3) (v := .int (nI sz)) (C := RX4) (T := TX4) (N := 3) hx hb hts hinX4 hown hK hP 2 rfl rfl 2 (by decide) hf19 (fun _ h9 => h9) rfl dX4_addRange_46 ?_
        refine lv_iload_n hx hb dX4_addRange_49 rfl (lv_at hl 3 rfl) ?_
        refine q_iadd (v := nI (sz + k)) hx hb dX4_addRange_50 (nI_add sz k) ?_
        refine va_put (D := gD g) (ci := 3) (v := .int (nI (sz + k))) (ty := .int) (C := RX4) (T := TX4) (N := 3) hx hb hts hinX4 tyX4 tyX4_ok nmX4 hown hK hP hD hS 2 rfl rfl 2 (by decide) hf19 (fun _ h9 => h9) rfl (by decide +kernel) rfl rfl (Nat.le_of_ble_eq_true rfl) dX4_addRange_51 (fun H locs hP hD hS => ?_)
        have hP : va_P (gD g) vwCl [(h2, .inr (3, [.int (nI lim2), .ref q2, .int (nI sz2)])), (q2, .inl (gB g, n2, .inl f2)), (h, .inr (3, [.int (nI lim), .ref q1_20, .int (nI (sz + k))])), (q1_20, .inl (gB g, n1_20, .inl (va_cpy f2 f1_20 i sz k)))] H := hP
        have hD : va_D A [(h2, .inr (3, [.int (nI lim2), .ref q2, .int (nI sz2)])), (q2, .inl (gB g, n2, .inl f2)), (h, .inr (3, [.int (nI lim), .ref q1_20, .int (nI (sz + k))])), (q1_20, .inl (gB g, n1_20, .inl (va_cpy f2 f1_20 i sz k)))] := hD
        refine ct_vret (w := [(h, .inr (3, [.int (nI lim), .ref q1_20, .int (nI (sz + k))])), (q1_20, .inl (gB g, n1_20, .inl (va_cpy f2 f1_20 i sz k))), (h2, .inr (3, [.int (nI lim2), .ref q2, .int (nI sz2)])), (q2, .inl (gB g, n2, .inl f2))]) hx hb hr hlocks hQ hAe hK (hP.sub [2, 3, 0, 1] rfl) (hD.sub [2, 3, 0, 1] (by decide) rfl) hS (by first | omega | exact Nat.zero_le _) (by first | omega | exact Nat.zero_le _) dX4_addRange_54 ?_
        exact ⟨q1_20, n1_20, va_cpy f2 f1_20 i sz k, rfl, rfl, by assumption, by intro j hj; rw [pk_cpy_out (Or.inl hj)]; exact ef_20 j hj, by intro j hj; rw [pk_cpy_in (by omega) (by omega)]; congr 1; omega, by exact sb_fitC hfit2 ft_20⟩

set_option maxHeartbeats 4000000 in
set_option maxRecDepth 100000 in
theorem c_find (l : Launch) (g : GT) (h : Nat) (q : Nat) (lim : Nat) (n : Nat) (sz : Nat) (f : Nat → Int32) (code : Int32) (a : Nat) (b : Nat) (hsn : sz ≤ n) (hnb : n < 2 ^ 30) (hb2 : b ≤ sz) (ha2 : a < 2 ^ 30) : CT l g yX4_find wsX4_find ({ frames := 1, cells := 0, slots := 0, locals := 21 } : Room) [.ref h, .int code, .int (nI a), .int (nI b)] [(h, .inr (3, [.int (nI lim), .ref q, .int (nI sz)])), (q, .inl (gB g, n, .inl f))] (fun r w => (∃ (r1 : Nat), r = some (.int (nI r1)) ∧ w = [(h, .inr (3, [.int (nI lim), .ref q, .int (nI sz)])), (q, .inl (gB g, n, .inl f))] ∧ (pFind f code a b r1) ∧ (r1 ≤ b))) (0) (0) := by
  refine ct_of (cc := cX4_find) (maxL := 5) (ret := (some .int)) (by decide) rfl (Nat.le_of_ble_eq_true rfl) ?_
  intro p e s m args below meth c A Q hx hb hr hml hown hts hlocks hnam hAe hQ hA hG hK hP hD hS ls hl
  have hl : lv_has ls 5 [(0, .ref h), (1, .int code), (2, .int (nI a)), (3, .int (nI b))] := hl
  have hown : s.vm.findClass RX4 = some m.cls := hown
  refine lv_iload_n hx hb dX4_find_0 rfl (lv_at hl 2 rfl) ?_
  refine lv_istore (lv' := [(4, .int (nI a)), (0, .ref h), (1, .int code), (2, .int (nI a)), (3, .int (nI b))]) hx hb dX4_find_1 hl (by decide) rfl (fun ls hl => ?_)
  have K3 : ∀ (N_ : Nat) (i : Nat), (a ≤ i) → (i ≤ a ∨ i ≤ b) → (∀ j, a ≤ j → j < i → ¬ f j &&& 255 = code) → (b - i) < N_ → ∀ (H : Heap) (locs : List Loc) (ls : Array Slot), va_P (gD g) vwCl [(h, .inr (3, [.int (nI lim), .ref q, .int (nI sz)])), (q, .inl (gB g, n, .inl f))] H → va_D A [(h, .inr (3, [.int (nI lim), .ref q, .int (nI sz)])), (q, .inl (gB g, n, .inl f))] → va_S A s.heap H locs → lv_has ls 5 [(0, .ref h), (1, .int code), (2, .int (nI a)), (3, .int (nI b)), (4, .int (nI i))] → W p l e ({ frames := 1, cells := 0, slots := 0, locals := 21 } : Room) s m args below meth c H locs (0) (0) Q (F0 m 3 ls []) := by
    intro N_
    induction N_ with
    | zero => intro i hi hi2 hno hm_; exact absurd hm_ (Nat.not_lt_zero _)
    | succ N_ ih_K3 =>
      intro i hi hi2 hno hm_ H locs ls hP hD hS hl
      refine lv_iload hx hb dX4_find_3 (lv_at hl 4 rfl) ?_
      refine lv_iload_n hx hb dX4_find_5 rfl (lv_at hl 3 rfl) ?_
      refine lv_icmp_ge (tgt := 28) hx hb dX4_find_6 (by decide) (fun c6 => ?_) (fun c6 => ?_)
      · skip
        have c6 : b ≤ i := (nI_leI (a := b) (b := i) (by omega) (by omega)).mp c6
        refine lv_iload_n hx hb dX4_find_28 rfl (lv_at hl 3 rfl) ?_
        refine ct_iret (w := [(h, .inr (3, [.int (nI lim), .ref q, .int (nI sz)])), (q, .inl (gB g, n, .inl f))]) hx hb hr rfl hlocks hQ hAe hK (hP.sub [0, 1] rfl) (hD.sub [0, 1] (by decide) rfl) hS (by omega) (by omega) dX4_find_29 ?_
        exact ⟨b, rfl, rfl, by first | exact ⟨hno, Or.inr ⟨hi, c6, c16⟩⟩ | exact ⟨hno, Or.inr ⟨hi, by omega, c16⟩⟩ | exact ⟨fun j h1 h2 => hno j h1 (by omega), Or.inl rfl⟩, by omega⟩
      · skip
        have c6 : ¬ (b ≤ i) := fun z => c6 ((nI_leI (a := b) (b := i) (by omega) (by omega)).mpr z)
        refine lv_aload_n hx hb dX4_find_9 rfl (lv_at hl 0 rfl) ?_
        refine lv_iload hx hb dX4_find_10 (lv_at hl 4 rfl) ?_
        refine ct_callV (wr := []) hx hb hml hown hts hK hP hD hS hA hG hl.1 (c_getIn l g h q lim n sz f i (by omega) (by omega) (by omega)) (cwV 1 hts gX4_find_X4_get rfl rfl rfl (by decide +kernel) ⟨Nat.le_of_ble_eq_true rfl, Nat.le_of_ble_eq_true rfl⟩) (va_recv hK hP (ci := 3) (q0 := 0) rfl rfl) rfl rfl (Nat.le_of_ble_eq_true rfl) dX4_find_12 ⟨show 0 + 0 ≤ 0 by omega, show 0 + 0 ≤ 0 by omega⟩ [0, 1] [] rfl rfl (by decide) (by decide) (by decide) (fun r_ w_ H locs hp_ hP hD hS => ?_)
        obtain ⟨rfl, rfl⟩ := hp_
        have hP : va_P (gD g) vwCl [(h, .inr (3, [.int (nI lim), .ref q, .int (nI sz)])), (q, .inl (gB g, n, .inl f))] H := hP
        have hD : va_D A [(h, .inr (3, [.int (nI lim), .ref q, .int (nI sz)])), (q, .inl (gB g, n, .inl f))] := hD
        refine W.eq (g2 := F0 m 15 ls [.int (f i &&& 255)]) rfl ?_
        refine lv_iload_n hx hb dX4_find_15 rfl (lv_at hl 1 rfl) ?_
        refine lv_icmp_ne (tgt := 22) hx hb dX4_find_16 (by decide) (fun c16 => ?_) (fun c16 => ?_)
        · skip
          refine lv_iinc (v := nI (i + 1)) (lv' := [(4, .int (nI (i + 1))), (0, .ref h), (1, .int code), (2, .int (nI a)), (3, .int (nI b))]) hx hb dX4_find_22 hl (k := 4) rfl (nI_inc i 1) (by decide) rfl (fun ls hl => ?_)
          refine lv_goto (tgt := 3) hx hb dX4_find_25 (by decide) ?_
          exact ih_K3 (i + 1) (by omega) (by omega) (by exact all_s hno c16) (by omega) _ _ _ (hP.sub [0, 1] rfl) (hD.sub [0, 1] (by decide) rfl) hS (lv_sub hl [1, 2, 3, 4, 0] rfl)
        · skip
          refine lv_iload hx hb dX4_find_19 (lv_at hl 4 rfl) ?_
          refine ct_iret (w := [(h, .inr (3, [.int (nI lim), .ref q, .int (nI sz)])), (q, .inl (gB g, n, .inl f))]) hx hb hr rfl hlocks hQ hAe hK (hP.sub [0, 1] rfl) (hD.sub [0, 1] (by decide) rfl) hS (by omega) (by omega) dX4_find_21 ?_
          exact ⟨i, rfl, rfl, by first | exact ⟨hno, Or.inr ⟨hi, c6, c16⟩⟩ | exact ⟨hno, Or.inr ⟨hi, by omega, c16⟩⟩ | exact ⟨fun j h1 h2 => hno j h1 (by omega), Or.inl rfl⟩, by omega⟩
  exact K3 ((b - a) + 1) a (by omega) (by omega) (by intro j h1 h2; omega) (Nat.lt_succ_self _) _ _ _ (hP.sub [0, 1] rfl) (hD.sub [0, 1] (by decide) rfl) hS (lv_sub hl [1, 2, 3, 4, 0] rfl)

set_option maxHeartbeats 4000000 in
set_option maxRecDepth 100000 in
theorem c_lineEnd (l : Launch) (g : GT) (h : Nat) (q : Nat) (lim : Nat) (n : Nat) (sz : Nat) (f : Nat → Int32) (a : Nat) (b : Nat) (hsn : sz ≤ n) (hnb : n < 2 ^ 30) (hb2 : b < sz) (ha2 : a < 2 ^ 30) : CT l g yX4_lineEnd wsX4_lineEnd ({ frames := 1, cells := 0, slots := 0, locals := 21 } : Room) [.ref h, .int (nI a), .int (nI b)] [(h, .inr (3, [.int (nI lim), .ref q, .int (nI sz)])), (q, .inl (gB g, n, .inl f))] (fun r w => (∃ (r1 : Nat), r = some (.int (nI r1)) ∧ w = [(h, .inr (3, [.int (nI lim), .ref q, .int (nI sz)])), (q, .inl (gB g, n, .inl f))] ∧ ((r1 = b ∧ ¬ (a < b ∧ f (b - 1) &&& 255 = nI 13)) ∨ (r1 + 1 = b ∧ a < b ∧ f (b - 1) &&& 255 = nI 13)))) (0) (0) := by
  refine ct_of (cc := cX4_lineEnd) (maxL := 4) (ret := (some .int)) (by decide) rfl (Nat.le_of_ble_eq_true rfl) ?_
  intro p e s m args below meth c A Q hx hb hr hml hown hts hlocks hnam hAe hQ hA hG hK hP hD hS ls hl
  have hl : lv_has ls 4 [(0, .ref h), (1, .int (nI a)), (2, .int (nI b))] := hl
  have hown : s.vm.findClass RX4 = some m.cls := hown
  refine lv_iload_n hx hb dX4_lineEnd_0 rfl (lv_at hl 2 rfl) ?_
  refine lv_iload_n hx hb dX4_lineEnd_1 rfl (lv_at hl 1 rfl) ?_
  refine lv_icmp_le (tgt := 21) hx hb dX4_lineEnd_2 (by decide) (fun c2 => ?_) (fun c2 => ?_)
  · skip
    have c2 : b ≤ a := (nI_leI (a := b) (b := a) (by omega) (by omega)).mp c2
    refine lv_iconst (v := nI 0) hx hb dX4_lineEnd_21 (by decide) ?_
    refine lv_istore_n (lv' := [(3, .int (nI 0)), (0, .ref h), (1, .int (nI a)), (2, .int (nI b))]) hx hb dX4_lineEnd_22 rfl hl (by decide) rfl (fun ls hl => ?_)
    refine lv_iload_n hx hb dX4_lineEnd_23 rfl (lv_at hl 0 rfl) ?_
    refine lv_if_eq (tgt := 33) hx hb dX4_lineEnd_24 (by decide) (fun _ => ?_) (fun c24 => absurd (by decide) c24)
    refine lv_iload_n hx hb dX4_lineEnd_33 rfl (lv_at hl 3 rfl) ?_
    refine ct_iret (w := [(h, .inr (3, [.int (nI lim), .ref q, .int (nI sz)])), (q, .inl (gB g, n, .inl f))]) hx hb hr rfl hlocks hQ hAe hK (hP.sub [0, 1] rfl) (hD.sub [0, 1] (by decide) rfl) hS (by omega) (by omega) dX4_lineEnd_34 ?_
    exact ⟨b, rfl, rfl, by first | exact Or.inl ⟨rfl, fun z => absurd z.1 (by omega)⟩ | exact Or.inl ⟨rfl, fun z => c14 z.2⟩ | exact Or.inr ⟨by omega, by omega, c14⟩⟩
  · skip
    have c2 : ¬ (b ≤ a) := fun z => c2 ((nI_leI (a := b) (b := a) (by omega) (by omega)).mpr z)
    refine lv_aload_n hx hb dX4_lineEnd_5 rfl (lv_at hl 0 rfl) ?_
    refine lv_iload_n hx hb dX4_lineEnd_6 rfl (lv_at hl 2 rfl) ?_
    refine lv_iconst (v := nI 1) hx hb dX4_lineEnd_7 (by decide) ?_
    refine q_isub (v := nI (b - 1)) hx hb dX4_lineEnd_8 (pk_sub (a := b) (b := 1) (by omega)) ?_
    refine ct_callV (wr := []) hx hb hml hown hts hK hP hD hS hA hG hl.1 (c_getIn l g h q lim n sz f (b - 1) (by omega) (by omega) (by omega)) (cwV 1 hts gX4_lineEnd_X4_get rfl rfl rfl (by decide +kernel) ⟨Nat.le_of_ble_eq_true rfl, Nat.le_of_ble_eq_true rfl⟩) (va_recv hK hP (ci := 3) (q0 := 0) rfl rfl) rfl rfl (Nat.le_of_ble_eq_true rfl) dX4_lineEnd_9 ⟨show 0 + 0 ≤ 0 by omega, show 0 + 0 ≤ 0 by omega⟩ [0, 1] [] rfl rfl (by decide) (by decide) (by decide) (fun r_ w_ H locs hp_ hP hD hS => ?_)
    obtain ⟨rfl, rfl⟩ := hp_
    have hP : va_P (gD g) vwCl [(h, .inr (3, [.int (nI lim), .ref q, .int (nI sz)])), (q, .inl (gB g, n, .inl f))] H := hP
    have hD : va_D A [(h, .inr (3, [.int (nI lim), .ref q, .int (nI sz)])), (q, .inl (gB g, n, .inl f))] := hD
    refine W.eq (g2 := F0 m 12 ls [.int (f (b - 1) &&& 255)]) rfl ?_
    refine lv_bipush (v := nI 13) hx hb dX4_lineEnd_12 (by decide) ?_
    refine lv_icmp_ne (tgt := 21) hx hb dX4_lineEnd_14 (by decide) (fun c14 => ?_) (fun c14 => ?_)
    · skip
      refine lv_iconst (v := nI 0) hx hb dX4_lineEnd_21 (by decide) ?_
      refine lv_istore_n (lv' := [(3, .int (nI 0)), (0, .ref h), (1, .int (nI a)), (2, .int (nI b))]) hx hb dX4_lineEnd_22 rfl hl (by decide) rfl (fun ls hl => ?_)
      refine lv_iload_n hx hb dX4_lineEnd_23 rfl (lv_at hl 0 rfl) ?_
      refine lv_if_eq (tgt := 33) hx hb dX4_lineEnd_24 (by decide) (fun _ => ?_) (fun c24 => absurd (by decide) c24)
      refine lv_iload_n hx hb dX4_lineEnd_33 rfl (lv_at hl 3 rfl) ?_
      refine ct_iret (w := [(h, .inr (3, [.int (nI lim), .ref q, .int (nI sz)])), (q, .inl (gB g, n, .inl f))]) hx hb hr rfl hlocks hQ hAe hK (hP.sub [0, 1] rfl) (hD.sub [0, 1] (by decide) rfl) hS (by omega) (by omega) dX4_lineEnd_34 ?_
      exact ⟨b, rfl, rfl, by first | exact Or.inl ⟨rfl, fun z => absurd z.1 (by omega)⟩ | exact Or.inl ⟨rfl, fun z => c14 z.2⟩ | exact Or.inr ⟨by omega, by omega, c14⟩⟩
    · skip
      refine lv_iconst (v := nI 1) hx hb dX4_lineEnd_17 (by decide) ?_
      refine lv_goto (tgt := 22) hx hb dX4_lineEnd_18 (by decide) ?_
      refine lv_istore_n (lv' := [(3, .int (nI 1)), (0, .ref h), (1, .int (nI a)), (2, .int (nI b))]) hx hb dX4_lineEnd_22 rfl hl (by decide) rfl (fun ls hl => ?_)
      refine lv_iload_n hx hb dX4_lineEnd_23 rfl (lv_at hl 0 rfl) ?_
      refine lv_if_eq (tgt := 33) hx hb dX4_lineEnd_24 (by decide) (fun c24 => absurd c24 (by decide)) (fun _ => ?_)
      refine lv_iload_n hx hb dX4_lineEnd_27 rfl (lv_at hl 3 rfl) ?_
      refine lv_iconst (v := nI 1) hx hb dX4_lineEnd_28 (by decide) ?_
      refine q_isub (v := nI (b - 1)) hx hb dX4_lineEnd_29 (pk_sub (a := b) (b := 1) (by omega)) ?_
      refine lv_goto (tgt := 34) hx hb dX4_lineEnd_30 (by decide) ?_
      refine ct_iret (w := [(h, .inr (3, [.int (nI lim), .ref q, .int (nI sz)])), (q, .inl (gB g, n, .inl f))]) hx hb hr rfl hlocks hQ hAe hK (hP.sub [0, 1] rfl) (hD.sub [0, 1] (by decide) rfl) hS (by omega) (by omega) dX4_lineEnd_34 ?_
      exact ⟨b - 1, rfl, rfl, by first | exact Or.inl ⟨rfl, fun z => absurd z.1 (by omega)⟩ | exact Or.inl ⟨rfl, fun z => c14 z.2⟩ | exact Or.inr ⟨by omega, by omega, c14⟩⟩

set_option maxHeartbeats 4000000 in
set_option maxRecDepth 100000 in
theorem c_hasText (l : Launch) (g : GT) (h : Nat) (q : Nat) (lim : Nat) (n : Nat) (sz : Nat) (f : Nat → Int32) (a : Nat) (b : Nat) (k : Nat) (hsn : sz ≤ n) (hnb : n < 2 ^ 30) (hb2 : b ≤ sz) (ha2 : a ≤ b + 1) (hn9 : sz < 2 ^ 28) (hk : k < 84) : CT l g yX4_hasText wsX4_hasText ({ frames := 4, cells := 0, slots := 0, locals := 85 } : Room) [.ref h, .int (nI a), .int (nI b), .ref (gK g k)] [(h, .inr (3, [.int (nI lim), .ref q, .int (nI sz)])), (q, .inl (gB g, n, .inl f))] (fun r w => (r = some (.int (nI 1)) ∧ w = [(h, .inr (3, [.int (nI lim), .ref q, .int (nI sz)])), (q, .inl (gB g, n, .inl f))] ∧ (pText f a b k)) ∨ (r = some (.int (nI 0)) ∧ w = [(h, .inr (3, [.int (nI lim), .ref q, .int (nI sz)])), (q, .inl (gB g, n, .inl f))] ∧ (¬ (pText f a b k)))) (0) (0) := by
  refine ct_of (cc := cX4_hasText) (maxL := 6) (ret := (some .boolean)) (by decide) rfl (Nat.le_of_ble_eq_true rfl) ?_
  intro p e s m args below meth c A Q hx hb hr hml hown hts hlocks hnam hAe hQ hA hG hK hP hD hS ls hl
  have hl : lv_has ls 6 [(0, .ref h), (1, .int (nI a)), (2, .int (nI b)), (3, .ref (gK g k))] := hl
  have hown : s.vm.findClass RX4 = some m.cls := hown
  have hsl := slen_le k hk
  refine lv_iload_n hx hb dX4_hasText_0 rfl (lv_at hl 2 rfl) ?_
  refine lv_iload_n hx hb dX4_hasText_1 rfl (lv_at hl 1 rfl) ?_
  refine q_isub (v := nI b - nI a) hx hb dX4_hasText_2 (rfl) ?_
  refine lv_aload_n hx hb dX4_hasText_3 rfl (lv_at hl 3 rfl) ?_
  refine ct_callV (wr := [(h, .inr (3, [.int (nI lim), .ref q, .int (nI sz)])), (q, .inl (gB g, n, .inl f))]) hx hb hml hown hts hK hP hD hS hA hG hl.1 (c_slen l g k (by first | assumption | decide)) (cwV 0 hts gX4_hasText_J0_length_8abf5 rfl rfl rfl (by decide +kernel) ⟨Nat.le_of_ble_eq_true rfl, Nat.le_of_ble_eq_true rfl⟩) (st_recv hG (k := k) (by assumption) hS) rfl rfl (Nat.le_of_ble_eq_true rfl) dX4_hasText_4 ⟨show 0 + 0 ≤ 0 by omega, show 0 + 0 ≤ 0 by omega⟩ [] [0, 1] rfl rfl (by decide) (by decide) (by decide) (fun r_ w_ H locs hp_ hP hD hS => ?_)
  obtain ⟨rfl, rfl⟩ := hp_
  have hP : va_P (gD g) vwCl [(h, .inr (3, [.int (nI lim), .ref q, .int (nI sz)])), (q, .inl (gB g, n, .inl f))] H := hP
  have hD : va_D A [(h, .inr (3, [.int (nI lim), .ref q, .int (nI sz)])), (q, .inl (gB g, n, .inl f))] := hD
  refine W.eq (g2 := F0 m 7 ls [.int (nI (slen k)), .int (nI b - nI a)]) rfl ?_
  refine lv_icmp_ne (tgt := 14) hx hb dX4_hasText_7 (by decide) (fun c7 => ?_) (fun c7 => ?_)
  · skip
    have c7 : ¬ b = a + slen k := fun z => c7 ((sub_eq3 (by omega) (by omega) (by omega)).mpr z)
    refine lv_iconst (v := nI 0) hx hb dX4_hasText_14 (by decide) ?_
    refine lv_istore (lv' := [(4, .int (nI 0)), (0, .ref h), (1, .int (nI a)), (2, .int (nI b)), (3, .ref (gK g k))]) hx hb dX4_hasText_15 hl (by decide) rfl (fun ls hl => ?_)
    refine lv_iconst (v := nI 0) hx hb dX4_hasText_17 (by decide) ?_
    refine lv_istore (lv' := [(5, .int (nI 0)), (4, .int (nI 0)), (0, .ref h), (1, .int (nI a)), (2, .int (nI b)), (3, .ref (gK g k))]) hx hb dX4_hasText_18 hl (by decide) rfl (fun ls hl => ?_)
    refine lv_iload hx hb dX4_hasText_20 (lv_at hl 1 rfl) ?_
    refine lv_if_eq (tgt := 64) hx hb dX4_hasText_22 (by decide) (fun _ => ?_) (fun c22 => absurd (by decide) c22)
    refine lv_iload hx hb dX4_hasText_64 (lv_at hl 1 rfl) ?_
    refine ct_iret (w := [(h, .inr (3, [.int (nI lim), .ref q, .int (nI sz)])), (q, .inl (gB g, n, .inl f))]) hx hb hr rfl hlocks hQ hAe hK (hP.sub [0, 1] rfl) (hD.sub [0, 1] (by decide) rfl) hS (by omega) (by omega) dX4_hasText_66 ?_
    refine Or.inr ((?_))
    exact ⟨rfl, rfl, by first | exact ⟨c7, fun j hj => hall j (by omega)⟩ | exact fun z => c7 z.1 | exact fun z => c48 (z.2 _ (by omega)) | exact fun z => c68 ((if_pos hT_46).symm.trans (z.2 _ (by omega))) | exact fun z => c68 ((if_neg hF_46).symm.trans (z.2 _ (by omega)))⟩
  · skip
    have c7 : b = a + slen k := (sub_eq3 (by omega) (by omega) (by omega)).mp c7
    refine lv_iconst (v := nI 1) hx hb dX4_hasText_10 (by decide) ?_
    refine lv_goto (tgt := 15) hx hb dX4_hasText_11 (by decide) ?_
    refine lv_istore (lv' := [(4, .int (nI 1)), (0, .ref h), (1, .int (nI a)), (2, .int (nI b)), (3, .ref (gK g k))]) hx hb dX4_hasText_15 hl (by decide) rfl (fun ls hl => ?_)
    refine lv_iconst (v := nI 0) hx hb dX4_hasText_17 (by decide) ?_
    refine lv_istore (lv' := [(5, .int (nI 0)), (4, .int (nI 1)), (0, .ref h), (1, .int (nI a)), (2, .int (nI b)), (3, .ref (gK g k))]) hx hb dX4_hasText_18 hl (by decide) rfl (fun ls hl => ?_)
    have K20 : ∀ (N_ : Nat) (i : Nat), (i ≤ slen k) → (∀ j, j < i → f (a + j) &&& 255 = sbyt k j &&& 255) → (slen k - i) < N_ → ∀ (H : Heap) (locs : List Loc) (ls : Array Slot), va_P (gD g) vwCl [(h, .inr (3, [.int (nI lim), .ref q, .int (nI sz)])), (q, .inl (gB g, n, .inl f))] H → va_D A [(h, .inr (3, [.int (nI lim), .ref q, .int (nI sz)])), (q, .inl (gB g, n, .inl f))] → va_S A s.heap H locs → lv_has ls 6 [(0, .ref h), (1, .int (nI a)), (2, .int (nI b)), (3, .ref (gK g k)), (4, .int (nI 1)), (5, .int (nI i))] → W p l e ({ frames := 4, cells := 0, slots := 0, locals := 85 } : Room) s m args below meth c H locs (0) (0) Q (F0 m 20 ls []) := by
      intro N_
      induction N_ with
      | zero => intro i hi hall hm_; exact absurd hm_ (Nat.not_lt_zero _)
      | succ N_ ih_K20 =>
        intro i hi hall hm_ H locs ls hP hD hS hl
        refine lv_iload hx hb dX4_hasText_20 (lv_at hl 4 rfl) ?_
        refine lv_if_eq (tgt := 64) hx hb dX4_hasText_22 (by decide) (fun c22 => absurd c22 (by decide)) (fun _ => ?_)
        refine lv_iload hx hb dX4_hasText_25 (lv_at hl 5 rfl) ?_
        refine lv_aload_n hx hb dX4_hasText_27 rfl (lv_at hl 3 rfl) ?_
        refine ct_callV (wr := [(h, .inr (3, [.int (nI lim), .ref q, .int (nI sz)])), (q, .inl (gB g, n, .inl f))]) hx hb hml hown hts hK hP hD hS hA hG hl.1 (c_slen l g k (by first | assumption | decide)) (cwV 0 hts gX4_hasText_J0_length_8abf5 rfl rfl rfl (by decide +kernel) ⟨Nat.le_of_ble_eq_true rfl, Nat.le_of_ble_eq_true rfl⟩) (st_recv hG (k := k) (by assumption) hS) rfl rfl (Nat.le_of_ble_eq_true rfl) dX4_hasText_28 ⟨show 0 + 0 ≤ 0 by omega, show 0 + 0 ≤ 0 by omega⟩ [] [0, 1] rfl rfl (by decide) (by decide) (by decide) (fun r_ w_ H locs hp_ hP hD hS => ?_)
        obtain ⟨rfl, rfl⟩ := hp_
        have hP : va_P (gD g) vwCl [(h, .inr (3, [.int (nI lim), .ref q, .int (nI sz)])), (q, .inl (gB g, n, .inl f))] H := hP
        have hD : va_D A [(h, .inr (3, [.int (nI lim), .ref q, .int (nI sz)])), (q, .inl (gB g, n, .inl f))] := hD
        refine W.eq (g2 := F0 m 31 ls [.int (nI (slen k)), .int (nI i)]) rfl ?_
        refine lv_icmp_ge (tgt := 64) hx hb dX4_hasText_31 (by decide) (fun c31 => ?_) (fun c31 => ?_)
        · skip
          have c31 : slen k ≤ i := (nI_leI (a := slen k) (b := i) (by omega) (by omega)).mp c31
          refine lv_iload hx hb dX4_hasText_64 (lv_at hl 4 rfl) ?_
          refine ct_iret (w := [(h, .inr (3, [.int (nI lim), .ref q, .int (nI sz)])), (q, .inl (gB g, n, .inl f))]) hx hb hr rfl hlocks hQ hAe hK (hP.sub [0, 1] rfl) (hD.sub [0, 1] (by decide) rfl) hS (by omega) (by omega) dX4_hasText_66 ?_
          refine Or.inl (?_)
          exact ⟨rfl, rfl, by first | exact ⟨c7, fun j hj => hall j (by omega)⟩ | exact fun z => c7 z.1 | exact fun z => c48 (z.2 _ (by omega)) | exact fun z => c68 ((if_pos hT_46).symm.trans (z.2 _ (by omega))) | exact fun z => c68 ((if_neg hF_46).symm.trans (z.2 _ (by omega)))⟩
        · skip
          have c31 : ¬ (slen k ≤ i) := fun z => c31 ((nI_leI (a := slen k) (b := i) (by omega) (by omega)).mpr z)
          refine lv_aload_n hx hb dX4_hasText_34 rfl (lv_at hl 0 rfl) ?_
          refine lv_iload_n hx hb dX4_hasText_35 rfl (lv_at hl 1 rfl) ?_
          refine lv_iload hx hb dX4_hasText_36 (lv_at hl 5 rfl) ?_
          refine q_iadd (v := nI (a + i)) hx hb dX4_hasText_38 (nI_add a i) ?_
          refine ct_callV (wr := []) hx hb hml hown hts hK hP hD hS hA hG hl.1 (c_getIn l g h q lim n sz f (a + i) (by omega) (by omega) (by omega)) (cwV 1 hts gX4_hasText_X4_get rfl rfl rfl (by decide +kernel) ⟨Nat.le_of_ble_eq_true rfl, Nat.le_of_ble_eq_true rfl⟩) (va_recv hK hP (ci := 3) (q0 := 0) rfl rfl) rfl rfl (Nat.le_of_ble_eq_true rfl) dX4_hasText_39 ⟨show 0 + 0 ≤ 0 by omega, show 0 + 0 ≤ 0 by omega⟩ [0, 1] [] rfl rfl (by decide) (by decide) (by decide) (fun r_ w_ H locs hp_ hP hD hS => ?_)
          obtain ⟨rfl, rfl⟩ := hp_
          have hP : va_P (gD g) vwCl [(h, .inr (3, [.int (nI lim), .ref q, .int (nI sz)])), (q, .inl (gB g, n, .inl f))] H := hP
          have hD : va_D A [(h, .inr (3, [.int (nI lim), .ref q, .int (nI sz)])), (q, .inl (gB g, n, .inl f))] := hD
          refine W.eq (g2 := F0 m 42 ls [.int (f (a + i) &&& 255)]) rfl ?_
          refine lv_aload_n hx hb dX4_hasText_42 rfl (lv_at hl 3 rfl) ?_
          refine lv_iload hx hb dX4_hasText_43 (lv_at hl 5 rfl) ?_
          refine ct_callV (wr := [(h, .inr (3, [.int (nI lim), .ref q, .int (nI sz)])), (q, .inl (gB g, n, .inl f))]) hx hb hml hown hts hK hP hD hS hA hG hl.1 (c_charAt l g k i (by first | assumption | decide) (by omega)) (cwV 1 hts gX4_hasText_J0_charAt_5068e rfl rfl rfl (by decide +kernel) ⟨Nat.le_of_ble_eq_true rfl, Nat.le_of_ble_eq_true rfl⟩) (st_recv hG (k := k) (by assumption) hS) rfl rfl (Nat.le_of_ble_eq_true rfl) dX4_hasText_45 ⟨show 0 + 0 ≤ 0 by omega, show 0 + 0 ≤ 0 by omega⟩ [] [0, 1] rfl rfl (by decide) (by decide) (by decide) (fun r_ w_ H locs hp_ hP hD hS => ?_)
          obtain ⟨rfl, rfl⟩ := hp_
          have hP : va_P (gD g) vwCl [(h, .inr (3, [.int (nI lim), .ref q, .int (nI sz)])), (q, .inl (gB g, n, .inl f))] H := hP
          have hD : va_D A [(h, .inr (3, [.int (nI lim), .ref q, .int (nI sz)])), (q, .inl (gB g, n, .inl f))] := hD
          refine W.eq (g2 := F0 m 48 ls [.int (sbyt k i &&& 255), .int (f (a + i) &&& 255)]) rfl ?_
          refine lv_icmp_ne (tgt := 55) hx hb dX4_hasText_48 (by decide) (fun c48 => ?_) (fun c48 => ?_)
          · skip
            refine lv_iconst (v := nI 0) hx hb dX4_hasText_55 (by decide) ?_
            refine lv_istore (lv' := [(4, .int (nI 0)), (0, .ref h), (1, .int (nI a)), (2, .int (nI b)), (3, .ref (gK g k)), (5, .int (nI i))]) hx hb dX4_hasText_56 hl (by decide) rfl (fun ls hl => ?_)
            refine lv_iinc (v := nI (i + 1)) (lv' := [(5, .int (nI (i + 1))), (4, .int (nI 0)), (0, .ref h), (1, .int (nI a)), (2, .int (nI b)), (3, .ref (gK g k))]) hx hb dX4_hasText_58 hl (k := 5) rfl (nI_inc i 1) (by decide) rfl (fun ls hl => ?_)
            refine lv_goto (tgt := 20) hx hb dX4_hasText_61 (by decide) ?_
            refine lv_iload hx hb dX4_hasText_20 (lv_at hl 1 rfl) ?_
            refine lv_if_eq (tgt := 64) hx hb dX4_hasText_22 (by decide) (fun _ => ?_) (fun c22 => absurd (by decide) c22)
            refine lv_iload hx hb dX4_hasText_64 (lv_at hl 1 rfl) ?_
            refine ct_iret (w := [(h, .inr (3, [.int (nI lim), .ref q, .int (nI sz)])), (q, .inl (gB g, n, .inl f))]) hx hb hr rfl hlocks hQ hAe hK (hP.sub [0, 1] rfl) (hD.sub [0, 1] (by decide) rfl) hS (by omega) (by omega) dX4_hasText_66 ?_
            refine Or.inr ((?_))
            exact ⟨rfl, rfl, by first | exact ⟨c7, fun j hj => hall j (by omega)⟩ | exact fun z => c7 z.1 | exact fun z => c48 (z.2 _ (by omega)) | exact fun z => c68 ((if_pos hT_46).symm.trans (z.2 _ (by omega))) | exact fun z => c68 ((if_neg hF_46).symm.trans (z.2 _ (by omega)))⟩
          · skip
            refine lv_iconst (v := nI 1) hx hb dX4_hasText_51 (by decide) ?_
            refine lv_goto (tgt := 56) hx hb dX4_hasText_52 (by decide) ?_
            refine lv_istore (lv' := [(4, .int (nI 1)), (0, .ref h), (1, .int (nI a)), (2, .int (nI b)), (3, .ref (gK g k)), (5, .int (nI i))]) hx hb dX4_hasText_56 hl (by decide) rfl (fun ls hl => ?_)
            refine lv_iinc (v := nI (i + 1)) (lv' := [(5, .int (nI (i + 1))), (4, .int (nI 1)), (0, .ref h), (1, .int (nI a)), (2, .int (nI b)), (3, .ref (gK g k))]) hx hb dX4_hasText_58 hl (k := 5) rfl (nI_inc i 1) (by decide) rfl (fun ls hl => ?_)
            refine lv_goto (tgt := 20) hx hb dX4_hasText_61 (by decide) ?_
            exact ih_K20 (i + 1) (by omega) (by exact lt_s hall c48) (by omega) _ _ _ (hP.sub [0, 1] rfl) (hD.sub [0, 1] (by decide) rfl) hS (lv_sub hl [2, 3, 4, 5, 1, 0] rfl)
    exact K20 ((slen k - 0) + 1) 0 (by omega) (by intro j h1; omega) (Nat.lt_succ_self _) _ _ _ (hP.sub [0, 1] rfl) (hD.sub [0, 1] (by decide) rfl) hS (lv_sub hl [2, 3, 4, 5, 1, 0] rfl)

set_option maxHeartbeats 4000000 in
set_option maxRecDepth 100000 in
theorem c_hasWord (l : Launch) (g : GT) (h : Nat) (q : Nat) (lim : Nat) (n : Nat) (sz : Nat) (f : Nat → Int32) (a : Nat) (b : Nat) (k : Nat) (hsn : sz ≤ n) (hnb : n < 2 ^ 30) (hb2 : b ≤ sz) (ha2 : a ≤ b + 1) (hn9 : sz < 2 ^ 28) (hk : k < 84) : CT l g yX4_hasWord wsX4_hasWord ({ frames := 4, cells := 0, slots := 0, locals := 85 } : Room) [.ref h, .int (nI a), .int (nI b), .ref (gK g k)] [(h, .inr (3, [.int (nI lim), .ref q, .int (nI sz)])), (q, .inl (gB g, n, .inl f))] (fun r w => (r = some (.int (nI 1)) ∧ w = [(h, .inr (3, [.int (nI lim), .ref q, .int (nI sz)])), (q, .inl (gB g, n, .inl f))] ∧ (pWord f a b k)) ∨ (r = some (.int (nI 0)) ∧ w = [(h, .inr (3, [.int (nI lim), .ref q, .int (nI sz)])), (q, .inl (gB g, n, .inl f))] ∧ (¬ (pWord f a b k)))) (0) (0) := by
  refine ct_of (cc := cX4_hasWord) (maxL := 7) (ret := (some .boolean)) (by decide) rfl (Nat.le_of_ble_eq_true rfl) ?_
  intro p e s m args below meth c A Q hx hb hr hml hown hts hlocks hnam hAe hQ hA hG hK hP hD hS ls hl
  have hl : lv_has ls 7 [(0, .ref h), (1, .int (nI a)), (2, .int (nI b)), (3, .ref (gK g k))] := hl
  have hown : s.vm.findClass RX4 = some m.cls := hown
  have hsl := slen_le k hk
  refine lv_iload_n hx hb dX4_hasWord_0 rfl (lv_at hl 2 rfl) ?_
  refine lv_iload_n hx hb dX4_hasWord_1 rfl (lv_at hl 1 rfl) ?_
  refine q_isub (v := nI b - nI a) hx hb dX4_hasWord_2 (rfl) ?_
  refine lv_aload_n hx hb dX4_hasWord_3 rfl (lv_at hl 3 rfl) ?_
  refine ct_callV (wr := [(h, .inr (3, [.int (nI lim), .ref q, .int (nI sz)])), (q, .inl (gB g, n, .inl f))]) hx hb hml hown hts hK hP hD hS hA hG hl.1 (c_slen l g k (by first | assumption | decide)) (cwV 0 hts gX4_hasWord_J0_length_8abf5 rfl rfl rfl (by decide +kernel) ⟨Nat.le_of_ble_eq_true rfl, Nat.le_of_ble_eq_true rfl⟩) (st_recv hG (k := k) (by assumption) hS) rfl rfl (Nat.le_of_ble_eq_true rfl) dX4_hasWord_4 ⟨show 0 + 0 ≤ 0 by omega, show 0 + 0 ≤ 0 by omega⟩ [] [0, 1] rfl rfl (by decide) (by decide) (by decide) (fun r_ w_ H locs hp_ hP hD hS => ?_)
  obtain ⟨rfl, rfl⟩ := hp_
  have hP : va_P (gD g) vwCl [(h, .inr (3, [.int (nI lim), .ref q, .int (nI sz)])), (q, .inl (gB g, n, .inl f))] H := hP
  have hD : va_D A [(h, .inr (3, [.int (nI lim), .ref q, .int (nI sz)])), (q, .inl (gB g, n, .inl f))] := hD
  refine W.eq (g2 := F0 m 7 ls [.int (nI (slen k)), .int (nI b - nI a)]) rfl ?_
  refine lv_icmp_ne (tgt := 14) hx hb dX4_hasWord_7 (by decide) (fun c7 => ?_) (fun c7 => ?_)
  · skip
    have c7 : ¬ b = a + slen k := fun z => c7 ((sub_eq3 (by omega) (by omega) (by omega)).mpr z)
    refine lv_iconst (v := nI 0) hx hb dX4_hasWord_14 (by decide) ?_
    refine lv_istore (lv' := [(4, .int (nI 0)), (0, .ref h), (1, .int (nI a)), (2, .int (nI b)), (3, .ref (gK g k))]) hx hb dX4_hasWord_15 hl (by decide) rfl (fun ls hl => ?_)
    refine lv_iconst (v := nI 0) hx hb dX4_hasWord_17 (by decide) ?_
    refine lv_istore (lv' := [(5, .int (nI 0)), (4, .int (nI 0)), (0, .ref h), (1, .int (nI a)), (2, .int (nI b)), (3, .ref (gK g k))]) hx hb dX4_hasWord_18 hl (by decide) rfl (fun ls hl => ?_)
    refine lv_iload hx hb dX4_hasWord_20 (lv_at hl 1 rfl) ?_
    refine lv_if_eq (tgt := 84) hx hb dX4_hasWord_22 (by decide) (fun _ => ?_) (fun c22 => absurd (by decide) c22)
    refine lv_iload hx hb dX4_hasWord_84 (lv_at hl 1 rfl) ?_
    refine ct_iret (w := [(h, .inr (3, [.int (nI lim), .ref q, .int (nI sz)])), (q, .inl (gB g, n, .inl f))]) hx hb hr rfl hlocks hQ hAe hK (hP.sub [0, 1] rfl) (hD.sub [0, 1] (by decide) rfl) hS (by omega) (by omega) dX4_hasWord_86 ?_
    refine Or.inr ((?_))
    exact ⟨rfl, rfl, by first | exact ⟨c7, fun j hj => hall j (by omega)⟩ | exact fun z => c7 z.1 | exact fun z => c48 (z.2 _ (by omega)) | exact fun z => c68 ((if_pos hT_46).symm.trans (z.2 _ (by omega))) | exact fun z => c68 ((if_neg hF_46).symm.trans (z.2 _ (by omega)))⟩
  · skip
    have c7 : b = a + slen k := (sub_eq3 (by omega) (by omega) (by omega)).mp c7
    refine lv_iconst (v := nI 1) hx hb dX4_hasWord_10 (by decide) ?_
    refine lv_goto (tgt := 15) hx hb dX4_hasWord_11 (by decide) ?_
    refine lv_istore (lv' := [(4, .int (nI 1)), (0, .ref h), (1, .int (nI a)), (2, .int (nI b)), (3, .ref (gK g k))]) hx hb dX4_hasWord_15 hl (by decide) rfl (fun ls hl => ?_)
    refine lv_iconst (v := nI 0) hx hb dX4_hasWord_17 (by decide) ?_
    refine lv_istore (lv' := [(5, .int (nI 0)), (4, .int (nI 1)), (0, .ref h), (1, .int (nI a)), (2, .int (nI b)), (3, .ref (gK g k))]) hx hb dX4_hasWord_18 hl (by decide) rfl (fun ls hl => ?_)
    have K20 : ∀ (N_ : Nat) (i : Nat), (i ≤ slen k) → (∀ j, j < i → lowI (f (a + j) &&& 255) = sbyt k j &&& 255) → (slen k - i) < N_ → ∀ (H : Heap) (locs : List Loc) (ls : Array Slot), va_P (gD g) vwCl [(h, .inr (3, [.int (nI lim), .ref q, .int (nI sz)])), (q, .inl (gB g, n, .inl f))] H → va_D A [(h, .inr (3, [.int (nI lim), .ref q, .int (nI sz)])), (q, .inl (gB g, n, .inl f))] → va_S A s.heap H locs → lv_has ls 7 [(0, .ref h), (1, .int (nI a)), (2, .int (nI b)), (3, .ref (gK g k)), (4, .int (nI 1)), (5, .int (nI i))] → W p l e ({ frames := 4, cells := 0, slots := 0, locals := 85 } : Room) s m args below meth c H locs (0) (0) Q (F0 m 20 ls []) := by
      intro N_
      induction N_ with
      | zero => intro i hi hall hm_; exact absurd hm_ (Nat.not_lt_zero _)
      | succ N_ ih_K20 =>
        intro i hi hall hm_ H locs ls hP hD hS hl
        refine lv_iload hx hb dX4_hasWord_20 (lv_at hl 4 rfl) ?_
        refine lv_if_eq (tgt := 84) hx hb dX4_hasWord_22 (by decide) (fun c22 => absurd c22 (by decide)) (fun _ => ?_)
        refine lv_iload hx hb dX4_hasWord_25 (lv_at hl 5 rfl) ?_
        refine lv_aload_n hx hb dX4_hasWord_27 rfl (lv_at hl 3 rfl) ?_
        refine ct_callV (wr := [(h, .inr (3, [.int (nI lim), .ref q, .int (nI sz)])), (q, .inl (gB g, n, .inl f))]) hx hb hml hown hts hK hP hD hS hA hG hl.1 (c_slen l g k (by first | assumption | decide)) (cwV 0 hts gX4_hasWord_J0_length_8abf5 rfl rfl rfl (by decide +kernel) ⟨Nat.le_of_ble_eq_true rfl, Nat.le_of_ble_eq_true rfl⟩) (st_recv hG (k := k) (by assumption) hS) rfl rfl (Nat.le_of_ble_eq_true rfl) dX4_hasWord_28 ⟨show 0 + 0 ≤ 0 by omega, show 0 + 0 ≤ 0 by omega⟩ [] [0, 1] rfl rfl (by decide) (by decide) (by decide) (fun r_ w_ H locs hp_ hP hD hS => ?_)
        obtain ⟨rfl, rfl⟩ := hp_
        have hP : va_P (gD g) vwCl [(h, .inr (3, [.int (nI lim), .ref q, .int (nI sz)])), (q, .inl (gB g, n, .inl f))] H := hP
        have hD : va_D A [(h, .inr (3, [.int (nI lim), .ref q, .int (nI sz)])), (q, .inl (gB g, n, .inl f))] := hD
        refine W.eq (g2 := F0 m 31 ls [.int (nI (slen k)), .int (nI i)]) rfl ?_
        refine lv_icmp_ge (tgt := 84) hx hb dX4_hasWord_31 (by decide) (fun c31 => ?_) (fun c31 => ?_)
        · skip
          have c31 : slen k ≤ i := (nI_leI (a := slen k) (b := i) (by omega) (by omega)).mp c31
          refine lv_iload hx hb dX4_hasWord_84 (lv_at hl 4 rfl) ?_
          refine ct_iret (w := [(h, .inr (3, [.int (nI lim), .ref q, .int (nI sz)])), (q, .inl (gB g, n, .inl f))]) hx hb hr rfl hlocks hQ hAe hK (hP.sub [0, 1] rfl) (hD.sub [0, 1] (by decide) rfl) hS (by omega) (by omega) dX4_hasWord_86 ?_
          refine Or.inl (?_)
          exact ⟨rfl, rfl, by first | exact ⟨c7, fun j hj => hall j (by omega)⟩ | exact fun z => c7 z.1 | exact fun z => c48 (z.2 _ (by omega)) | exact fun z => c68 ((if_pos hT_46).symm.trans (z.2 _ (by omega))) | exact fun z => c68 ((if_neg hF_46).symm.trans (z.2 _ (by omega)))⟩
        · skip
          have c31 : ¬ (slen k ≤ i) := fun z => c31 ((nI_leI (a := slen k) (b := i) (by omega) (by omega)).mpr z)
          refine lv_aload_n hx hb dX4_hasWord_34 rfl (lv_at hl 0 rfl) ?_
          refine lv_iload_n hx hb dX4_hasWord_35 rfl (lv_at hl 1 rfl) ?_
          refine lv_iload hx hb dX4_hasWord_36 (lv_at hl 5 rfl) ?_
          refine q_iadd (v := nI (a + i)) hx hb dX4_hasWord_38 (nI_add a i) ?_
          refine ct_callV (wr := []) hx hb hml hown hts hK hP hD hS hA hG hl.1 (c_getIn l g h q lim n sz f (a + i) (by omega) (by omega) (by omega)) (cwV 1 hts gX4_hasWord_X4_get rfl rfl rfl (by decide +kernel) ⟨Nat.le_of_ble_eq_true rfl, Nat.le_of_ble_eq_true rfl⟩) (va_recv hK hP (ci := 3) (q0 := 0) rfl rfl) rfl rfl (Nat.le_of_ble_eq_true rfl) dX4_hasWord_39 ⟨show 0 + 0 ≤ 0 by omega, show 0 + 0 ≤ 0 by omega⟩ [0, 1] [] rfl rfl (by decide) (by decide) (by decide) (fun r_ w_ H locs hp_ hP hD hS => ?_)
          obtain ⟨rfl, rfl⟩ := hp_
          have hP : va_P (gD g) vwCl [(h, .inr (3, [.int (nI lim), .ref q, .int (nI sz)])), (q, .inl (gB g, n, .inl f))] H := hP
          have hD : va_D A [(h, .inr (3, [.int (nI lim), .ref q, .int (nI sz)])), (q, .inl (gB g, n, .inl f))] := hD
          refine W.eq (g2 := F0 m 42 ls [.int (f (a + i) &&& 255)]) rfl ?_
          refine lv_istore (lv' := [(6, .int (f (a + i) &&& 255)), (0, .ref h), (1, .int (nI a)), (2, .int (nI b)), (3, .ref (gK g k)), (4, .int (nI 1)), (5, .int (nI i))]) hx hb dX4_hasWord_42 hl (by decide) rfl (fun ls hl => ?_)
          refine lv_iload hx hb dX4_hasWord_44 (lv_at hl 0 rfl) ?_
          refine ct_callS (wr := [(h, .inr (3, [.int (nI lim), .ref q, .int (nI sz)])), (q, .inl (gB g, n, .inl f))]) hx hb hml hown hts hK hP hD hS hA hG hl.1 (c_isGreat l g (f (a + i) &&& 255) ) (va_cwS 1 hts gX4_hasWord_X1_isGreat rfl rfl rfl (by decide +kernel) ⟨Nat.le_of_ble_eq_true rfl, Nat.le_of_ble_eq_true rfl⟩) rfl rfl (Nat.le_of_ble_eq_true rfl) dX4_hasWord_46 ⟨show 0 + 0 ≤ 0 by omega, show 0 + 0 ≤ 0 by omega⟩ [] [0, 1] rfl rfl (by decide) (by decide) (by decide) (fun r_ w_ H locs hp_ hP hD hS => ?_)
          rcases hp_ with ⟨rfl, rfl, hT_46⟩ | ⟨rfl, rfl, hF_46⟩
          · skip
            have hP : va_P (gD g) vwCl [(h, .inr (3, [.int (nI lim), .ref q, .int (nI sz)])), (q, .inl (gB g, n, .inl f))] H := hP
            have hD : va_D A [(h, .inr (3, [.int (nI lim), .ref q, .int (nI sz)])), (q, .inl (gB g, n, .inl f))] := hD
            have hT_46 : pGreat (f (a + i) &&& 255) := hT_46
            refine W.eq (g2 := F0 m 49 ls [.int (nI 1)]) rfl ?_
            refine lv_if_eq (tgt := 60) hx hb dX4_hasWord_49 (by decide) (fun c49 => absurd c49 (by decide)) (fun _ => ?_)
            refine lv_iload hx hb dX4_hasWord_52 (lv_at hl 0 rfl) ?_
            refine lv_bipush (v := nI 32) hx hb dX4_hasWord_54 (by decide) ?_
            refine q_iadd (v := (f (a + i) &&& 255) + (nI 32)) hx hb dX4_hasWord_56 (rfl) ?_
            refine lv_goto (tgt := 62) hx hb dX4_hasWord_57 (by decide) ?_
            refine lv_aload_n hx hb dX4_hasWord_62 rfl (lv_at hl 4 rfl) ?_
            refine lv_iload hx hb dX4_hasWord_63 (lv_at hl 6 rfl) ?_
            refine ct_callV (wr := [(h, .inr (3, [.int (nI lim), .ref q, .int (nI sz)])), (q, .inl (gB g, n, .inl f))]) hx hb hml hown hts hK hP hD hS hA hG hl.1 (c_charAt l g k i (by first | assumption | decide) (by omega)) (cwV 1 hts gX4_hasWord_J0_charAt_5068e rfl rfl rfl (by decide +kernel) ⟨Nat.le_of_ble_eq_true rfl, Nat.le_of_ble_eq_true rfl⟩) (st_recv hG (k := k) (by assumption) hS) rfl rfl (Nat.le_of_ble_eq_true rfl) dX4_hasWord_65 ⟨show 0 + 0 ≤ 0 by omega, show 0 + 0 ≤ 0 by omega⟩ [] [0, 1] rfl rfl (by decide) (by decide) (by decide) (fun r_ w_ H locs hp_ hP hD hS => ?_)
            obtain ⟨rfl, rfl⟩ := hp_
            have hP : va_P (gD g) vwCl [(h, .inr (3, [.int (nI lim), .ref q, .int (nI sz)])), (q, .inl (gB g, n, .inl f))] H := hP
            have hD : va_D A [(h, .inr (3, [.int (nI lim), .ref q, .int (nI sz)])), (q, .inl (gB g, n, .inl f))] := hD
            refine W.eq (g2 := F0 m 68 ls [.int (sbyt k i &&& 255), .int ((f (a + i) &&& 255) + (nI 32))]) rfl ?_
            refine lv_icmp_ne (tgt := 75) hx hb dX4_hasWord_68 (by decide) (fun c68 => ?_) (fun c68 => ?_)
            · skip
              refine lv_iconst (v := nI 0) hx hb dX4_hasWord_75 (by decide) ?_
              refine lv_istore (lv' := [(4, .int (nI 0)), (6, .int (f (a + i) &&& 255)), (0, .ref h), (1, .int (nI a)), (2, .int (nI b)), (3, .ref (gK g k)), (5, .int (nI i))]) hx hb dX4_hasWord_76 hl (by decide) rfl (fun ls hl => ?_)
              refine lv_iinc (v := nI (i + 1)) (lv' := [(5, .int (nI (i + 1))), (4, .int (nI 0)), (6, .int (f (a + i) &&& 255)), (0, .ref h), (1, .int (nI a)), (2, .int (nI b)), (3, .ref (gK g k))]) hx hb dX4_hasWord_78 hl (k := 6) rfl (nI_inc i 1) (by decide) rfl (fun ls hl => ?_)
              refine lv_goto (tgt := 20) hx hb dX4_hasWord_81 (by decide) ?_
              refine lv_iload hx hb dX4_hasWord_20 (lv_at hl 1 rfl) ?_
              refine lv_if_eq (tgt := 84) hx hb dX4_hasWord_22 (by decide) (fun _ => ?_) (fun c22 => absurd (by decide) c22)
              refine lv_iload hx hb dX4_hasWord_84 (lv_at hl 1 rfl) ?_
              refine ct_iret (w := [(h, .inr (3, [.int (nI lim), .ref q, .int (nI sz)])), (q, .inl (gB g, n, .inl f))]) hx hb hr rfl hlocks hQ hAe hK (hP.sub [0, 1] rfl) (hD.sub [0, 1] (by decide) rfl) hS (by omega) (by omega) dX4_hasWord_86 ?_
              refine Or.inr ((?_))
              exact ⟨rfl, rfl, by first | exact ⟨c7, fun j hj => hall j (by omega)⟩ | exact fun z => c7 z.1 | exact fun z => c48 (z.2 _ (by omega)) | exact fun z => c68 ((if_pos hT_46).symm.trans (z.2 _ (by omega))) | exact fun z => c68 ((if_neg hF_46).symm.trans (z.2 _ (by omega)))⟩
            · skip
              refine lv_iconst (v := nI 1) hx hb dX4_hasWord_71 (by decide) ?_
              refine lv_goto (tgt := 76) hx hb dX4_hasWord_72 (by decide) ?_
              refine lv_istore (lv' := [(4, .int (nI 1)), (6, .int (f (a + i) &&& 255)), (0, .ref h), (1, .int (nI a)), (2, .int (nI b)), (3, .ref (gK g k)), (5, .int (nI i))]) hx hb dX4_hasWord_76 hl (by decide) rfl (fun ls hl => ?_)
              refine lv_iinc (v := nI (i + 1)) (lv' := [(5, .int (nI (i + 1))), (4, .int (nI 1)), (6, .int (f (a + i) &&& 255)), (0, .ref h), (1, .int (nI a)), (2, .int (nI b)), (3, .ref (gK g k))]) hx hb dX4_hasWord_78 hl (k := 6) rfl (nI_inc i 1) (by decide) rfl (fun ls hl => ?_)
              refine lv_goto (tgt := 20) hx hb dX4_hasWord_81 (by decide) ?_
              exact ih_K20 (i + 1) (by omega) (by first | exact lt_s hall ((if_pos hT_46).trans c68) | exact lt_s hall ((if_neg hF_46).trans c68)) (by omega) _ _ _ (hP.sub [0, 1] rfl) (hD.sub [0, 1] (by decide) rfl) hS (lv_sub hl [3, 4, 5, 6, 1, 0] rfl)
          · skip
            have hP : va_P (gD g) vwCl [(h, .inr (3, [.int (nI lim), .ref q, .int (nI sz)])), (q, .inl (gB g, n, .inl f))] H := hP
            have hD : va_D A [(h, .inr (3, [.int (nI lim), .ref q, .int (nI sz)])), (q, .inl (gB g, n, .inl f))] := hD
            have hF_46 : ¬ (pGreat (f (a + i) &&& 255)) := hF_46
            refine W.eq (g2 := F0 m 49 ls [.int (nI 0)]) rfl ?_
            refine lv_if_eq (tgt := 60) hx hb dX4_hasWord_49 (by decide) (fun _ => ?_) (fun c49 => absurd (by decide) c49)
            refine lv_iload hx hb dX4_hasWord_60 (lv_at hl 0 rfl) ?_
            refine lv_aload_n hx hb dX4_hasWord_62 rfl (lv_at hl 4 rfl) ?_
            refine lv_iload hx hb dX4_hasWord_63 (lv_at hl 6 rfl) ?_
            refine ct_callV (wr := [(h, .inr (3, [.int (nI lim), .ref q, .int (nI sz)])), (q, .inl (gB g, n, .inl f))]) hx hb hml hown hts hK hP hD hS hA hG hl.1 (c_charAt l g k i (by first | assumption | decide) (by omega)) (cwV 1 hts gX4_hasWord_J0_charAt_5068e rfl rfl rfl (by decide +kernel) ⟨Nat.le_of_ble_eq_true rfl, Nat.le_of_ble_eq_true rfl⟩) (st_recv hG (k := k) (by assumption) hS) rfl rfl (Nat.le_of_ble_eq_true rfl) dX4_hasWord_65 ⟨show 0 + 0 ≤ 0 by omega, show 0 + 0 ≤ 0 by omega⟩ [] [0, 1] rfl rfl (by decide) (by decide) (by decide) (fun r_ w_ H locs hp_ hP hD hS => ?_)
            obtain ⟨rfl, rfl⟩ := hp_
            have hP : va_P (gD g) vwCl [(h, .inr (3, [.int (nI lim), .ref q, .int (nI sz)])), (q, .inl (gB g, n, .inl f))] H := hP
            have hD : va_D A [(h, .inr (3, [.int (nI lim), .ref q, .int (nI sz)])), (q, .inl (gB g, n, .inl f))] := hD
            refine W.eq (g2 := F0 m 68 ls [.int (sbyt k i &&& 255), .int (f (a + i) &&& 255)]) rfl ?_
            refine lv_icmp_ne (tgt := 75) hx hb dX4_hasWord_68 (by decide) (fun c68 => ?_) (fun c68 => ?_)
            · skip
              refine lv_iconst (v := nI 0) hx hb dX4_hasWord_75 (by decide) ?_
              refine lv_istore (lv' := [(4, .int (nI 0)), (6, .int (f (a + i) &&& 255)), (0, .ref h), (1, .int (nI a)), (2, .int (nI b)), (3, .ref (gK g k)), (5, .int (nI i))]) hx hb dX4_hasWord_76 hl (by decide) rfl (fun ls hl => ?_)
              refine lv_iinc (v := nI (i + 1)) (lv' := [(5, .int (nI (i + 1))), (4, .int (nI 0)), (6, .int (f (a + i) &&& 255)), (0, .ref h), (1, .int (nI a)), (2, .int (nI b)), (3, .ref (gK g k))]) hx hb dX4_hasWord_78 hl (k := 6) rfl (nI_inc i 1) (by decide) rfl (fun ls hl => ?_)
              refine lv_goto (tgt := 20) hx hb dX4_hasWord_81 (by decide) ?_
              refine lv_iload hx hb dX4_hasWord_20 (lv_at hl 1 rfl) ?_
              refine lv_if_eq (tgt := 84) hx hb dX4_hasWord_22 (by decide) (fun _ => ?_) (fun c22 => absurd (by decide) c22)
              refine lv_iload hx hb dX4_hasWord_84 (lv_at hl 1 rfl) ?_
              refine ct_iret (w := [(h, .inr (3, [.int (nI lim), .ref q, .int (nI sz)])), (q, .inl (gB g, n, .inl f))]) hx hb hr rfl hlocks hQ hAe hK (hP.sub [0, 1] rfl) (hD.sub [0, 1] (by decide) rfl) hS (by omega) (by omega) dX4_hasWord_86 ?_
              refine Or.inr ((?_))
              exact ⟨rfl, rfl, by first | exact ⟨c7, fun j hj => hall j (by omega)⟩ | exact fun z => c7 z.1 | exact fun z => c48 (z.2 _ (by omega)) | exact fun z => c68 ((if_pos hT_46).symm.trans (z.2 _ (by omega))) | exact fun z => c68 ((if_neg hF_46).symm.trans (z.2 _ (by omega)))⟩
            · skip
              refine lv_iconst (v := nI 1) hx hb dX4_hasWord_71 (by decide) ?_
              refine lv_goto (tgt := 76) hx hb dX4_hasWord_72 (by decide) ?_
              refine lv_istore (lv' := [(4, .int (nI 1)), (6, .int (f (a + i) &&& 255)), (0, .ref h), (1, .int (nI a)), (2, .int (nI b)), (3, .ref (gK g k)), (5, .int (nI i))]) hx hb dX4_hasWord_76 hl (by decide) rfl (fun ls hl => ?_)
              refine lv_iinc (v := nI (i + 1)) (lv' := [(5, .int (nI (i + 1))), (4, .int (nI 1)), (6, .int (f (a + i) &&& 255)), (0, .ref h), (1, .int (nI a)), (2, .int (nI b)), (3, .ref (gK g k))]) hx hb dX4_hasWord_78 hl (k := 6) rfl (nI_inc i 1) (by decide) rfl (fun ls hl => ?_)
              refine lv_goto (tgt := 20) hx hb dX4_hasWord_81 (by decide) ?_
              exact ih_K20 (i + 1) (by omega) (by first | exact lt_s hall ((if_pos hT_46).trans c68) | exact lt_s hall ((if_neg hF_46).trans c68)) (by omega) _ _ _ (hP.sub [0, 1] rfl) (hD.sub [0, 1] (by decide) rfl) hS (lv_sub hl [3, 4, 5, 6, 1, 0] rfl)
    exact K20 ((slen k - 0) + 1) 0 (by omega) (by intro j h1; omega) (Nat.lt_succ_self _) _ _ _ (hP.sub [0, 1] rfl) (hD.sub [0, 1] (by decide) rfl) hS (lv_sub hl [2, 3, 4, 5, 1, 0] rfl)
