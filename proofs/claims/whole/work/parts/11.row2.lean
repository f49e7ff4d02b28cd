/-- the room of a row that must hold need bytes: as it is, or grown -/
def cpN (lim n need : Nat) : Nat := if need ≤ n then n else max need (min lim (2 * n))
def gcN (n need : Nat) : Nat := if need ≤ n then 0 else 1
def gsN (lim n need : Nat) : Nat := if need ≤ n then 0 else max need (min lim (2 * n))
theorem le_cpN (lim n need : Nat) : need ≤ cpN lim n need := by unfold cpN; split <;> omega
theorem cpN_le {lim n need : Nat} (h : need ≤ lim) (hn : n ≤ lim) : cpN lim n need ≤ lim := by unfold cpN; split <;> omega
theorem n_le_cpN {lim n need : Nat} (hn : n ≤ lim) : n ≤ cpN lim n need := by unfold cpN; split <;> omega
theorem cpN_cpN {lim n a b : Nat} (hab : a ≤ b) (hb : b ≤ lim) (h2 : b ≤ 2 * n) : cpN lim (cpN lim n a) b = cpN lim n b := by
  unfold cpN
  by_cases h1 : a ≤ n
  · rw [if_pos h1]
  · rw [if_neg h1, if_neg (show ¬ b ≤ n by omega), if_pos (show b ≤ max a (min lim (2 * n)) by omega)]
    omega
theorem gcN_add {lim n a b : Nat} (hab : a ≤ b) (hb : b ≤ lim) (h2 : b ≤ 2 * n) : gcN n a + gcN (cpN lim n a) b = gcN n b := by
  unfold gcN cpN
  by_cases h1 : a ≤ n
  · rw [if_pos h1, if_pos h1]; omega
  · rw [if_neg h1, if_neg h1, if_neg (show ¬ b ≤ n by omega), if_pos (show b ≤ max a (min lim (2 * n)) by omega)]
theorem gsN_add {lim n a b : Nat} (hab : a ≤ b) (hb : b ≤ lim) (h2 : b ≤ 2 * n) : gsN lim n a + gsN lim (cpN lim n a) b = gsN lim n b := by
  unfold gsN cpN
  by_cases h1 : a ≤ n
  · rw [if_pos h1, if_pos h1]; omega
  · rw [if_neg h1, if_neg h1, if_neg (show ¬ b ≤ n by omega), if_pos (show b ≤ max a (min lim (2 * n)) by omega)]
    omega
theorem cpN_0 {lim n a : Nat} (h : a ≤ n) : cpN lim n a = n := if_pos h
theorem gcN_0 {n a : Nat} (h : a ≤ n) : gcN n a = 0 := if_pos h
theorem gsN_0 {lim n a : Nat} (h : a ≤ n) : gsN lim n a = 0 := if_pos h
theorem b8b8 (x : Int32) : x.toInt8.toInt32.toInt8.toInt32 = x.toInt8.toInt32 := by have h := pk_vb x; rwa [vp_nar_byte] at h

set_option maxHeartbeats 4000000 in
set_option maxRecDepth 100000 in
theorem c_makeRoom (l : Launch) (g : GT) (h : Nat) (q : Nat) (lim : Nat) (n : Nat) (sz : Nat) (f : Nat → Int32) (k : Nat) (hsn : sz ≤ n) (hnb : n < 2 ^ 30) (hnl : n ≤ lim) (hlb : lim < 2 ^ 27) (hfit : sb_Fit f) (hk : sz + k ≤ lim) : CT l g yX4_makeRoom wsX4_makeRoom ({ frames := 1, cells := gcN n (sz + k), slots := gsN lim n (sz + k), locals := 40 } : Room) [.ref h, .int (nI k)] [(h, .inr (3, [.int (nI lim), .ref q, .int (nI sz)])), (q, .inl (gB g, n, .inl f))] (fun r w => (∃ (q1 : Nat) (n1 : Nat) (f1 : Nat → Int32), r = some (.int (nI 1)) ∧ w = [(h, .inr (3, [.int (nI lim), .ref q1, .int (nI sz)])), (q1, .inl (gB g, n1, .inl f1))] ∧ (n1 = cpN lim n (sz + k)) ∧ (∀ j, j < sz → f1 j = f j) ∧ (sb_Fit f1))) (gcN n (sz + k)) (gsN lim n (sz + k)) := by
  refine ct_of (cc := cX4_makeRoom) (maxL := 4) (ret := (some .boolean)) (by decide) rfl (Nat.le_of_ble_eq_true rfl) ?_
  intro p e s m args below meth c A Q hx hb hr hml hown hts hlocks hnam hAe hQ hA hG hK hP hD hS ls hl
  have hl : lv_has ls 4 [(0, .ref h), (1, .int (nI k))] := hl
  have hown : s.vm.findClass RX4 = some m.cls := hown
  have hinX4 : ∀ w ∈ u_ws RX4 TX4 3, w ∈ wsX4_makeRoom := by decide +kernel
  have hf9 := hts (.fieldLink RX4 9 "RequestReader$Row" "limit" "I") (by decide +kernel)
  have hf15 := hts (.fieldLink RX4 15 "RequestReader$Row" "cells" "[B") (by decide +kernel)
  have hf19 := hts (.fieldLink RX4 19 "RequestReader$Row" "size" "I") (by decide +kernel)
  refine lv_iload_n hx hb dX4_makeRoom_0 rfl (lv_at hl 1 rfl) ?_
  refine lv_aload_n hx hb dX4_makeRoom_1 rfl (lv_at hl 0 rfl) ?_
  refine va_get (D := gD g) (ci := 3) (v := .int (nI lim)) (C := RX4) (T := TX4) (N := 3) hx hb hts hinX4 hown hK hP 0 rfl rfl 0 (by decide) hf9 (fun _ h9 => h9) rfl dX4_makeRoom_2 ?_
  refine lv_aload_n hx hb dX4_makeRoom_5 rfl (lv_at hl 0 rfl) ?_
  refine va_get (D := gD g) (ci := 3) (v := .int (nI sz)) (C := RX4) (T := TX4) (N := 3) hx hb hts hinX4 hown hK hP 0 rfl rfl 2 (by decide) hf19 (fun _ h9 => h9) rfl dX4_makeRoom_6 ?_
  refine q_isub (v := nI (lim - sz)) hx hb dX4_makeRoom_9 (pk_sub (a := lim) (b := sz) (by omega)) ?_
  refine lv_icmp_le (tgt := 15) hx hb dX4_makeRoom_10 (by decide) (fun c10 => ?_) (fun c10 => ?_)
  · skip
    have c10 : k ≤ lim - sz := (nI_leI (a := k) (b := lim - sz) (by omega) (by omega)).mp c10
    refine lv_aload_n hx hb dX4_makeRoom_15 rfl (lv_at hl 0 rfl) ?_
    refine va_get (D := gD g) (ci := 3) (v := .int (nI sz)) (C := RX4) (T := TX4) (N := 3) hx hb hts hinX4 hown hK hP 0 rfl rfl 2 (by decide) hf19 (fun _ h9 => h9) rfl dX4_makeRoom_16 ?_
    refine lv_iload_n hx hb dX4_makeRoom_19 rfl (lv_at hl 1 rfl) ?_
    refine q_iadd (v := nI (sz + k)) hx hb dX4_makeRoom_20 (nI_add sz k) ?_
    refine lv_istore_n (lv' := [(2, .int (nI (sz + k))), (0, .ref h), (1, .int (nI k))]) hx hb dX4_makeRoom_21 rfl hl (by decide) rfl (fun ls hl => ?_)
    refine lv_iload_n hx hb dX4_makeRoom_22 rfl (lv_at hl 0 rfl) ?_
    refine lv_aload_n hx hb dX4_makeRoom_23 rfl (lv_at hl 1 rfl) ?_
    refine va_get (D := gD g) (ci := 3) (v := .ref q) (C := RX4) (T := TX4) (N := 3) hx hb hts hinX4 hown hK hP 0 rfl rfl 1 (by decide) hf15 (fun _ h9 => h9) rfl dX4_makeRoom_24 ?_
    refine va_alen hx hb hK hP 1 0 rfl rfl (v := nI n) rfl dX4_makeRoom_27 ?_
    refine lv_icmp_le (tgt := 71) hx hb dX4_makeRoom_28 (by decide) (fun c28 => ?_) (fun c28 => ?_)
    · skip
      have c28 : sz + k ≤ n := (nI_leI (a := sz + k) (b := n) (by omega) (by omega)).mp c28
      refine lv_iconst (v := nI 1) hx hb dX4_makeRoom_71 (by decide) ?_
      refine ct_iret (w := [(h, .inr (3, [.int (nI lim), .ref q, .int (nI sz)])), (q, .inl (gB g, n, .inl f))]) hx hb hr rfl hlocks hQ hAe hK (hP.sub [0, 1] rfl) (hD.sub [0, 1] (by decide) rfl) hS (by first | omega | exact Nat.zero_le _) (by first | omega | exact Nat.zero_le _) dX4_makeRoom_72 ?_
      exact ⟨q, n, f, rfl, rfl, by first | exact (if_pos c28).symm | exact (if_neg c28).symm, by first | exact fun j _ => rfl | exact fun j hj => sb_cpy0 hj, by first | assumption | exact sb_fitC hfit sb_fit0⟩
    · skip
      have c28 : ¬ (sz + k ≤ n) := fun z => c28 ((nI_leI (a := sz + k) (b := n) (by omega) (by omega)).mpr z)
      have hg1 : gcN n (sz + k) = 1 := if_neg c28
      have hg2 : gsN lim n (sz + k) = max (sz + k) (min lim (2 * n)) := if_neg c28
      refine lv_iload_n hx hb dX4_makeRoom_31 rfl (lv_at hl 0 rfl) ?_
      refine lv_aload_n hx hb dX4_makeRoom_32 rfl (lv_at hl 1 rfl) ?_
      refine va_get (D := gD g) (ci := 3) (v := .int (nI lim)) (C := RX4) (T := TX4) (N := 3) hx hb hts hinX4 hown hK hP 0 rfl rfl 0 (by decide) hf9 (fun _ h9 => h9) rfl dX4_makeRoom_33 ?_
      refine lv_iconst (v := nI 2) hx hb dX4_makeRoom_36 (by decide) ?_
      refine lv_aload_n hx hb dX4_makeRoom_37 rfl (lv_at hl 1 rfl) ?_
      refine va_get (D := gD g) (ci := 3) (v := .ref q) (C := RX4) (T := TX4) (N := 3) hx hb hts hinX4 hown hK hP 0 rfl rfl 1 (by decide) hf15 (fun _ h9 => h9) rfl dX4_makeRoom_38 ?_
      refine va_alen hx hb hK hP 1 0 rfl rfl (v := nI n) rfl dX4_makeRoom_41 ?_
      refine q_imul (v := nI (2 * n)) hx hb dX4_makeRoom_42 (pk_mul 2 n) ?_
      refine va_mmin hx hb (by rw [hml]; exact hl.1.symm) hown (hts (.methodLink RX4 50 Lib.Math.min.name) (by decide +kernel)) (hts (.static Lib.Math.min.name) (by decide +kernel)) (hts (.initialized "java/lang/Math") (by decide +kernel)) (hts (.code Lib.Math.min.name Lib.Math.min.code 2 (some .int)) (by decide +kernel)) (Nat.le_of_ble_eq_true rfl) (Nat.le_of_ble_eq_true rfl) (show 0 ≤ gcN n (sz + k) by omega) (show 0 ≤ gsN lim n (sz + k) by omega) dX4_makeRoom_43 ?_
      refine q_top (v := nI (min lim (2 * n))) (nI_min lim (2 * n) (by omega) (by omega)) ?_
      refine va_mmax hx hb (by rw [hml]; exact hl.1.symm) hown (hts (.methodLink RX4 56 Lib.Math.max.name) (by decide +kernel)) (hts (.static Lib.Math.max.name) (by decide +kernel)) (hts (.initialized "java/lang/Math") (by decide +kernel)) (hts (.code Lib.Math.max.name Lib.Math.max.code 2 (some .int)) (by decide +kernel)) (Nat.le_of_ble_eq_true rfl) (Nat.le_of_ble_eq_true rfl) (show 0 ≤ gcN n (sz + k) by omega) (show 0 ≤ gsN lim n (sz + k) by omega) dX4_makeRoom_46 ?_
      refine q_top (v := nI (max (sz + k) (min lim (2 * n)))) (nI_max (sz + k) (min lim (2 * n)) (by omega) (by omega)) ?_
      refine q_newb hx hb (hts (.arrayClass .byte) (by decide +kernel)) hK hP hD hS hA (max (sz + k) (min lim (2 * n))) rfl (by omega) (show 0 + 1 ≤ gcN n (sz + k) by first | omega | exact Nat.zero_le _) (show 0 + (max (sz + k) (min lim (2 * n))) ≤ gsN lim n (sz + k) by first | omega | exact Nat.zero_le _) dX4_makeRoom_49 (fun qn_49 H hP hD hS => ?_)
      have hP : va_P (gD g) vwCl [(h, .inr (3, [.int (nI lim), .ref q, .int (nI sz)])), (q, .inl (gB g, n, .inl f)), (qn_49, .inl (gB g, max (sz + k) (min lim (2 * n)), .inl ((fun _ => 0))))] H := hP
      have hD : va_D A [(h, .inr (3, [.int (nI lim), .ref q, .int (nI sz)])), (q, .inl (gB g, n, .inl f)), (qn_49, .inl (gB g, max (sz + k) (min lim (2 * n)), .inl ((fun _ => 0))))] := hD
      refine lv_astore_n (lv' := [(3, .ref qn_49), (2, .int (nI (sz + k))), (0, .ref h), (1, .int (nI k))]) hx hb dX4_makeRoom_51 rfl hl (by decide) rfl (fun ls hl => ?_)
      refine lv_aload_n hx hb dX4_makeRoom_52 rfl (lv_at hl 2 rfl) ?_
      refine va_get (D := gD g) (ci := 3) (v := .ref q) (C := RX4) (T := TX4) (N := 3) hx hb hts hinX4 hown hK hP 0 rfl rfl 1 (by decide) hf15 (fun _ h9 => h9) rfl dX4_makeRoom_53 ?_
      refine lv_iconst (v := nI 0) hx hb dX4_makeRoom_56 (by decide) ?_
      refine lv_aload_n hx hb dX4_makeRoom_57 rfl (lv_at hl 0 rfl) ?_
      refine lv_iconst (v := nI 0) hx hb dX4_makeRoom_58 (by decide) ?_
      refine lv_aload_n hx hb dX4_makeRoom_59 rfl (lv_at hl 2 rfl) ?_
      refine va_get (D := gD g) (ci := 3) (v := .int (nI sz)) (C := RX4) (T := TX4) (N := 3) hx hb hts hinX4 hown hK hP 0 rfl rfl 2 (by decide) hf19 (fun _ h9 => h9) rfl dX4_makeRoom_60 ?_
      refine q_copy hx hb (by rw [hml]; exact hl.1.symm) hown (hts (.methodLink RX4 26 arraycopyName) (by decide +kernel)) (hts (.native arraycopyName) (by decide +kernel)) (hts (.static arraycopyName) (by decide +kernel)) (hts (.initialized "java/lang/System") (by decide +kernel)) hK hP hD hS 1 2 rfl rfl (0) (0) (sz) rfl rfl rfl (by omega) (by omega) (by omega) (by omega) (by assumption) (Nat.le_of_ble_eq_true rfl) (Nat.le_of_ble_eq_true rfl) dX4_makeRoom_63 (fun H locs hP hD hS => ?_)
      have hP : va_P (gD g) vwCl [(h, .inr (3, [.int (nI lim), .ref q, .int (nI sz)])), (q, .inl (gB g, n, .inl f)), (qn_49, .inl (gB g, max (sz + k) (min lim (2 * n)), .inl (va_cpy f ((fun _ => 0)) 0 0 sz)))] H := hP
      have hD : va_D A [(h, .inr (3, [.int (nI lim), .ref q, .int (nI sz)])), (q, .inl (gB g, n, .inl f)), (qn_49, .inl (gB g, max (sz + k) (min lim (2 * n)), .inl (va_cpy f ((fun _ => 0)) 0 0 sz)))] := hD
      refine lv_aload_n hx hb dX4_makeRoom_66 rfl (lv_at hl 2 rfl) ?_
      refine lv_aload_n hx hb dX4_makeRoom_67 rfl (lv_at hl 0 rfl) ?_
      refine va_put (D := gD g) (ci := 3) (v := .ref qn_49) (ty := (.array .byte)) (C := RX4) (T := TX4) (N := 3) hx hb hts hinX4 tyX4 tyX4_ok nmX4 hown hK hP hD hS 0 rfl rfl 1 (by decide) hf15 (fun _ h9 => h9) rfl (by decide +kernel) rfl rfl (Nat.le_of_ble_eq_true rfl) dX4_makeRoom_68 (fun H locs hP hD hS => ?_)
      have hP : va_P (gD g) vwCl [(h, .inr (3, [.int (nI lim), .ref qn_49, .int (nI sz)])), (q, .inl (gB g, n, .inl f)), (qn_49, .inl (gB g, max (sz + k) (min lim (2 * n)), .inl (va_cpy f ((fun _ => 0)) 0 0 sz)))] H := hP
      have hD : va_D A [(h, .inr (3, [.int (nI lim), .ref qn_49, .int (nI sz)])), (q, .inl (gB g, n, .inl f)), (qn_49, .inl (gB g, max (sz + k) (min lim (2 * n)), .inl (va_cpy f ((fun _ => 0)) 0 0 sz)))] := hD
      refine lv_iconst (v := nI 1) hx hb dX4_makeRoom_71 (by decide) ?_
      refine ct_iret (w := [(h, .inr (3, [.int (nI lim), .ref qn_49, .int (nI sz)])), (qn_49, .inl (gB g, max (sz + k) (min lim (2 * n)), .inl (va_cpy f ((fun _ => 0)) 0 0 sz)))]) hx hb hr rfl hlocks hQ hAe hK (hP.sub [0, 2] rfl) (hD.sub [0, 2] (by decide) rfl) hS (by first | omega | exact Nat.zero_le _) (by first | omega | exact Nat.zero_le _) dX4_makeRoom_72 ?_
      exact ⟨qn_49, max (sz + k) (min lim (2 * n)), va_cpy f ((fun _ => 0)) 0 0 sz, rfl, rfl, by first | exact (if_pos c28).symm | exact (if_neg c28).symm, by first | exact fun j _ => rfl | exact fun j hj => sb_cpy0 hj, by first | assumption | exact sb_fitC hfit sb_fit0⟩
  · skip
    have c10 : ¬ (k ≤ lim - sz) := fun z => c10 ((nI_leI (a := k) (b := lim - sz) (by omega) (by omega)).mpr z)
    exact absurd (by omega) c10

set_option maxHeartbeats 4000000 in
set_option maxRecDepth 100000 in
theorem c_add (l : Launch) (g : GT) (h : Nat) (q : Nat) (lim : Nat) (n : Nat) (sz : Nat) (f : Nat → Int32) (v : Int32) (hsn : sz ≤ n) (hnb : n < 2 ^ 30) (hnl : n ≤ lim) (hlb : lim < 2 ^ 27) (hfit : sb_Fit f) (hk : sz + 1 ≤ lim) : CT l g yX4_add wsX4_add ({ frames := 2, cells := gcN n (sz + 1), slots := gsN lim n (sz + 1), locals := 63 } : Room) [.ref h, .int v] [(h, .inr (3, [.int (nI lim), .ref q, .int (nI sz)])), (q, .inl (gB g, n, .inl f))] (fun r w => (∃ (q1 : Nat) (n1 : Nat) (f1 : Nat → Int32), r = none ∧ w = [(h, .inr (3, [.int (nI lim), .ref q1, .int (nI (sz + 1))])), (q1, .inl (gB g, n1, .inl f1))] ∧ (n1 = cpN lim n (sz + 1)) ∧ (∀ j, j < sz → f1 j = f j) ∧ (f1 sz = v.toInt8.toInt32) ∧ (sb_Fit f1))) (gcN n (sz + 1)) (gsN lim n (sz + 1)) := by
  refine ct_of (cc := cX4_add) (maxL := 2) (ret := none) (by decide) rfl (Nat.le_of_ble_eq_true rfl) ?_
  intro p e s m args below meth c A Q hx hb hr hml hown hts hlocks hnam hAe hQ hA hG hK hP hD hS ls hl
  have hl : lv_has ls 2 [(0, .ref h), (1, .int v)] := hl
  have hown : s.vm.findClass RX4 = some m.cls := hown
  have hinX4 : ∀ w ∈ u_ws RX4 TX4 3, w ∈ wsX4_add := by decide +kernel
  have hf15 := hts (.fieldLink RX4 15 "RequestReader$Row" "cells" "[B") (by decide +kernel)
  have hf19 := hts (.fieldLink RX4 19 "RequestReader$Row" "size" "I") (by decide +kernel)
  refine lv_aload_n hx hb dX4_add_0 rfl (lv_at hl 0 rfl) ?_
  refine lv_iconst (v := nI 1) hx hb dX4_add_1 (by decide) ?_
  refine ct_callV (wr := []) hx hb hml hown hts hK hP hD hS hA hG hl.1 (c_makeRoom l g h q lim n sz f 1 (by omega) (by omega) (by omega) (by omega) (by assumption) (by omega)) (cwV 1 hts gX4_add_X4_makeRoom rfl rfl rfl (by decide +kernel) ⟨Nat.le_of_ble_eq_true rfl, Nat.le_of_ble_eq_true rfl⟩) (va_recv hK hP (ci := 3) (q0 := 0) rfl rfl) rfl rfl (Nat.le_of_ble_eq_true rfl) dX4_add_2 ⟨show 0 + (gcN n (sz + 1)) ≤ gcN n (sz + 1) by first | omega | exact Nat.zero_le _, show 0 + (gsN lim n (sz + 1)) ≤ gsN lim n (sz + 1) by first | omega | exact Nat.zero_le _⟩ [0, 1] [] rfl rfl (by decide) (by decide) (by decide) (fun r_ w_ H locs hp_ hP hD hS => ?_)
  obtain ⟨q1_2, n1_2, f1_2, rfl, rfl, en_2, ef_2, ft_2⟩ := hp_
  have hP : va_P (gD g) vwCl [(h, .inr (3, [.int (nI lim), .ref q1_2, .int (nI sz)])), (q1_2, .inl (gB g, n1_2, .inl f1_2))] H := hP
  have hD : va_D A [(h, .inr (3, [.int (nI lim), .ref q1_2, .int (nI sz)])), (q1_2, .inl (gB g, n1_2, .inl f1_2))] := hD
  have en_2 : n1_2 = cpN lim n (sz + 1) := en_2
  have ef_2 : ∀ j, j < sz → f1_2 j = f j := ef_2
  have ft_2 : sb_Fit f1_2 := ft_2
  refine W.widen (k := gcN n (sz + 1)) (n := gsN lim n (sz + 1)) (by omega) (by omega) ?_
  refine W.eq (g2 := F0 m 5 ls [.int (nI 1)]) rfl ?_
  have hq1 := le_cpN lim n (sz + 1)
  have hq2 := cpN_le (lim := lim) (n := n) (need := sz + 1) (by omega) (by omega)
  have hq3 := n_le_cpN (lim := lim) (n := n) (need := sz + 1) (by omega)
  refine lv_if_eq (tgt := 29) hx hb dX4_add_5 (by decide) (fun c5 => absurd c5 (by decide)) (fun _ => ?_)
  refine lv_aload_n hx hb dX4_add_8 rfl (lv_at hl 0 rfl) ?_
  refine va_get (D := gD g) (ci := 3) (v := .ref q1_2) (C := RX4) (T := TX4) (N := 3) hx hb hts hinX4 hown hK hP 0 rfl rfl 1 (by decide) hf15 (fun _ h9 => h9) rfl dX4_add_9 ?_
  refine lv_aload_n hx hb dX4_add_12 rfl (lv_at hl 0 rfl) ?_
  refine va_get (D := gD g) (ci := 3) (v := .int (nI sz)) (C := RX4) (T := TX4) (N := 3) hx hb hts hinX4 hown hK hP 0 rfl rfl 2 (by decide) hf19 (fun _ h9 => h9) rfl dX4_add_13 ?_
  refine lv_iload_n hx hb dX4_add_16 rfl (lv_at hl 1 rfl) ?_
  refine lv_i2b (v := v.toInt8.toInt32) hx hb dX4_add_17 (rfl) ?_
  refine q_bast hx hb hK hP hD hS 1 rfl (sz) rfl (by omega) (by omega) dX4_add_18 (fun H locs hP hD hS => ?_)
  have hP : va_P (gD g) vwCl [(h, .inr (3, [.int (nI lim), .ref q1_2, .int (nI sz)])), (q1_2, .inl (gB g, n1_2, .inl (upd f1_2 sz v.toInt8.toInt32.toInt8.toInt32)))] H := hP
  have hD : va_D A [(h, .inr (3, [.int (nI lim), .ref q1_2, .int (nI sz)])), (q1_2, .inl (gB g, n1_2, .inl (upd f1_2 sz v.toInt8.toInt32.toInt8.toInt32)))] := hD
  refine lv_aload_n hx hb dX4_add_19 rfl (lv_at hl 0 rfl) ?_
  refine lv_dup hx hb dX4_add_20 rfl ?_
  refine va_get (D := gD g) (ci := 3) (v := .int (nI sz)) (C := RX4) (T := TX4) (N := 3) hx hb hts hinX4 hown hK hP 0 rfl rfl 2 (by decide) hf19 (fun _ h9 => h9) rfl dX4_add_21 ?_
  refine lv_iconst (v := nI 1) hx hb dX4_add_24 (by decide) ?_
  refine q_iadd (v := nI (sz + 1)) hx hb dX4_add_25 (nI_add sz 1) ?_
  refine va_put (D := gD g) (ci := 3) (v := .int (nI (sz + 1))) (ty := .int) (C := RX4) (T := TX4) (N := 3) hx hb hts hinX4 tyX4 tyX4_ok nmX4 hown hK hP hD hS 0 rfl rfl 2 (by decide) hf19 (fun _ h9 => h9) rfl (by decide +kernel) rfl rfl (Nat.le_of_ble_eq_true rfl) dX4_add_26 (fun H locs hP hD hS => ?_)
  have hP : va_P (gD g) vwCl [(h, .inr (3, [.int (nI lim), .ref q1_2, .int (nI (sz + 1))])), (q1_2, .inl (gB g, n1_2, .inl (upd f1_2 sz v.toInt8.toInt32.toInt8.toInt32)))] H := hP
  have hD : va_D A [(h, .inr (3, [.int (nI lim), .ref q1_2, .int (nI (sz + 1))])), (q1_2, .inl (gB g, n1_2, .inl (upd f1_2 sz v.toInt8.toInt32.toInt8.toInt32)))] := hD
  refine ct_vret (w := [(h, .inr (3, [.int (nI lim), .ref q1_2, .int (nI (sz + 1))])), (q1_2, .inl (gB g, n1_2, .inl (upd f1_2 sz v.toInt8.toInt32.toInt8.toInt32)))]) hx hb hr hlocks hQ hAe hK (hP.sub [0, 1] rfl) (hD.sub [0, 1] (by decide) rfl) hS (by first | omega | exact Nat.zero_le _) (by first | omega | exact Nat.zero_le _) dX4_add_29 ?_
  exact ⟨q1_2, n1_2, upd f1_2 sz v.toInt8.toInt32.toInt8.toInt32, rfl, rfl, by assumption, by intro j hj; rw [pk_un (by omega)]; exact ef_2 j hj, by rw [pk_us]; exact b8b8 v, by exact sb_fitU ft_2 (pk_fb _)⟩
