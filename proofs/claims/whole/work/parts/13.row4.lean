def sL (k : Nat) : List Int32 := (sTab.getD k ("", 0, "", [])).2.2.2
def hasL (f : Nat → Int32) (a : Nat) (l : List Int32) : Prop := ∀ j, j < l.length → f (a + j) = l.getD j 0
theorem sb7 : ∀ k, k < 84 → ∀ j, j < slen k → (sbyt k j).toInt8.toInt32 = sbyt k j ∧ (sbyt k j &&& 255).toInt8.toInt32 = sbyt k j ∧ sbyt k j &&& 255 = sbyt k j := by decide +kernel
def ush (v : Int32) (s : Nat) : Int32 := (v.toUInt32 >>> (Int32.toUInt32 (nI s) &&& Int32.toUInt32 31)).toInt32

set_option maxHeartbeats 4000000 in
set_option maxRecDepth 100000 in
theorem c_check (l : Launch) (g : GT) (h : Nat) (q : Nat) (lim : Nat) (n : Nat) (sz : Nat) (f : Nat → Int32) (a : Nat) (b : Nat) (hsn : sz ≤ n) (hnb : n < 2 ^ 30) (hab : a ≤ b) (hb2 : b ≤ sz) : CT l g yX4_check wsX4_check ({ frames := 1, cells := 0, slots := 0, locals := 21 } : Room) [.ref h, .int (nI a), .int (nI b)] [(h, .inr (3, [.int (nI lim), .ref q, .int (nI sz)])), (q, .inl (gB g, n, .inl f))] (fun r w => (r = some (.int (crcR f a (b - a) ^^^ -1)) ∧ w = [(h, .inr (3, [.int (nI lim), .ref q, .int (nI sz)])), (q, .inl (gB g, n, .inl f))])) (0) (0) := by
  refine ct_of (cc := cX4_check) (maxL := 5) (ret := (some .int)) (by decide) rfl (Nat.le_of_ble_eq_true rfl) ?_
  intro p e s m args below meth c A Q hx hb hr hml hown hts hlocks hnam hAe hQ hA hG hK hP hD hS ls hl
  have hl : lv_has ls 5 [(0, .ref h), (1, .int (nI a)), (2, .int (nI b))] := hl
  have hown : s.vm.findClass RX4 = some m.cls := hown
  have hf68 := hts (.fieldLink RX4 68 "RequestReader$Row" "CHECK_STEPS" "[I") (by decide +kernel)
  refine lv_iconst (v := (-1)) hx hb dX4_check_0 (by decide) ?_
  refine lv_istore_n (lv' := [(3, .int (-1)), (0, .ref h), (1, .int (nI a)), (2, .int (nI b))]) hx hb dX4_check_1 rfl hl (by decide) rfl (fun ls hl => ?_)
  refine lv_iload_n hx hb dX4_check_2 rfl (lv_at hl 2 rfl) ?_
  refine lv_istore (lv' := [(4, .int (nI a)), (3, .int (-1)), (0, .ref h), (1, .int (nI a)), (2, .int (nI b))]) hx hb dX4_check_3 hl (by decide) rfl (fun ls hl => ?_)
  have K5 : ∀ (N_ : Nat) (t : Nat), (a + t ≤ b) → (b - a - t) < N_ → ∀ (H : Heap) (locs : List Loc) (ls : Array Slot), va_P (gD g) vwCl [(h, .inr (3, [.int (nI lim), .ref q, .int (nI sz)])), (q, .inl (gB g, n, .inl f))] H → va_D A [(h, .inr (3, [.int (nI lim), .ref q, .int (nI sz)])), (q, .inl (gB g, n, .inl f))] → va_S A s.heap H locs → lv_has ls 5 [(0, .ref h), (1, .int (nI a)), (2, .int (nI b)), (3, .int (crcR f a t)), (4, .int (nI (a + t)))] → W p l e ({ frames := 1, cells := 0, slots := 0, locals := 21 } : Room) s m args below meth c H locs (0) (0) Q (F0 m 5 ls []) := by
    intro N_
    induction N_ with
    | zero => intro t ht hm_; exact absurd hm_ (Nat.not_lt_zero _)
    | succ N_ ih_K5 =>
      intro t ht hm_ H locs ls hP hD hS hl
      refine lv_iload hx hb dX4_check_5 (lv_at hl 4 rfl) ?_
      refine lv_iload_n hx hb dX4_check_7 rfl (lv_at hl 2 rfl) ?_
      refine lv_icmp_ge (tgt := 52) hx hb dX4_check_8 (by decide) (fun c8 => ?_) (fun c8 => ?_)
      · skip
        have c8 : b ≤ a + t := (nI_leI (a := b) (b := a + t) (by omega) (by omega)).mp c8
        have et : t = b - a := by omega
        refine lv_iload_n hx hb dX4_check_52 rfl (lv_at hl 3 rfl) ?_
        refine lv_iconst (v := (-1)) hx hb dX4_check_53 (by decide) ?_
        refine q_ixor (v := (crcR f a t) ^^^ (-1)) hx hb dX4_check_54 (rfl) ?_
        refine ct_iret (w := [(h, .inr (3, [.int (nI lim), .ref q, .int (nI sz)])), (q, .inl (gB g, n, .inl f))]) hx hb hr rfl hlocks hQ hAe hK (hP.sub [0, 1] rfl) (hD.sub [0, 1] (by decide) rfl) hS (by omega) (by omega) dX4_check_55 ?_
        exact ⟨by rw [et], rfl⟩
      · skip
        have c8 : ¬ (b ≤ a + t) := fun z => c8 ((nI_leI (a := b) (b := a + t) (by omega) (by omega)).mpr z)
        refine lv_iload_n hx hb dX4_check_11 rfl (lv_at hl 3 rfl) ?_
        refine lv_aload_n hx hb dX4_check_12 rfl (lv_at hl 0 rfl) ?_
        refine lv_iload hx hb dX4_check_13 (lv_at hl 4 rfl) ?_
        refine ct_callV (wr := []) hx hb hml hown hts hK hP hD hS hA hG hl.1 (c_getIn l g h q lim n sz f (a + t) (by omega) (by omega) (by omega)) (cwV 1 hts gX4_check_X4_get rfl rfl rfl (by decide +kernel) ⟨Nat.le_of_ble_eq_true rfl, Nat.le_of_ble_eq_true rfl⟩) (va_recv hK hP (ci := 3) (q0 := 0) rfl rfl) rfl rfl (Nat.le_of_ble_eq_true rfl) dX4_check_15 ⟨show 0 + 0 ≤ 0 by omega, show 0 + 0 ≤ 0 by omega⟩ [0, 1] [] rfl rfl (by decide) (by decide) (by decide) (fun r_ w_ H locs hp_ hP hD hS => ?_)
        obtain ⟨rfl, rfl⟩ := hp_
        have hP : va_P (gD g) vwCl [(h, .inr (3, [.int (nI lim), .ref q, .int (nI sz)])), (q, .inl (gB g, n, .inl f))] H := hP
        have hD : va_D A [(h, .inr (3, [.int (nI lim), .ref q, .int (nI sz)])), (q, .inl (gB g, n, .inl f))] := hD
        refine W.eq (g2 := F0 m 18 ls [.int (f (a + t) &&& 255), .int (crcR f a t)]) rfl ?_
        refine q_ixor (v := (crcR f a t) ^^^ (f (a + t) &&& 255)) hx hb dX4_check_18 (rfl) ?_
        refine lv_istore_n (lv' := [(3, .int ((crcR f a t) ^^^ (f (a + t) &&& 255))), (0, .ref h), (1, .int (nI a)), (2, .int (nI b)), (4, .int (nI (a + t)))]) hx hb dX4_check_19 rfl hl (by decide) rfl (fun ls hl => ?_)
        refine lv_iload_n hx hb dX4_check_20 rfl (lv_at hl 0 rfl) ?_
        refine lv_iconst (v := nI 4) hx hb dX4_check_21 (by decide) ?_
        refine lv_iushr (v := (((crcR f a t) ^^^ (f (a + t) &&& 255)).toUInt32 >>> (Int32.toUInt32 (nI 4) &&& Int32.toUInt32 31)).toInt32) hx hb dX4_check_22 (rfl) ?_
        refine va_gets hx hb hG.2.2.2.1 hS hown hf68 (fun _ h9 => h9) dX4_check_23 ?_
        refine lv_iload_n hx hb dX4_check_26 rfl (lv_at hl 0 rfl) ?_
        refine lv_bipush (v := nI 15) hx hb dX4_check_27 (by decide) ?_
        refine q_iand (v := ((crcR f a t) ^^^ (f (a + t) &&& 255)) &&& (nI 15)) hx hb dX4_check_29 (rfl) ?_
        refine va_ti hx hb (hG.2.2.2.2.1) hS (i := ((crcR f a t) ^^^ (f (a + t) &&& 255)) &&& (nI 15)) (by exact pk_andIn _ 4 (by decide) (by decide)) (v := .int (cTab.getD (((crcR f a t) ^^^ (f (a + t) &&& 255)) &&& nI 15).toNatClampNeg 0)) (by rfl) dX4_check_30 ?_
        refine q_ixor (v := nibS ((crcR f a t) ^^^ (f (a + t) &&& 255))) hx hb dX4_check_31 (rfl) ?_
        refine lv_istore_n (lv' := [(3, .int (nibS ((crcR f a t) ^^^ (f (a + t) &&& 255)))), (0, .ref h), (1, .int (nI a)), (2, .int (nI b)), (4, .int (nI (a + t)))]) hx hb dX4_check_32 rfl hl (by decide) rfl (fun ls hl => ?_)
        refine lv_iload_n hx hb dX4_check_33 rfl (lv_at hl 0 rfl) ?_
        refine lv_iconst (v := nI 4) hx hb dX4_check_34 (by decide) ?_
        refine lv_iushr (v := ((nibS ((crcR f a t) ^^^ (f (a + t) &&& 255))).toUInt32 >>> (Int32.toUInt32 (nI 4) &&& Int32.toUInt32 31)).toInt32) hx hb dX4_check_35 (rfl) ?_
        refine va_gets hx hb hG.2.2.2.1 hS hown hf68 (fun _ h9 => h9) dX4_check_36 ?_
        refine lv_iload_n hx hb dX4_check_39 rfl (lv_at hl 0 rfl) ?_
        refine lv_bipush (v := nI 15) hx hb dX4_check_40 (by decide) ?_
        refine q_iand (v := (nibS ((crcR f a t) ^^^ (f (a + t) &&& 255))) &&& (nI 15)) hx hb dX4_check_42 (rfl) ?_
        refine va_ti hx hb (hG.2.2.2.2.1) hS (i := (nibS ((crcR f a t) ^^^ (f (a + t) &&& 255))) &&& (nI 15)) (by exact pk_andIn _ 4 (by decide) (by decide)) (v := .int (cTab.getD ((nibS ((crcR f a t) ^^^ (f (a + t) &&& 255))) &&& nI 15).toNatClampNeg 0)) (by rfl) dX4_check_43 ?_
        refine q_ixor (v := nibS (nibS ((crcR f a t) ^^^ (f (a + t) &&& 255)))) hx hb dX4_check_44 (rfl) ?_
        refine lv_istore_n (lv' := [(3, .int (nibS (nibS ((crcR f a t) ^^^ (f (a + t) &&& 255))))), (0, .ref h), (1, .int (nI a)), (2, .int (nI b)), (4, .int (nI (a + t)))]) hx hb dX4_check_45 rfl hl (by decide) rfl (fun ls hl => ?_)
        refine lv_iinc (v := nI (a + t + 1)) (lv' := [(4, .int (nI (a + t + 1))), (3, .int (nibS (nibS ((crcR f a t) ^^^ (f (a + t) &&& 255))))), (0, .ref h), (1, .int (nI a)), (2, .int (nI b))]) hx hb dX4_check_46 hl (k := 4) rfl (nI_inc (a + t) 1) (by decide) rfl (fun ls hl => ?_)
        refine lv_goto (tgt := 5) hx hb dX4_check_49 (by decide) ?_
        exact ih_K5 (t + 1) (by omega) (by omega) _ _ _ (hP.sub [0, 1] rfl) (hD.sub [0, 1] (by decide) rfl) hS (lv_sub hl [2, 3, 4, 1, 0] rfl)
  exact K5 ((b - a - 0) + 1) 0 (by omega) (Nat.lt_succ_self _) _ _ _ (hP.sub [0, 1] rfl) (hD.sub [0, 1] (by decide) rfl) hS (lv_sub hl [2, 3, 4, 1, 0] rfl)

set_option maxHeartbeats 4000000 in
set_option maxRecDepth 100000 in
theorem c_rowInit (l : Launch) (g : GT) (h : Nat) (lim : Nat)  : CT l g yX4_init wsX4_init ({ frames := 1, cells := 1, slots := 256, locals := 30 } : Room) [.ref h, .int (nI lim)] [(h, .inr (3, [.int (nI 0), .null, .int (nI 0)]))] (fun r w => (∃ (q1 : Nat), r = none ∧ w = [(h, .inr (3, [.int (nI lim), .ref q1, .int (nI 0)])), (q1, .inl (gB g, 256, .inl ((fun _ => 0))))])) (1) (256) := by
  refine ct_of (cc := cX4_init) (maxL := 2) (ret := none) (by decide) rfl (Nat.le_of_ble_eq_true rfl) ?_
  intro p e s m args below meth c A Q hx hb hr hml hown hts hlocks hnam hAe hQ hA hG hK hP hD hS ls hl
  have hl : lv_has ls 2 [(0, .ref h), (1, .int (nI lim))] := hl
  have hown : s.vm.findClass RX4 = some m.cls := hown
  have hinX4 : ∀ w ∈ u_ws RX4 TX4 3, w ∈ wsX4_init := by decide +kernel
  have hf9 := hts (.fieldLink RX4 9 "RequestReader$Row" "limit" "I") (by decide +kernel)
  have hf15 := hts (.fieldLink RX4 15 "RequestReader$Row" "cells" "[B") (by decide +kernel)
  have hf19 := hts (.fieldLink RX4 19 "RequestReader$Row" "size" "I") (by decide +kernel)
  refine lv_aload_n hx hb dX4_init_0 rfl (lv_at hl 0 rfl) ?_
  refine W.objInit hx hb hown (hts (.methodLink RX4 3 objectInit) (by decide +kernel)) (hts (.instanceMethod objectInit) (by decide +kernel)) (hts (.code objectInit ⟨#[0xb1]⟩ 1 none) (by decide +kernel)) rfl (by rw [hml]; exact hl.1) rfl dX4_init_1 (Nat.le_of_ble_eq_true rfl) (Nat.le_of_ble_eq_true rfl) ?_
  refine W.eq (g2 := F0 m 4 ls []) rfl ?_
  refine lv_aload_n hx hb dX4_init_4 rfl (lv_at hl 0 rfl) ?_
  refine lv_iload_n hx hb dX4_init_5 rfl (lv_at hl 1 rfl) ?_
  refine va_putF (D := gD g) (ci := 3) (v := .int (nI lim)) (ty := .int) (C := RX4) (T := TX4) (N := 3) hx hb hts hinX4 tyX4 tyX4_ok nmX4 hown hK hP hD hS 0 rfl rfl 0 (by decide) hf9 (fun _ h9 => h9) rfl hnam rfl (by decide +kernel) rfl rfl (Nat.le_of_ble_eq_true rfl) dX4_init_6 (fun H locs hP hD hS => ?_)
  have hP : va_P (gD g) vwCl [(h, .inr (3, [.int (nI lim), .null, .int (nI 0)]))] H := hP
  have hD : va_D A [(h, .inr (3, [.int (nI lim), .null, .int (nI 0)]))] := hD
  refine lv_aload_n hx hb dX4_init_9 rfl (lv_at hl 0 rfl) ?_
  refine lv_sipush (v := nI 256) hx hb dX4_init_10 (by decide) ?_
  refine q_newb hx hb (hts (.arrayClass .byte) (by decide +kernel)) hK hP hD hS hA (256) rfl (by omega) (show 0 + 1 ≤ 1 by omega) (show 0 + 256 ≤ 256 by omega) dX4_init_13 (fun qn_13 H hP hD hS => ?_)
  have hP : va_P (gD g) vwCl [(h, .inr (3, [.int (nI lim), .null, .int (nI 0)])), (qn_13, .inl (gB g, 256, .inl ((fun _ => 0))))] H := hP
  have hD : va_D A [(h, .inr (3, [.int (nI lim), .null, .int (nI 0)])), (qn_13, .inl (gB g, 256, .inl ((fun _ => 0))))] := hD
  refine va_put (D := gD g) (ci := 3) (v := .ref qn_13) (ty := (.array .byte)) (C := RX4) (T := TX4) (N := 3) hx hb hts hinX4 tyX4 tyX4_ok nmX4 hown hK hP hD hS 0 rfl rfl 1 (by decide) hf15 (fun _ h9 => h9) rfl (by decide +kernel) rfl rfl (Nat.le_of_ble_eq_true rfl) dX4_init_15 (fun H locs hP hD hS => ?_)
  have hP : va_P (gD g) vwCl [(h, .inr (3, [.int (nI lim), .ref qn_13, .int (nI 0)])), (qn_13, .inl (gB g, 256, .inl ((fun _ => 0))))] H := hP
  have hD : va_D A [(h, .inr (3, [.int (nI lim), .ref qn_13, .int (nI 0)])), (qn_13, .inl (gB g, 256, .inl ((fun _ => 0))))] := hD
  refine lv_aload_n hx hb dX4_init_18 rfl (lv_at hl 0 rfl) ?_
  refine lv_iconst (v := nI 0) hx hb dX4_init_19 (by decide) ?_
  refine va_put (D := gD g) (ci := 3) (v := .int (nI 0)) (ty := .int) (C := RX4) (T := TX4) (N := 3) hx hb hts hinX4 tyX4 tyX4_ok nmX4 hown hK hP hD hS 0 rfl rfl 2 (by decide) hf19 (fun _ h9 => h9) rfl (by decide +kernel) rfl rfl (Nat.le_of_ble_eq_true rfl) dX4_init_20 (fun H locs hP hD hS => ?_)
  have hP : va_P (gD g) vwCl [(h, .inr (3, [.int (nI lim), .ref qn_13, .int (nI 0)])), (qn_13, .inl (gB g, 256, .inl ((fun _ => 0))))] H := hP
  have hD : va_D A [(h, .inr (3, [.int (nI lim), .ref qn_13, .int (nI 0)])), (qn_13, .inl (gB g, 256, .inl ((fun _ => 0))))] := hD
  refine ct_vret (w := [(h, .inr (3, [.int (nI lim), .ref qn_13, .int (nI 0)])), (qn_13, .inl (gB g, 256, .inl ((fun _ => 0))))]) hx hb hr hlocks hQ hAe hK (hP.sub [0, 1] rfl) (hD.sub [0, 1] (by decide) rfl) hS (by omega) (by omega) dX4_init_23 ?_
  exact ⟨qn_13, rfl, rfl⟩

set_option maxHeartbeats 4000000 in
set_option maxRecDepth 100000 in
theorem c_addF (l : Launch) (g : GT) (h : Nat) (q : Nat) (lim : Nat) (n : Nat) (sz : Nat) (f : Nat → Int32) (v : Int32) (hsn : sz ≤ n) (hnb : n < 2 ^ 30) (hnl : n ≤ lim) (hlb : lim < 2 ^ 27) (hfit : sb_Fit f) (hk : sz + 1 ≤ n) : CT l g yX4_add wsX4_add ({ frames := 2, cells := 0, slots := 0, locals := 63 } : Room) [.ref h, .int v] [(h, .inr (3, [.int (nI lim), .ref q, .int (nI sz)])), (q, .inl (gB g, n, .inl f))] (fun r w => (∃ (q1 : Nat) (n1 : Nat) (f1 : Nat → Int32), r = none ∧ w = [(h, .inr (3, [.int (nI lim), .ref q1, .int (nI (sz + 1))])), (q1, .inl (gB g, n1, .inl f1))] ∧ (n1 = n) ∧ (∀ j, j < sz → f1 j = f j) ∧ (f1 sz = v.toInt8.toInt32) ∧ (sb_Fit f1))) (0) (0) := by
  refine ct_of (cc := cX4_add) (maxL := 2) (ret := none) (by decide) rfl (Nat.le_of_ble_eq_true rfl) ?_
  intro p e s m args below meth c A Q hx hb hr hml hown hts hlocks hnam hAe hQ hA hG hK hP hD hS ls hl
  have hl : lv_has ls 2 [(0, .ref h), (1, .int v)] := hl
  have hown : s.vm.findClass RX4 = some m.cls := hown
  have hinX4 : ∀ w ∈ u_ws RX4 TX4 3, w ∈ wsX4_add := by decide +kernel
  have hf15 := hts (.fieldLink RX4 15 "RequestReader$Row" "cells" "[B") (by decide +kernel)
  have hf19 := hts (.fieldLink RX4 19 "RequestReader$Row" "size" "I") (by decide +kernel)
  have hg1 : gcN n (sz + 1) = 0 := gcN_0 (by omega)
  have hg2 : gsN lim n (sz + 1) = 0 := gsN_0 (by omega)
  have hg3 : cpN lim n (sz + 1) = n := cpN_0 (by omega)
  refine lv_aload_n hx hb dX4_add_0 rfl (lv_at hl 0 rfl) ?_
  refine lv_iconst (v := nI 1) hx hb dX4_add_1 (by decide) ?_
  refine ct_callV (wr := []) hx hb hml hown hts hK hP hD hS hA hG hl.1 (c_makeRoom l g h q lim n sz f 1 (by omega) (by omega) (by omega) (by omega) (by assumption) (by omega)) (cwV 1 hts gX4_add_X4_makeRoom rfl rfl rfl (by decide +kernel) ⟨Nat.le_of_ble_eq_true rfl, Nat.le_of_ble_eq_true rfl⟩) (va_recv hK hP (ci := 3) (q0 := 0) rfl rfl) rfl rfl (Nat.le_of_ble_eq_true rfl) dX4_add_2 ⟨show 0 + (gcN n (sz + 1)) ≤ 0 by first | omega | exact Nat.zero_le _, show 0 + (gsN lim n (sz + 1)) ≤ 0 by first | omega | exact Nat.zero_le _⟩ [0, 1] [] rfl rfl (by decide) (by decide) (by decide) (fun r_ w_ H locs hp_ hP hD hS => ?_)
  obtain ⟨q1_2, n1_2, f1_2, rfl, rfl, en_2, ef_2, ft_2⟩ := hp_
  have hP : va_P (gD g) vwCl [(h, .inr (3, [.int (nI lim), .ref q1_2, .int (nI sz)])), (q1_2, .inl (gB g, n1_2, .inl f1_2))] H := hP
  have hD : va_D A [(h, .inr (3, [.int (nI lim), .ref q1_2, .int (nI sz)])), (q1_2, .inl (gB g, n1_2, .inl f1_2))] := hD
  have en_2 : n1_2 = cpN lim n (sz + 1) := en_2
  have ef_2 : ∀ j, j < sz → f1_2 j = f j := ef_2
  have ft_2 : sb_Fit f1_2 := ft_2
  refine W.widen (k := gcN n (sz + 1)) (n := gsN lim n (sz + 1)) (by omega) (by omega) ?_
  refine W.eq (g2 := F0 m 5 ls [.int (nI 1)]) rfl ?_
  refine lv_if_eq (tgt := 29) hx hb dX4_add_5 (by decide) (fun c5 => absurd c5 (by decide)) (fun _ => ?_)
  refine lv_aload_n hx hb dX4_add_8 rfl (lv_at hl 0 rfl) ?_
  refine va_get (D := gD g) (ci := 3) (v := .ref q1_2) (C := RX4) (T := TX4) (N := 3) hx hb hts hinX4 hown hK hP 0 rfl rfl 1 (by decide) hf15 (fun _ h9 => h9) rfl dX4_add_9 ?_
  refine lv_aload_n hx hb dX4_add_12 rfl (lv_at hl 0 rfl) ?_
  refine va_get (D := gD g) (ci := 3) (v := .int (nI sz)) (C := RX4) (T := TX4) (N := 3) hx hb hts hinX4 hown hK hP 0 rfl rfl 2 (by decide) hf19 (fun _ h9 => h9) rfl dX4_add_13 ?_
  refine lv_iload_n hx hb dX4_add_16 rfl (lv_at hl 1 rfl) ?_
  refine lv_i2b (v := v.toInt8.toInt32) hx hb dX4_add_17 (rfl) ?_
  refine q_bast hx hb hK hP hD hS 1 rfl (sz) rfl (by omega) (by omega) dX4_add_18 (fun H locs hP hD hS => ?_)
  have hP : va_P (gD g) vwCl [(h, .inr (3, [.int (nI lim), .ref q1_2, .int (nI sz)])), (q1_2, .inl (gB g, n1_2, .inl (upd f1_2 sz v.toInt8.toInt32.toInt8.toInt32)))] H := hP
  have hD : va_D A [(h, .inr (3, [.int (nI lim), .ref q1_2, .int (nI sz)])), (q1_2, .inl (gB g, n1_2, .inl (upd f1_2 sz v.toInt8.toInt32.toInt8.toInt32)))] := hD
  refine lv_aload_n hx hb dX4_add_19 rfl (lv_at hl 0 rfl) ?_
  refine lv_dup hx hb dX4_add_20 rfl ?_
  refine va_get (D := gD g) (ci := 3) (v := .int (nI sz)) (C := RX4) (T := TX4) (N := 3) hx hb hts hinX4 hown hK hP 0 rfl rfl 2 (by decide) hf19 (fun _ h9 => h9) rfl dX4_add_21 ?_
  refine lv_iconst (v := nI 1) hx hb dX4_add_24 (by decide) ?_
  refine q_iadd (v := nI (sz + 1)) hx hb dX4_add_25 (nI_add sz 1) ?_
  refine va_put (D := gD g) (ci := 3) (v := .int (nI (sz + 1))) (ty := .int) (C := RX4) (T := TX4) (N := 3) hx hb hts hinX4 tyX4 tyX4_ok nmX4 hown hK hP hD hS 0 rfl rfl 2 (by decide) hf19 (fun _ h9 => h9) rfl (by decide +kernel) rfl rfl (Nat.le_of_ble_eq_true rfl) dX4_add_26 (fun H locs hP hD hS => ?_)
  have hP : va_P (gD g) vwCl [(h, .inr (3, [.int (nI lim), .ref q1_2, .int (nI (sz + 1))])), (q1_2, .inl (gB g, n1_2, .inl (upd f1_2 sz v.toInt8.toInt32.toInt8.toInt32)))] H := hP
  have hD : va_D A [(h, .inr (3, [.int (nI lim), .ref q1_2, .int (nI (sz + 1))])), (q1_2, .inl (gB g, n1_2, .inl (upd f1_2 sz v.toInt8.toInt32.toInt8.toInt32)))] := hD
  refine ct_vret (w := [(h, .inr (3, [.int (nI lim), .ref q1_2, .int (nI (sz + 1))])), (q1_2, .inl (gB g, n1_2, .inl (upd f1_2 sz v.toInt8.toInt32.toInt8.toInt32)))]) hx hb hr hlocks hQ hAe hK (hP.sub [0, 1] rfl) (hD.sub [0, 1] (by decide) rfl) hS (by first | omega | exact Nat.zero_le _) (by first | omega | exact Nat.zero_le _) dX4_add_29 ?_
  exact ⟨q1_2, n1_2, upd f1_2 sz v.toInt8.toInt32.toInt8.toInt32, rfl, rfl, by omega, by intro j hj; rw [pk_un (by omega)]; exact ef_2 j hj, by rw [pk_us]; exact b8b8 v, by exact sb_fitU ft_2 (pk_fb _)⟩

set_option maxHeartbeats 4000000 in
set_option maxRecDepth 100000 in
theorem c_addTextF (l : Launch) (g : GT) (h : Nat) (q : Nat) (lim : Nat) (n : Nat) (sz : Nat) (f : Nat → Int32) (k : Nat) (hsn : sz ≤ n) (hnb : n < 2 ^ 30) (hnl : n ≤ lim) (hlb : lim < 2 ^ 27) (hfit : sb_Fit f) (hk : k < 84) (hkn : sz + slen k ≤ n) : CT l g yX4_addText wsX4_addText ({ frames := 4, cells := 0, slots := 0, locals := 85 } : Room) [.ref h, .ref (gK g k)] [(h, .inr (3, [.int (nI lim), .ref q, .int (nI sz)])), (q, .inl (gB g, n, .inl f))] (fun r w => (∃ (q1 : Nat) (n1 : Nat) (f1 : Nat → Int32), r = none ∧ w = [(h, .inr (3, [.int (nI lim), .ref q1, .int (nI (sz + slen k))])), (q1, .inl (gB g, n1, .inl f1))] ∧ (n1 = n) ∧ (∀ j, j < sz → f1 j = f j) ∧ (hasL f1 sz (sL k)) ∧ (sb_Fit f1))) (0) (0) := by
  refine ct_of (cc := cX4_addText) (maxL := 3) (ret := none) (by decide) rfl (Nat.le_of_ble_eq_true rfl) ?_
  intro p e s m args below meth c A Q hx hb hr hml hown hts hlocks hnam hAe hQ hA hG hK hP hD hS ls hl
  have hl : lv_has ls 3 [(0, .ref h), (1, .ref (gK g k))] := hl
  have hown : s.vm.findClass RX4 = some m.cls := hown
  have hsl := slen_le k hk
  refine lv_iconst (v := nI 0) hx hb dX4_addText_0 (by decide) ?_
  refine lv_istore_n (lv' := [(2, .int (nI 0)), (0, .ref h), (1, .ref (gK g k))]) hx hb dX4_addText_1 rfl hl (by decide) rfl (fun ls hl => ?_)
  have K2 : ∀ (N_ : Nat) (q1 : Nat) (n1 : Nat) (f1 : Nat → Int32) (i : Nat), (i ≤ slen k) → (n1 = n) → (∀ j, j < sz → f1 j = f j) → (∀ j, j < i → f1 (sz + j) = sbyt k j) → (sb_Fit f1) → (slen k - i) < N_ → ∀ (H : Heap) (locs : List Loc) (ls : Array Slot), va_P (gD g) vwCl [(h, .inr (3, [.int (nI lim), .ref q1, .int (nI (sz + i))])), (q1, .inl (gB g, n1, .inl f1))] H → va_D A [(h, .inr (3, [.int (nI lim), .ref q1, .int (nI (sz + i))])), (q1, .inl (gB g, n1, .inl f1))] → va_S A s.heap H locs → lv_has ls 3 [(0, .ref h), (1, .ref (gK g k)), (2, .int (nI i))] → W p l e ({ frames := 4, cells := 0, slots := 0, locals := 85 } : Room) s m args below meth c H locs (0) (0) Q (F0 m 2 ls []) := by
    intro N_
    induction N_ with
    | zero => intro q1 n1 f1 i hi en ef et ft hm_; exact absurd hm_ (Nat.not_lt_zero _)
    | succ N_ ih_K2 =>
      intro q1 n1 f1 i hi en ef et ft hm_ H locs ls hP hD hS hl
      refine lv_iload_n hx hb dX4_addText_2 rfl (lv_at hl 2 rfl) ?_
      refine lv_aload_n hx hb dX4_addText_3 rfl (lv_at hl 1 rfl) ?_
      refine ct_callV (wr := [(h, .inr (3, [.int (nI lim), .ref q1, .int (nI (sz + i))])), (q1, .inl (gB g, n1, .inl f1))]) hx hb hml hown hts hK hP hD hS hA hG hl.1 (c_slen l g k (by first | assumption | decide)) (cwV 0 hts gX4_addText_J0_length_8abf5 rfl rfl rfl (by decide +kernel) ⟨Nat.le_of_ble_eq_true rfl, Nat.le_of_ble_eq_true rfl⟩) (st_recv hG (k := k) (by assumption) hS) rfl rfl (Nat.le_of_ble_eq_true rfl) dX4_addText_4 ⟨show 0 + 0 ≤ 0 by first | omega | exact Nat.zero_le _, show 0 + 0 ≤ 0 by first | omega | exact Nat.zero_le _⟩ [] [0, 1] rfl rfl (by decide) (by decide) (by decide) (fun r_ w_ H locs hp_ hP hD hS => ?_)
      obtain ⟨rfl, rfl⟩ := hp_
      have hP : va_P (gD g) vwCl [(h, .inr (3, [.int (nI lim), .ref q1, .int (nI (sz + i))])), (q1, .inl (gB g, n1, .inl f1))] H := hP
      have hD : va_D A [(h, .inr (3, [.int (nI lim), .ref q1, .int (nI (sz + i))])), (q1, .inl (gB g, n1, .inl f1))] := hD
      refine W.eq (g2 := F0 m 7 ls [.int (nI (slen k)), .int (nI i)]) rfl ?_
      refine lv_icmp_ge (tgt := 25) hx hb dX4_addText_7 (by decide) (fun c7 => ?_) (fun c7 => ?_)
      · skip
        have c7 : slen k ≤ i := (nI_leI (a := slen k) (b := i) (by omega) (by omega)).mp c7
        have ei : i = slen k := by omega
        refine ct_vret (w := [(h, .inr (3, [.int (nI lim), .ref q1, .int (nI (sz + i))])), (q1, .inl (gB g, n1, .inl f1))]) hx hb hr hlocks hQ hAe hK (hP.sub [0, 1] rfl) (hD.sub [0, 1] (by decide) rfl) hS (by first | omega | exact Nat.zero_le _) (by first | omega | exact Nat.zero_le _) dX4_addText_25 ?_
        exact ⟨q1, n1, f1, rfl, by rw [ei], by omega, by assumption, by exact fun j hj => et j (by have hj2 : j < slen k := hj; omega), by assumption⟩
      · skip
        have c7 : ¬ (slen k ≤ i) := fun z => c7 ((nI_leI (a := slen k) (b := i) (by omega) (by omega)).mpr z)
        refine lv_aload_n hx hb dX4_addText_10 rfl (lv_at hl 0 rfl) ?_
        refine lv_aload_n hx hb dX4_addText_11 rfl (lv_at hl 1 rfl) ?_
        refine lv_iload_n hx hb dX4_addText_12 rfl (lv_at hl 2 rfl) ?_
        refine ct_callV (wr := [(h, .inr (3, [.int (nI lim), .ref q1, .int (nI (sz + i))])), (q1, .inl (gB g, n1, .inl f1))]) hx hb hml hown hts hK hP hD hS hA hG hl.1 (c_charAt l g k i (by first | assumption | decide) (by omega)) (cwV 1 hts gX4_addText_J0_charAt_5068e rfl rfl rfl (by decide +kernel) ⟨Nat.le_of_ble_eq_true rfl, Nat.le_of_ble_eq_true rfl⟩) (st_recv hG (k := k) (by assumption) hS) rfl rfl (Nat.le_of_ble_eq_true rfl) dX4_addText_13 ⟨show 0 + 0 ≤ 0 by first | omega | exact Nat.zero_le _, show 0 + 0 ≤ 0 by first | omega | exact Nat.zero_le _⟩ [] [0, 1] rfl rfl (by decide) (by decide) (by decide) (fun r_ w_ H locs hp_ hP hD hS => ?_)
        obtain ⟨rfl, rfl⟩ := hp_
        have hP : va_P (gD g) vwCl [(h, .inr (3, [.int (nI lim), .ref q1, .int (nI (sz + i))])), (q1, .inl (gB g, n1, .inl f1))] H := hP
        have hD : va_D A [(h, .inr (3, [.int (nI lim), .ref q1, .int (nI (sz + i))])), (q1, .inl (gB g, n1, .inl f1))] := hD
        refine W.eq (g2 := F0 m 16 ls [.int (sbyt k i &&& 255), .ref h]) rfl ?_
        refine ct_callV (wr := []) hx hb hml hown hts hK hP hD hS hA hG hl.1 (c_addF l g h q1 lim n1 (sz + i) f1 (sbyt k i &&& 255) (by omega) (by omega) (by omega) (by omega) (by assumption) (by omega)) (cwV 1 hts gX4_addText_X4_add rfl rfl rfl (by decide +kernel) ⟨Nat.le_of_ble_eq_true rfl, Nat.le_of_ble_eq_true rfl⟩) (va_recv hK hP (ci := 3) (q0 := 0) rfl rfl) rfl rfl (Nat.le_of_ble_eq_true rfl) dX4_addText_16 ⟨show 0 + 0 ≤ 0 by first | omega | exact Nat.zero_le _, show 0 + 0 ≤ 0 by first | omega | exact Nat.zero_le _⟩ [0, 1] [] rfl rfl (by decide) (by decide) (by decide) (fun r_ w_ H locs hp_ hP hD hS => ?_)
        obtain ⟨q1_16, n1_16, f1_16, rfl, rfl, en_16, ef_16, ev_16, ft_16⟩ := hp_
        have hP : va_P (gD g) vwCl [(h, .inr (3, [.int (nI lim), .ref q1_16, .int (nI ((sz + i) + 1))])), (q1_16, .inl (gB g, n1_16, .inl f1_16))] H := hP
        have hD : va_D A [(h, .inr (3, [.int (nI lim), .ref q1_16, .int (nI ((sz + i) + 1))])), (q1_16, .inl (gB g, n1_16, .inl f1_16))] := hD
        have en_16 : n1_16 = n1 := en_16
        have ef_16 : ∀ j, j < (sz + i) → f1_16 j = f1 j := ef_16
        have ev_16 : f1_16 (sz + i) = (sbyt k i &&& 255).toInt8.toInt32 := ev_16
        have ft_16 : sb_Fit f1_16 := ft_16
        refine W.eq (g2 := F0 m 19 ls []) rfl ?_
        refine lv_iinc (v := nI (i + 1)) (lv' := [(2, .int (nI (i + 1))), (0, .ref h), (1, .ref (gK g k))]) hx hb dX4_addText_19 hl (k := 2) rfl (nI_inc i 1) (by decide) rfl (fun ls hl => ?_)
        refine lv_goto (tgt := 2) hx hb dX4_addText_22 (by decide) ?_
        exact ih_K2 q1_16 n1_16 f1_16 (i + 1) (by omega) (by omega) (by exact fun j hj => (ef_16 j (by omega)).trans (ef j hj)) (by exact lt_s (fun j hj => (ef_16 _ (by omega)).trans (et j hj)) (ev_16.trans (sb7 k hk i (by omega)).2.1)) (by assumption) (by omega) _ _ _ (hP.sub [0, 1] rfl) (hD.sub [0, 1] (by decide) rfl) hS (lv_sub hl [1, 2, 0] rfl)
  exact K2 ((slen k - 0) + 1) q n f 0 (by omega) (by omega) (by exact fun j _ => rfl) (by intro j h1; omega) (by assumption) (Nat.lt_succ_self _) _ _ _ (hP.sub [0, 1] rfl) (hD.sub [0, 1] (by decide) rfl) hS (lv_sub hl [1, 2, 0] rfl)
