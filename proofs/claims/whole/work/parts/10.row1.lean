abbrev pGreat (x : Int32) : Prop := ¬ x < nI 65 ∧ ¬ nI 90 < x
abbrev pDigit (x : Int32) : Prop := ¬ x < nI 48 ∧ ¬ nI 57 < x
abbrev pVis (x : Int32) : Prop := ¬ x < nI 33 ∧ ¬ nI 126 < x
abbrev pSpace (x : Int32) : Prop := x = nI 32 ∨ x = nI 9

set_option maxHeartbeats 4000000 in
set_option maxRecDepth 100000 in
theorem c_isGreat (l : Launch) (g : GT) (x : Int32)  : CT l g yX1_isGreat wsX1_isGreat ({ frames := 0, cells := 0, slots := 0, locals := 0 } : Room) [.int x] [] (fun r w => (r = some (.int (nI 1)) ∧ w = [] ∧ (pGreat x)) ∨ (r = some (.int (nI 0)) ∧ w = [] ∧ (¬ (pGreat x)))) (0) (0) := by
  refine ct_of (cc := cX1_isGreat) (maxL := 1) (ret := (some .boolean)) (by decide) rfl (Nat.le_of_ble_eq_true rfl) ?_
  intro p e s m args below meth c A Q hx hb hr hml hown hts hlocks hnam hAe hQ hA hG hK hP hD hS ls hl
  have hl : lv_has ls 1 [(0, .int x)] := hl
  have hown : s.vm.findClass RX1 = some m.cls := hown
  refine lv_iload_n hx hb dX1_isGreat_0 rfl (lv_at hl 0 rfl) ?_
  refine lv_bipush (v := nI 65) hx hb dX1_isGreat_1 (by decide) ?_
  refine lv_icmp_lt (tgt := 16) hx hb dX1_isGreat_3 (by decide) (fun c3 => ?_) (fun c3 => ?_)
  · skip
    refine lv_iconst (v := nI 0) hx hb dX1_isGreat_16 (by decide) ?_
    refine ct_iret (w := []) hx hb hr rfl hlocks hQ hAe hK (hP.sub [] rfl) (hD.sub [] (by decide) rfl) hS (by omega) (by omega) dX1_isGreat_17 ?_
    refine Or.inr ((?_))
    exact ⟨rfl, rfl, by first | omega | (simp only [pGreat, pDigit, pVis, pSpace]; simp_all; done)⟩
  · skip
    refine lv_iload_n hx hb dX1_isGreat_6 rfl (lv_at hl 0 rfl) ?_
    refine lv_bipush (v := nI 90) hx hb dX1_isGreat_7 (by decide) ?_
    refine lv_icmp_gt (tgt := 16) hx hb dX1_isGreat_9 (by decide) (fun c9 => ?_) (fun c9 => ?_)
    · skip
      refine lv_iconst (v := nI 0) hx hb dX1_isGreat_16 (by decide) ?_
      refine ct_iret (w := []) hx hb hr rfl hlocks hQ hAe hK (hP.sub [] rfl) (hD.sub [] (by decide) rfl) hS (by omega) (by omega) dX1_isGreat_17 ?_
      refine Or.inr ((?_))
      exact ⟨rfl, rfl, by first | omega | (simp only [pGreat, pDigit, pVis, pSpace]; simp_all; done)⟩
    · skip
      refine lv_iconst (v := nI 1) hx hb dX1_isGreat_12 (by decide) ?_
      refine lv_goto (tgt := 17) hx hb dX1_isGreat_13 (by decide) ?_
      refine ct_iret (w := []) hx hb hr rfl hlocks hQ hAe hK (hP.sub [] rfl) (hD.sub [] (by decide) rfl) hS (by omega) (by omega) dX1_isGreat_17 ?_
      refine Or.inl (?_)
      exact ⟨rfl, rfl, by first | omega | (simp only [pGreat, pDigit, pVis, pSpace]; simp_all; done)⟩

set_option maxHeartbeats 4000000 in
set_option maxRecDepth 100000 in
theorem c_isDigit (l : Launch) (g : GT) (x : Int32)  : CT l g yX1_isDigit wsX1_isDigit ({ frames := 0, cells := 0, slots := 0, locals := 0 } : Room) [.int x] [] (fun r w => (r = some (.int (nI 1)) ∧ w = [] ∧ (pDigit x)) ∨ (r = some (.int (nI 0)) ∧ w = [] ∧ (¬ (pDigit x)))) (0) (0) := by
  refine ct_of (cc := cX1_isDigit) (maxL := 1) (ret := (some .boolean)) (by decide) rfl (Nat.le_of_ble_eq_true rfl) ?_
  intro p e s m args below meth c A Q hx hb hr hml hown hts hlocks hnam hAe hQ hA hG hK hP hD hS ls hl
  have hl : lv_has ls 1 [(0, .int x)] := hl
  have hown : s.vm.findClass RX1 = some m.cls := hown
  refine lv_iload_n hx hb dX1_isDigit_0 rfl (lv_at hl 0 rfl) ?_
  refine lv_bipush (v := nI 48) hx hb dX1_isDigit_1 (by decide) ?_
  refine lv_icmp_lt (tgt := 16) hx hb dX1_isDigit_3 (by decide) (fun c3 => ?_) (fun c3 => ?_)
  · skip
    refine lv_iconst (v := nI 0) hx hb dX1_isDigit_16 (by decide) ?_
    refine ct_iret (w := []) hx hb hr rfl hlocks hQ hAe hK (hP.sub [] rfl) (hD.sub [] (by decide) rfl) hS (by omega) (by omega) dX1_isDigit_17 ?_
    refine Or.inr ((?_))
    exact ⟨rfl, rfl, by first | omega | (simp only [pGreat, pDigit, pVis, pSpace]; simp_all; done)⟩
  · skip
    refine lv_iload_n hx hb dX1_isDigit_6 rfl (lv_at hl 0 rfl) ?_
    refine lv_bipush (v := nI 57) hx hb dX1_isDigit_7 (by decide) ?_
    refine lv_icmp_gt (tgt := 16) hx hb dX1_isDigit_9 (by decide) (fun c9 => ?_) (fun c9 => ?_)
    · skip
      refine lv_iconst (v := nI 0) hx hb dX1_isDigit_16 (by decide) ?_
      refine ct_iret (w := []) hx hb hr rfl hlocks hQ hAe hK (hP.sub [] rfl) (hD.sub [] (by decide) rfl) hS (by omega) (by omega) dX1_isDigit_17 ?_
      refine Or.inr ((?_))
      exact ⟨rfl, rfl, by first | omega | (simp only [pGreat, pDigit, pVis, pSpace]; simp_all; done)⟩
    · skip
      refine lv_iconst (v := nI 1) hx hb dX1_isDigit_12 (by decide) ?_
      refine lv_goto (tgt := 17) hx hb dX1_isDigit_13 (by decide) ?_
      refine ct_iret (w := []) hx hb hr rfl hlocks hQ hAe hK (hP.sub [] rfl) (hD.sub [] (by decide) rfl) hS (by omega) (by omega) dX1_isDigit_17 ?_
      refine Or.inl (?_)
      exact ⟨rfl, rfl, by first | omega | (simp only [pGreat, pDigit, pVis, pSpace]; simp_all; done)⟩

set_option maxHeartbeats 4000000 in
set_option maxRecDepth 100000 in
theorem c_isVisible (l : Launch) (g : GT) (x : Int32)  : CT l g yX1_isVisible wsX1_isVisible ({ frames := 0, cells := 0, slots := 0, locals := 0 } : Room) [.int x] [] (fun r w => (r = some (.int (nI 1)) ∧ w = [] ∧ (pVis x)) ∨ (r = some (.int (nI 0)) ∧ w = [] ∧ (¬ (pVis x)))) (0) (0) := by
  refine ct_of (cc := cX1_isVisible) (maxL := 1) (ret := (some .boolean)) (by decide) rfl (Nat.le_of_ble_eq_true rfl) ?_
  intro p e s m args below meth c A Q hx hb hr hml hown hts hlocks hnam hAe hQ hA hG hK hP hD hS ls hl
  have hl : lv_has ls 1 [(0, .int x)] := hl
  have hown : s.vm.findClass RX1 = some m.cls := hown
  refine lv_iload_n hx hb dX1_isVisible_0 rfl (lv_at hl 0 rfl) ?_
  refine lv_bipush (v := nI 33) hx hb dX1_isVisible_1 (by decide) ?_
  refine lv_icmp_lt (tgt := 16) hx hb dX1_isVisible_3 (by decide) (fun c3 => ?_) (fun c3 => ?_)
  · skip
    refine lv_iconst (v := nI 0) hx hb dX1_isVisible_16 (by decide) ?_
    refine ct_iret (w := []) hx hb hr rfl hlocks hQ hAe hK (hP.sub [] rfl) (hD.sub [] (by decide) rfl) hS (by omega) (by omega) dX1_isVisible_17 ?_
    refine Or.inr ((?_))
    exact ⟨rfl, rfl, by first | omega | (simp only [pGreat, pDigit, pVis, pSpace]; simp_all; done)⟩
  · skip
    refine lv_iload_n hx hb dX1_isVisible_6 rfl (lv_at hl 0 rfl) ?_
    refine lv_bipush (v := nI 126) hx hb dX1_isVisible_7 (by decide) ?_
    refine lv_icmp_gt (tgt := 16) hx hb dX1_isVisible_9 (by decide) (fun c9 => ?_) (fun c9 => ?_)
    · skip
      refine lv_iconst (v := nI 0) hx hb dX1_isVisible_16 (by decide) ?_
      refine ct_iret (w := []) hx hb hr rfl hlocks hQ hAe hK (hP.sub [] rfl) (hD.sub [] (by decide) rfl) hS (by omega) (by omega) dX1_isVisible_17 ?_
      refine Or.inr ((?_))
      exact ⟨rfl, rfl, by first | omega | (simp only [pGreat, pDigit, pVis, pSpace]; simp_all; done)⟩
    · skip
      refine lv_iconst (v := nI 1) hx hb dX1_isVisible_12 (by decide) ?_
      refine lv_goto (tgt := 17) hx hb dX1_isVisible_13 (by decide) ?_
      refine ct_iret (w := []) hx hb hr rfl hlocks hQ hAe hK (hP.sub [] rfl) (hD.sub [] (by decide) rfl) hS (by omega) (by omega) dX1_isVisible_17 ?_
      refine Or.inl (?_)
      exact ⟨rfl, rfl, by first | omega | (simp only [pGreat, pDigit, pVis, pSpace]; simp_all; done)⟩

set_option maxHeartbeats 4000000 in
set_option maxRecDepth 100000 in
theorem c_isSpace (l : Launch) (g : GT) (x : Int32)  : CT l g yX1_isSpace wsX1_isSpace ({ frames := 0, cells := 0, slots := 0, locals := 0 } : Room) [.int x] [] (fun r w => (r = some (.int (nI 1)) ∧ w = [] ∧ (pSpace x)) ∨ (r = some (.int (nI 0)) ∧ w = [] ∧ (¬ (pSpace x)))) (0) (0) := by
  refine ct_of (cc := cX1_isSpace) (maxL := 1) (ret := (some .boolean)) (by decide) rfl (Nat.le_of_ble_eq_true rfl) ?_
  intro p e s m args below meth c A Q hx hb hr hml hown hts hlocks hnam hAe hQ hA hG hK hP hD hS ls hl
  have hl : lv_has ls 1 [(0, .int x)] := hl
  have hown : s.vm.findClass RX1 = some m.cls := hown
  refine lv_iload_n hx hb dX1_isSpace_0 rfl (lv_at hl 0 rfl) ?_
  refine lv_bipush (v := nI 32) hx hb dX1_isSpace_1 (by decide) ?_
  refine lv_icmp_eq (tgt := 12) hx hb dX1_isSpace_3 (by decide) (fun c3 => ?_) (fun c3 => ?_)
  · skip
    refine lv_iconst (v := nI 1) hx hb dX1_isSpace_12 (by decide) ?_
    refine lv_goto (tgt := 17) hx hb dX1_isSpace_13 (by decide) ?_
    refine ct_iret (w := []) hx hb hr rfl hlocks hQ hAe hK (hP.sub [] rfl) (hD.sub [] (by decide) rfl) hS (by omega) (by omega) dX1_isSpace_17 ?_
    refine Or.inl (?_)
    exact ⟨rfl, rfl, by first | omega | (simp only [pGreat, pDigit, pVis, pSpace]; simp_all; done)⟩
  · skip
    refine lv_iload_n hx hb dX1_isSpace_6 rfl (lv_at hl 0 rfl) ?_
    refine lv_bipush (v := nI 9) hx hb dX1_isSpace_7 (by decide) ?_
    refine lv_icmp_ne (tgt := 16) hx hb dX1_isSpace_9 (by decide) (fun c9 => ?_) (fun c9 => ?_)
    · skip
      refine lv_iconst (v := nI 0) hx hb dX1_isSpace_16 (by decide) ?_
      refine ct_iret (w := []) hx hb hr rfl hlocks hQ hAe hK (hP.sub [] rfl) (hD.sub [] (by decide) rfl) hS (by omega) (by omega) dX1_isSpace_17 ?_
      refine Or.inr ((?_))
      exact ⟨rfl, rfl, by first | omega | (simp only [pGreat, pDigit, pVis, pSpace]; simp_all; done)⟩
    · skip
      refine lv_iconst (v := nI 1) hx hb dX1_isSpace_12 (by decide) ?_
      refine lv_goto (tgt := 17) hx hb dX1_isSpace_13 (by decide) ?_
      refine ct_iret (w := []) hx hb hr rfl hlocks hQ hAe hK (hP.sub [] rfl) (hD.sub [] (by decide) rfl) hS (by omega) (by omega) dX1_isSpace_17 ?_
      refine Or.inl (?_)
      exact ⟨rfl, rfl, by first | omega | (simp only [pGreat, pDigit, pVis, pSpace]; simp_all; done)⟩

set_option maxHeartbeats 4000000 in
set_option maxRecDepth 100000 in
theorem c_count (l : Launch) (g : GT) (h : Nat) (q : Nat) (lim : Nat) (n : Nat) (sz : Nat) (f : Nat → Int32)  : CT l g yX4_count wsX4_count ({ frames := 0, cells := 0, slots := 0, locals := 0 } : Room) [.ref h] [(h, .inr (3, [.int (nI lim), .ref q, .int (nI sz)])), (q, .inl (gB g, n, .inl f))] (fun r w => (r = some (.int (nI sz)) ∧ w = [(h, .inr (3, [.int (nI lim), .ref q, .int (nI sz)])), (q, .inl (gB g, n, .inl f))])) (0) (0) := by
  refine ct_of (cc := cX4_count) (maxL := 1) (ret := (some .int)) (by decide) rfl (Nat.le_of_ble_eq_true rfl) ?_
  intro p e s m args below meth c A Q hx hb hr hml hown hts hlocks hnam hAe hQ hA hG hK hP hD hS ls hl
  have hl : lv_has ls 1 [(0, .ref h)] := hl
  have hown : s.vm.findClass RX4 = some m.cls := hown
  have hinX4 : ∀ w ∈ u_ws RX4 TX4 3, w ∈ wsX4_count := by decide +kernel
  have hf19 := hts (.fieldLink RX4 19 "RequestReader$Row" "size" "I") (by decide +kernel)
  refine lv_aload_n hx hb dX4_count_0 rfl (lv_at hl 0 rfl) ?_
  refine va_get (D := gD g) (ci := 3) (v := .int (nI sz)) (C := RX4) (T := TX4) (N := 3) hx hb hts hinX4 hown hK hP 0 rfl rfl 2 (by decide) hf19 (fun _ h9 => h9) rfl dX4_count_1 ?_
  refine ct_iret (w := [(h, .inr (3, [.int (nI lim), .ref q, .int (nI sz)])), (q, .inl (gB g, n, .inl f))]) hx hb hr rfl hlocks hQ hAe hK (hP.sub [0, 1] rfl) (hD.sub [0, 1] (by decide) rfl) hS (by omega) (by omega) dX4_count_4 ?_
  exact ⟨rfl, rfl⟩

set_option maxHeartbeats 4000000 in
set_option maxRecDepth 100000 in
theorem c_getIn (l : Launch) (g : GT) (h : Nat) (q : Nat) (lim : Nat) (n : Nat) (sz : Nat) (f : Nat → Int32) (i : Nat) (hsn : sz ≤ n) (hnb : n < 2 ^ 30) (hi : i < sz) : CT l g yX4_get wsX4_get ({ frames := 0, cells := 0, slots := 0, locals := 0 } : Room) [.ref h, .int (nI i)] [(h, .inr (3, [.int (nI lim), .ref q, .int (nI sz)])), (q, .inl (gB g, n, .inl f))] (fun r w => (r = some (.int (f i &&& 255)) ∧ w = [(h, .inr (3, [.int (nI lim), .ref q, .int (nI sz)])), (q, .inl (gB g, n, .inl f))])) (0) (0) := by
  refine ct_of (cc := cX4_get) (maxL := 2) (ret := (some .int)) (by decide) rfl (Nat.le_of_ble_eq_true rfl) ?_
  intro p e s m args below meth c A Q hx hb hr hml hown hts hlocks hnam hAe hQ hA hG hK hP hD hS ls hl
  have hl : lv_has ls 2 [(0, .ref h), (1, .int (nI i))] := hl
  have hown : s.vm.findClass RX4 = some m.cls := hown
  have hinX4 : ∀ w ∈ u_ws RX4 TX4 3, w ∈ wsX4_get := by decide +kernel
  have hf15 := hts (.fieldLink RX4 15 "RequestReader$Row" "cells" "[B") (by decide +kernel)
  have hf19 := hts (.fieldLink RX4 19 "RequestReader$Row" "size" "I") (by decide +kernel)
  refine lv_iload_n hx hb dX4_get_0 rfl (lv_at hl 1 rfl) ?_
  refine lv_if_lt (tgt := 25) hx hb dX4_get_1 (by decide) (fun c1 => ?_) (fun c1 => ?_)
  · skip
    have c1 : i < 0 := (nI_ltI (a := i) (b := 0) (by omega) (by omega)).mp c1
    exact absurd c1 (by omega)
  · skip
    have c1 : ¬ (i < 0) := fun z => c1 ((nI_ltI (a := i) (b := 0) (by omega) (by omega)).mpr z)
    refine lv_iload_n hx hb dX4_get_4 rfl (lv_at hl 1 rfl) ?_
    refine lv_aload_n hx hb dX4_get_5 rfl (lv_at hl 0 rfl) ?_
    refine va_get (D := gD g) (ci := 3) (v := .int (nI sz)) (C := RX4) (T := TX4) (N := 3) hx hb hts hinX4 hown hK hP 0 rfl rfl 2 (by decide) hf19 (fun _ h9 => h9) rfl dX4_get_6 ?_
    refine lv_icmp_ge (tgt := 25) hx hb dX4_get_9 (by decide) (fun c9 => ?_) (fun c9 => ?_)
    · skip
      have c9 : sz ≤ i := (nI_leI (a := sz) (b := i) (by omega) (by omega)).mp c9
      exact absurd c9 (by omega)
    · skip
      have c9 : ¬ (sz ≤ i) := fun z => c9 ((nI_leI (a := sz) (b := i) (by omega) (by omega)).mpr z)
      refine lv_aload_n hx hb dX4_get_12 rfl (lv_at hl 0 rfl) ?_
      refine va_get (D := gD g) (ci := 3) (v := .ref q) (C := RX4) (T := TX4) (N := 3) hx hb hts hinX4 hown hK hP 0 rfl rfl 1 (by decide) hf15 (fun _ h9 => h9) rfl dX4_get_13 ?_
      refine lv_iload_n hx hb dX4_get_16 rfl (lv_at hl 1 rfl) ?_
      refine q_bald hx hb hK hP 1 rfl (i) rfl (by omega) (by omega) dX4_get_17 ?_
      refine lv_sipush (v := nI 255) hx hb dX4_get_18 (by decide) ?_
      refine q_iand (v := (f i) &&& 255) hx hb dX4_get_21 (rfl) ?_
      refine lv_goto (tgt := 26) hx hb dX4_get_22 (by decide) ?_
      refine ct_iret (w := [(h, .inr (3, [.int (nI lim), .ref q, .int (nI sz)])), (q, .inl (gB g, n, .inl f))]) hx hb hr rfl hlocks hQ hAe hK (hP.sub [0, 1] rfl) (hD.sub [0, 1] (by decide) rfl) hS (by omega) (by omega) dX4_get_26 ?_
      exact ⟨rfl, rfl⟩

set_option maxHeartbeats 4000000 in
set_option maxRecDepth 100000 in
theorem c_getAny (l : Launch) (g : GT) (h : Nat) (q : Nat) (lim : Nat) (n : Nat) (sz : Nat) (f : Nat → Int32) (x : Int32) (hsn : sz ≤ n) (hnb : n < 2 ^ 30) : CT l g yX4_get wsX4_get ({ frames := 0, cells := 0, slots := 0, locals := 0 } : Room) [.ref h, .int x] [(h, .inr (3, [.int (nI lim), .ref q, .int (nI sz)])), (q, .inl (gB g, n, .inl f))] (fun r w => (r = some (.int (-1)) ∧ w = [(h, .inr (3, [.int (nI lim), .ref q, .int (nI sz)])), (q, .inl (gB g, n, .inl f))] ∧ (x < 0 ∨ nI sz ≤ x)) ∨ (∃ (j : Nat), r = some (.int (f j &&& 255)) ∧ w = [(h, .inr (3, [.int (nI lim), .ref q, .int (nI sz)])), (q, .inl (gB g, n, .inl f))] ∧ (x = nI j) ∧ (j < sz))) (0) (0) := by
  refine ct_of (cc := cX4_get) (maxL := 2) (ret := (some .int)) (by decide) rfl (Nat.le_of_ble_eq_true rfl) ?_
  intro p e s m args below meth c A Q hx hb hr hml hown hts hlocks hnam hAe hQ hA hG hK hP hD hS ls hl
  have hl : lv_has ls 2 [(0, .ref h), (1, .int x)] := hl
  have hown : s.vm.findClass RX4 = some m.cls := hown
  have hinX4 : ∀ w ∈ u_ws RX4 TX4 3, w ∈ wsX4_get := by decide +kernel
  have hf15 := hts (.fieldLink RX4 15 "RequestReader$Row" "cells" "[B") (by decide +kernel)
  have hf19 := hts (.fieldLink RX4 19 "RequestReader$Row" "size" "I") (by decide +kernel)
  refine lv_iload_n hx hb dX4_get_0 rfl (lv_at hl 1 rfl) ?_
  refine lv_if_lt (tgt := 25) hx hb dX4_get_1 (by decide) (fun c1 => ?_) (fun c1 => ?_)
  · skip
    refine lv_iconst (v := (-1)) hx hb dX4_get_25 (by decide) ?_
    refine ct_iret (w := [(h, .inr (3, [.int (nI lim), .ref q, .int (nI sz)])), (q, .inl (gB g, n, .inl f))]) hx hb hr rfl hlocks hQ hAe hK (hP.sub [0, 1] rfl) (hD.sub [0, 1] (by decide) rfl) hS (by omega) (by omega) dX4_get_26 ?_
    refine Or.inl (?_)
    exact ⟨rfl, rfl, by first | exact Or.inl c1 | exact Or.inr c9⟩
  · skip
    refine lv_iload_n hx hb dX4_get_4 rfl (lv_at hl 1 rfl) ?_
    refine lv_aload_n hx hb dX4_get_5 rfl (lv_at hl 0 rfl) ?_
    refine va_get (D := gD g) (ci := 3) (v := .int (nI sz)) (C := RX4) (T := TX4) (N := 3) hx hb hts hinX4 hown hK hP 0 rfl rfl 2 (by decide) hf19 (fun _ h9 => h9) rfl dX4_get_6 ?_
    refine lv_icmp_ge (tgt := 25) hx hb dX4_get_9 (by decide) (fun c9 => ?_) (fun c9 => ?_)
    · skip
      refine lv_iconst (v := (-1)) hx hb dX4_get_25 (by decide) ?_
      refine ct_iret (w := [(h, .inr (3, [.int (nI lim), .ref q, .int (nI sz)])), (q, .inl (gB g, n, .inl f))]) hx hb hr rfl hlocks hQ hAe hK (hP.sub [0, 1] rfl) (hD.sub [0, 1] (by decide) rfl) hS (by omega) (by omega) dX4_get_26 ?_
      refine Or.inl (?_)
      exact ⟨rfl, rfl, by first | exact Or.inl c1 | exact Or.inr c9⟩
    · skip
      obtain ⟨j, hj, rfl⟩ := nI_of c1
      have hj2 : j < sz := by
        rcases Nat.lt_or_ge j sz with z | z
        · exact z
        · exact absurd (nI_le z hj) c9
      refine lv_aload_n hx hb dX4_get_12 rfl (lv_at hl 0 rfl) ?_
      refine va_get (D := gD g) (ci := 3) (v := .ref q) (C := RX4) (T := TX4) (N := 3) hx hb hts hinX4 hown hK hP 0 rfl rfl 1 (by decide) hf15 (fun _ h9 => h9) rfl dX4_get_13 ?_
      refine lv_iload_n hx hb dX4_get_16 rfl (lv_at hl 1 rfl) ?_
      refine q_bald hx hb hK hP 1 rfl (j) rfl (by omega) (by omega) dX4_get_17 ?_
      refine lv_sipush (v := nI 255) hx hb dX4_get_18 (by decide) ?_
      refine q_iand (v := (f j) &&& 255) hx hb dX4_get_21 (rfl) ?_
      refine lv_goto (tgt := 26) hx hb dX4_get_22 (by decide) ?_
      refine ct_iret (w := [(h, .inr (3, [.int (nI lim), .ref q, .int (nI sz)])), (q, .inl (gB g, n, .inl f))]) hx hb hr rfl hlocks hQ hAe hK (hP.sub [0, 1] rfl) (hD.sub [0, 1] (by decide) rfl) hS (by omega) (by omega) dX4_get_26 ?_
      refine Or.inr ((?_))
      exact ⟨j, rfl, rfl, by rfl, by omega⟩
