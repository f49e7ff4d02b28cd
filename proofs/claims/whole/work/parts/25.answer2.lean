
set_option maxHeartbeats 4000000 in
set_option maxRecDepth 100000 in
theorem c_writeHead (l : Launch) (g : GT) (an : Nat) (ka : Nat) (qa : Nat) (na : Nat) (sa : Nat) (fz : Nat → Int32) (ho : Nat) (hi : Nat) (he : Nat) (op : Nat) (qe : Nat) (ne : Nat) (se : Nat) (fe : Nat → Int32) (k : Nat) (xf : Int32) (e0 : Nat) (ln : Nat) (t : Nat) (cz : Nat) (ha1 : sa ≤ na) (ha2 : na ≤ 66047) (ha3 : 256 ≤ na) (hfz : sb_Fit fz) (hk9 : k < 9) (he1 : se ≤ ne) (he2 : ne ≤ 4096) (hcz : cz ≤ 1) (ht : t < 84) (hxf : k = 0 ∨ k = 1 → xf = nI e0) (hes : k = 0 ∨ k = 1 → e0 * 64 + 64 ≤ se) (hln : k = 0 → be4 fe (e0 * 64 + 52) = nI ln) (hlnb : ln < 100000) : CT l g yX0_writeHead wsX0_writeHead ({ frames := 6, cells := 0, slots := 0, locals := 129 } : Room) [.ref an, .ref (gE g k), .ref ho, .int xf, .ref (gK g t), .int (nI cz)] [(an, .inr (0, [.ref ka])), (ka, .inr (3, [.int (nI 66047), .ref qa, .int (nI sa)])), (qa, .inl (gB g, na, .inl fz)), (ho, .inr (4, [.ref hi, .ref he, .int (nI op)])), (he, .inr (3, [.int (nI 4096), .ref qe, .int (nI se)])), (qe, .inl (gB g, ne, .inl fe))] (fun r w => (∃ (q1 : Nat) (n1 : Nat) (s1 : Nat) (f1 : Nat → Int32), r = none ∧ w = [(an, .inr (0, [.ref ka])), (ka, .inr (3, [.int (nI 66047), .ref q1, .int (nI s1)])), (q1, .inl (gB g, n1, .inl f1)), (ho, .inr (4, [.ref hi, .ref he, .int (nI op)])), (he, .inr (3, [.int (nI 4096), .ref qe, .int (nI se)])), (qe, .inl (gB g, ne, .inl fe))] ∧ (n1 = na) ∧ (s1 = (hdL k ln t (be4 fe (e0 * 64 + 56)) cz).length) ∧ (s1 ≤ 200) ∧ (hasL f1 0 (hdL k ln t (be4 fe (e0 * 64 + 56)) cz)) ∧ (sb_Fit f1))) (0) (0) := by
  refine ct_of (cc := cX0_writeHead) (maxL := 6) (ret := none) (by decide) rfl (Nat.le_of_ble_eq_true rfl) ?_
  intro p e s m args below meth c A Q hx hb hr hml hown hts hlocks hnam hAe hQ hA hG hK hP hD hS ls hl
  have hl : lv_has ls 6 [(0, .ref an), (1, .ref (gE g k)), (2, .ref ho), (3, .int xf), (4, .ref (gK g t)), (5, .int (nI cz))] := hl
  have hown : s.vm.findClass RX0 = some m.cls := hown
  have hinX0 : ∀ w ∈ u_ws RX0 TX0 1, w ∈ wsX0_writeHead := by decide +kernel
  have hf17 := hts (.fieldLink RX0 17 "RequestReader$Answer" "bytes" "LRequestReader$Row;") (by decide +kernel)
  have hf36 := hts (.fieldLink RX0 36 "RequestReader$Status" "OK" "LRequestReader$Status;") (by decide +kernel)
  have hf52 := hts (.fieldLink RX0 52 "RequestReader$Status" "NOT_MODIFIED" "LRequestReader$Status;") (by decide +kernel)
  have hf55 : (Cond.fieldLinkNest RX0 55 "RequestReader$Status" "phrase" "Ljava/lang/String;" "RequestReader").before args s = true := va_Nw.use rfl (hG.2.2.2.2.2.2.2 _ (List.mem_of_getElem? (i := 13) rfl))
  have hf73 := hts (.fieldLink RX0 73 "RequestReader$Status" "METHOD_NOT_ALLOWED" "LRequestReader$Status;") (by decide +kernel)
  have hph := slen_le _ (stPh_lt k hk9)
  have hsn := stN_lt k hk9
  have hd4 := dgM_le (stN k)
  have e28 : slen 28 = 9 := by decide
  have e29 : slen 29 = 2 := by decide
  have e34 : slen 34 = 18 := by decide
  have e35 : slen 35 = 19 := by decide
  have e32 : slen 32 = 10 := by decide
  have etl := slen_le t ht
  have hst := stL_le hk9
  have hct1 := ctL_len (v := ln) (t := t)
  have hct2 := ctL_len (v := 5 + slen (stPh.getD k 0)) (t := 32)
  have hmk := mkP_len (v := be4 fe (e0 * 64 + 56))
  have hd5 := dgM_le ln
  have hd6 := dgM_le (5 + slen (stPh.getD k 0))
  refine lv_aload_n hx hb dX0_writeHead_0 rfl (lv_at hl 0 rfl) ?_
  refine va_get (D := gD g) (ci := 0) (v := .ref ka) (C := RX0) (T := TX0) (N := 1) hx hb hts hinX0 hown hK hP 0 rfl rfl 0 (by decide) hf17 (fun _ h9 => h9) rfl dX0_writeHead_1 ?_
  refine lv_iconst (v := nI 0) hx hb dX0_writeHead_4 (by decide) ?_
  refine ct_callV (wr := [(an, .inr (0, [.ref ka])), (ho, .inr (4, [.ref hi, .ref he, .int (nI op)])), (he, .inr (3, [.int (nI 4096), .ref qe, .int (nI se)])), (qe, .inl (gB g, ne, .inl fe))]) hx hb hml hown hts hK hP hD hS hA hG hl.1 (c_cut0 l g ka qa 66047 na sa fz (by omega) (by omega)) (cwV 1 hts gX0_writeHead_X4_cutTo rfl rfl rfl (by decide +kernel) ⟨Nat.le_of_ble_eq_true rfl, Nat.le_of_ble_eq_true rfl⟩) (va_recv hK hP (ci := 3) (q0 := 1) rfl rfl) rfl rfl (Nat.le_of_ble_eq_true rfl) dX0_writeHead_5 ⟨show 0 + 0 ≤ 0 by omega, show 0 + 0 ≤ 0 by omega⟩ [1, 2] [0, 3, 4, 5] rfl rfl (by decide) (by decide) (by decide) (fun r_ w_ H locs hp_ hP hD hS => ?_)
  obtain ⟨rfl, rfl⟩ := hp_
  have hP : va_P (gD g) vwCl [(an, .inr (0, [.ref ka])), (ho, .inr (4, [.ref hi, .ref he, .int (nI op)])), (he, .inr (3, [.int (nI 4096), .ref qe, .int (nI se)])), (qe, .inl (gB g, ne, .inl fe)), (ka, .inr (3, [.int (nI 66047), .ref qa, .int (nI 0)])), (qa, .inl (gB g, na, .inl fz))] H := hP
  have hD : va_D A [(an, .inr (0, [.ref ka])), (ho, .inr (4, [.ref hi, .ref he, .int (nI op)])), (he, .inr (3, [.int (nI 4096), .ref qe, .int (nI se)])), (qe, .inl (gB g, ne, .inl fe)), (ka, .inr (3, [.int (nI 66047), .ref qa, .int (nI 0)])), (qa, .inl (gB g, na, .inl fz))] := hD
  refine W.eq (g2 := F0 m 8 ls []) rfl ?_
  have hl_n : hasL fz 0 ([] : List Int32) := fun j hj => absurd hj (Nat.not_lt_zero _)
  have hz_n : 0 = ([] : List Int32).length := rfl
  refine lv_aload_n hx hb dX0_writeHead_8 rfl (lv_at hl 0 rfl) ?_
  refine va_get (D := gD g) (ci := 0) (v := .ref ka) (C := RX0) (T := TX0) (N := 1) hx hb hts hinX0 hown hK hP 0 rfl rfl 0 (by decide) hf17 (fun _ h9 => h9) rfl dX0_writeHead_9 ?_
  refine va_ldcS hx hb hown ((hG.1 28 (by decide)).2.2.2.2) dX0_writeHead_12 ?_
  refine ct_callV (wr := [(an, .inr (0, [.ref ka])), (ho, .inr (4, [.ref hi, .ref he, .int (nI op)])), (he, .inr (3, [.int (nI 4096), .ref qe, .int (nI se)])), (qe, .inl (gB g, ne, .inl fe))]) hx hb hml hown hts hK hP hD hS hA hG hl.1 (c_addTextF l g ka qa 66047 na 0 fz 28 (by omega) (by omega) (by omega) (by omega) (by assumption) (by first | assumption | decide) (by first | omega | (have e_ : slen _ ≤ 31 := slen_le _ (by first | assumption | decide); omega))) (cwV 1 hts gX0_writeHead_X4_addText rfl rfl rfl (by decide +kernel) ⟨Nat.le_of_ble_eq_true rfl, Nat.le_of_ble_eq_true rfl⟩) (va_recv hK hP (ci := 3) (q0 := 4) rfl rfl) rfl rfl (Nat.le_of_ble_eq_true rfl) dX0_writeHead_14 ⟨show 0 + 0 ≤ 0 by omega, show 0 + 0 ≤ 0 by omega⟩ [4, 5] [0, 1, 2, 3] rfl rfl (by decide) (by decide) (by decide) (fun r_ w_ H locs hp_ hP hD hS => ?_)
  obtain ⟨q1_14, n1_14, f1_14, rfl, rfl, en_14, ef_14, et_14, ft_14⟩ := hp_
  have hP : va_P (gD g) vwCl [(an, .inr (0, [.ref ka])), (ho, .inr (4, [.ref hi, .ref he, .int (nI op)])), (he, .inr (3, [.int (nI 4096), .ref qe, .int (nI se)])), (qe, .inl (gB g, ne, .inl fe)), (ka, .inr (3, [.int (nI 66047), .ref q1_14, .int (nI (0 + slen 28))])), (q1_14, .inl (gB g, n1_14, .inl f1_14))] H := hP
  have hD : va_D A [(an, .inr (0, [.ref ka])), (ho, .inr (4, [.ref hi, .ref he, .int (nI op)])), (he, .inr (3, [.int (nI 4096), .ref qe, .int (nI se)])), (qe, .inl (gB g, ne, .inl fe)), (ka, .inr (3, [.int (nI 66047), .ref q1_14, .int (nI (0 + slen 28))])), (q1_14, .inl (gB g, n1_14, .inl f1_14))] := hD
  have en_14 : n1_14 = na := en_14
  have ef_14 : ∀ j, j < 0 → f1_14 j = fz j := ef_14
  have et_14 : hasL f1_14 0 (sL 28) := et_14
  have ft_14 : sb_Fit f1_14 := ft_14
  refine W.eq (g2 := F0 m 17 ls []) rfl ?_
  have hl_14 : hasL f1_14 0 (([] : List Int32) ++ sL 28) := hasL_grow hl_n (by first | exact hz_n | omega) (fun j hj => ef_14 j hj) et_14
  have hz_14 : 0 + slen 28 = (([] : List Int32) ++ sL 28).length := by rw [List.length_append, sLl]; omega
  refine lv_aload_n hx hb dX0_writeHead_17 rfl (lv_at hl 0 rfl) ?_
  refine lv_aload_n hx hb dX0_writeHead_18 rfl (lv_at hl 1 rfl) ?_
  refine ct_callV (wr := [(ho, .inr (4, [.ref hi, .ref he, .int (nI op)])), (he, .inr (3, [.int (nI 4096), .ref qe, .int (nI se)])), (qe, .inl (gB g, ne, .inl fe))]) hx hb hml hown hts hK hP hD hS hA hG hl.1 (c_writeStatus l g an ka q1_14 n1_14 (0 + slen 28) f1_14 ((([] : List Int32) ++ sL 28)) k (by omega) (by omega) (by omega) (by assumption) (by first | exact hz_14 | omega) (by exact hl_14) (by first | assumption | decide | omega) (by omega)) (cwV 1 hts gX0_writeHead_X0_writeStatus rfl rfl rfl (by decide +kernel) ⟨Nat.le_of_ble_eq_true rfl, Nat.le_of_ble_eq_true rfl⟩) (va_recv hK hP (ci := 0) (q0 := 0) rfl rfl) rfl rfl (Nat.le_of_ble_eq_true rfl) dX0_writeHead_19 ⟨show 0 + 0 ≤ 0 by omega, show 0 + 0 ≤ 0 by omega⟩ [0, 4, 5] [1, 2, 3] rfl rfl (by decide) (by decide) (by decide) (fun r_ w_ H locs hp_ hP hD hS => ?_)
  obtain ⟨q1_19, n1_19, s1_19, f1_19, rfl, rfl, en_19, es_19, el_19, ft_19⟩ := hp_
  have hP : va_P (gD g) vwCl [(ho, .inr (4, [.ref hi, .ref he, .int (nI op)])), (he, .inr (3, [.int (nI 4096), .ref qe, .int (nI se)])), (qe, .inl (gB g, ne, .inl fe)), (an, .inr (0, [.ref ka])), (ka, .inr (3, [.int (nI 66047), .ref q1_19, .int (nI s1_19)])), (q1_19, .inl (gB g, n1_19, .inl f1_19))] H := hP
  have hD : va_D A [(ho, .inr (4, [.ref hi, .ref he, .int (nI op)])), (he, .inr (3, [.int (nI 4096), .ref qe, .int (nI se)])), (qe, .inl (gB g, ne, .inl fe)), (an, .inr (0, [.ref ka])), (ka, .inr (3, [.int (nI 66047), .ref q1_19, .int (nI s1_19)])), (q1_19, .inl (gB g, n1_19, .inl f1_19))] := hD
  have en_19 : n1_19 = n1_14 := en_19
  have es_19 : s1_19 = (((([] : List Int32) ++ sL 28)) ++ stL k).length := es_19
  have el_19 : hasL f1_19 0 (((([] : List Int32) ++ sL 28)) ++ stL k) := el_19
  have ft_19 : sb_Fit f1_19 := ft_19
  refine W.eq (g2 := F0 m 22 ls []) rfl ?_
  have hz_19 : s1_19 = (([] : List Int32) ++ sL 28).length + (stL k).length := by rw [es_19, List.length_append]
  refine lv_aload_n hx hb dX0_writeHead_22 rfl (lv_at hl 0 rfl) ?_
  refine va_get (D := gD g) (ci := 0) (v := .ref ka) (C := RX0) (T := TX0) (N := 1) hx hb hts hinX0 hown hK hP 3 rfl rfl 0 (by decide) hf17 (fun _ h9 => h9) rfl dX0_writeHead_23 ?_
  refine va_ldcS hx hb hown ((hG.1 29 (by decide)).2.2.2.2) dX0_writeHead_26 ?_
  refine ct_callV (wr := [(ho, .inr (4, [.ref hi, .ref he, .int (nI op)])), (he, .inr (3, [.int (nI 4096), .ref qe, .int (nI se)])), (qe, .inl (gB g, ne, .inl fe)), (an, .inr (0, [.ref ka]))]) hx hb hml hown hts hK hP hD hS hA hG hl.1 (c_addTextF l g ka q1_19 66047 n1_19 s1_19 f1_19 29 (by omega) (by omega) (by omega) (by omega) (by assumption) (by first | assumption | decide) (by first | omega | (have e_ : slen _ ≤ 31 := slen_le _ (by first | assumption | decide); omega))) (cwV 1 hts gX0_writeHead_X4_addText rfl rfl rfl (by decide +kernel) ⟨Nat.le_of_ble_eq_true rfl, Nat.le_of_ble_eq_true rfl⟩) (va_recv hK hP (ci := 3) (q0 := 4) rfl rfl) rfl rfl (Nat.le_of_ble_eq_true rfl) dX0_writeHead_28 ⟨show 0 + 0 ≤ 0 by omega, show 0 + 0 ≤ 0 by omega⟩ [4, 5] [0, 1, 2, 3] rfl rfl (by decide) (by decide) (by decide) (fun r_ w_ H locs hp_ hP hD hS => ?_)
  obtain ⟨q1_28, n1_28, f1_28, rfl, rfl, en_28, ef_28, et_28, ft_28⟩ := hp_
  have hP : va_P (gD g) vwCl [(ho, .inr (4, [.ref hi, .ref he, .int (nI op)])), (he, .inr (3, [.int (nI 4096), .ref qe, .int (nI se)])), (qe, .inl (gB g, ne, .inl fe)), (an, .inr (0, [.ref ka])), (ka, .inr (3, [.int (nI 66047), .ref q1_28, .int (nI (s1_19 + slen 29))])), (q1_28, .inl (gB g, n1_28, .inl f1_28))] H := hP
  have hD : va_D A [(ho, .inr (4, [.ref hi, .ref he, .int (nI op)])), (he, .inr (3, [.int (nI 4096), .ref qe, .int (nI se)])), (qe, .inl (gB g, ne, .inl fe)), (an, .inr (0, [.ref ka])), (ka, .inr (3, [.int (nI 66047), .ref q1_28, .int (nI (s1_19 + slen 29))])), (q1_28, .inl (gB g, n1_28, .inl f1_28))] := hD
  have en_28 : n1_28 = n1_19 := en_28
  have ef_28 : ∀ j, j < s1_19 → f1_28 j = f1_19 j := ef_28
  have et_28 : hasL f1_28 s1_19 (sL 29) := et_28
  have ft_28 : sb_Fit f1_28 := ft_28
  refine W.eq (g2 := F0 m 31 ls []) rfl ?_
  have hl_28 : hasL f1_28 0 (((([] : List Int32) ++ sL 28) ++ stL k) ++ sL 29) := hasL_grow el_19 (by first | exact es_19 | omega) (fun j hj => ef_28 j hj) et_28
  have hz_28 : s1_19 + slen 29 = (((([] : List Int32) ++ sL 28) ++ stL k) ++ sL 29).length := by rw [List.length_append, sLl]; omega
  refine lv_aload_n hx hb dX0_writeHead_31 rfl (lv_at hl 1 rfl) ?_
  refine va_gets hx hb ((hG.2.2.2.2.2.1.1 0 (by decide)).1) hS hown hf36 (fun _ h9 => h9) dX0_writeHead_32 ?_
  refine lv_acmp_ne (rx := some (gE g k)) (ry := some (gE g 0)) (tgt := 52) hx hb dX0_writeHead_35 (by decide) (fun c35 => ?_) (fun c35 => ?_)
  · skip
    have c35 : ¬ k = 0 := fun z => c35 (by rw [z])
    refine lv_aload_n hx hb dX0_writeHead_52 rfl (lv_at hl 1 rfl) ?_
    refine va_gets hx hb ((hG.2.2.2.2.2.1.1 1 (by decide)).1) hS hown hf52 (fun _ h9 => h9) dX0_writeHead_53 ?_
    refine lv_acmp_eq (rx := some (gE g k)) (ry := some (gE g 1)) (tgt := 76) hx hb dX0_writeHead_56 (by decide) (fun c56 => ?_) (fun c56 => ?_)
    · skip
      have c56 : k = 1 := (hG.2.2.2.2.2.1.2 k 1 (by show k < 9; omega) (by decide) (Option.some.inj c56))
      refine lv_aload_n hx hb dX0_writeHead_76 rfl (lv_at hl 1 rfl) ?_
      refine va_gets hx hb ((hG.2.2.2.2.2.1.1 0 (by decide)).1) hS hown hf36 (fun _ h9 => h9) dX0_writeHead_77 ?_
      refine lv_acmp_eq (rx := some (gE g k)) (ry := some (gE g 0)) (tgt := 90) hx hb dX0_writeHead_80 (by decide) (fun c80 => absurd (c56.symm.trans (hG.2.2.2.2.2.1.2 k 0 (by show k < 9; omega) (by decide) (Option.some.inj c80))) (by decide)) (fun _ => ?_)
      refine lv_aload_n hx hb dX0_writeHead_83 rfl (lv_at hl 1 rfl) ?_
      refine va_gets hx hb ((hG.2.2.2.2.2.1.1 1 (by decide)).1) hS hown hf52 (fun _ h9 => h9) dX0_writeHead_84 ?_
      refine lv_acmp_ne (rx := some (gE g k)) (ry := some (gE g 1)) (tgt := 99) hx hb dX0_writeHead_87 (by decide) (fun c87 => absurd (show some (gE g k) = some (gE g 1) by rw [c56]) c87) (fun _ => ?_)
      refine lv_aload_n hx hb dX0_writeHead_90 rfl (lv_at hl 0 rfl) ?_
      refine lv_aload_n hx hb dX0_writeHead_91 rfl (lv_at hl 2 rfl) ?_
      refine lv_iload_n hx hb dX0_writeHead_92 rfl (lv_at hl 3 rfl) ?_
      have hk01 : k = 0 ∨ k = 1 := by first | exact Or.inl c56 | exact Or.inr c56
      have hes2 := hes hk01
      refine q_top (v := nI e0) (hxf hk01) ?_
      refine ct_callV (wr := [(an, .inr (0, [.ref ka])), (ka, .inr (3, [.int (nI 66047), .ref q1_28, .int (nI (s1_19 + slen 29))])), (q1_28, .inl (gB g, n1_28, .inl f1_28))]) hx hb hml hown hts hK hP hD hS hA hG hl.1 (c_checkOf l g ho hi he op qe ne se fe e0 (by omega) (by omega) (by omega)) (cwV 1 hts gX0_writeHead_X6_checkOf rfl rfl rfl (by decide +kernel) ⟨Nat.le_of_ble_eq_true rfl, Nat.le_of_ble_eq_true rfl⟩) (va_recv hK hP (ci := 4) (q0 := 0) rfl rfl) rfl rfl (Nat.le_of_ble_eq_true rfl) dX0_writeHead_93 ⟨show 0 + 0 ≤ 0 by omega, show 0 + 0 ≤ 0 by omega⟩ [0, 1, 2] [3, 4, 5] rfl rfl (by decide) (by decide) (by decide) (fun r_ w_ H locs hp_ hP hD hS => ?_)
      obtain ⟨rfl, rfl⟩ := hp_
      have hP : va_P (gD g) vwCl [(an, .inr (0, [.ref ka])), (ka, .inr (3, [.int (nI 66047), .ref q1_28, .int (nI (s1_19 + slen 29))])), (q1_28, .inl (gB g, n1_28, .inl f1_28)), (ho, .inr (4, [.ref hi, .ref he, .int (nI op)])), (he, .inr (3, [.int (nI 4096), .ref qe, .int (nI se)])), (qe, .inl (gB g, ne, .inl fe))] H := hP
      have hD : va_D A [(an, .inr (0, [.ref ka])), (ka, .inr (3, [.int (nI 66047), .ref q1_28, .int (nI (s1_19 + slen 29))])), (q1_28, .inl (gB g, n1_28, .inl f1_28)), (ho, .inr (4, [.ref hi, .ref he, .int (nI op)])), (he, .inr (3, [.int (nI 4096), .ref qe, .int (nI se)])), (qe, .inl (gB g, ne, .inl fe))] := hD
      refine W.eq (g2 := F0 m 96 ls [.int (be4 fe (e0 * 64 + 56)), .ref an]) rfl ?_
      refine ct_callV (wr := [(ho, .inr (4, [.ref hi, .ref he, .int (nI op)])), (he, .inr (3, [.int (nI 4096), .ref qe, .int (nI se)])), (qe, .inl (gB g, ne, .inl fe))]) hx hb hml hown hts hK hP hD hS hA hG hl.1 (c_writeMark l g an ka q1_28 n1_28 (s1_19 + slen 29) f1_28 ((((([] : List Int32) ++ sL 28) ++ stL k) ++ sL 29)) (be4 fe (e0 * 64 + 56)) (by omega) (by omega) (by omega) (by assumption) (by first | exact hz_28 | omega) (by exact hl_28) (by omega)) (cwV 1 hts gX0_writeHead_X0_writeMark rfl rfl rfl (by decide +kernel) ⟨Nat.le_of_ble_eq_true rfl, Nat.le_of_ble_eq_true rfl⟩) (va_recv hK hP (ci := 0) (q0 := 0) rfl rfl) rfl rfl (Nat.le_of_ble_eq_true rfl) dX0_writeHead_96 ⟨show 0 + 0 ≤ 0 by omega, show 0 + 0 ≤ 0 by omega⟩ [0, 1, 2] [3, 4, 5] rfl rfl (by decide) (by decide) (by decide) (fun r_ w_ H locs hp_ hP hD hS => ?_)
      obtain ⟨q1_96, n1_96, s1_96, f1_96, rfl, rfl, en_96, es_96, el_96, ft_96⟩ := hp_
      have hP : va_P (gD g) vwCl [(ho, .inr (4, [.ref hi, .ref he, .int (nI op)])), (he, .inr (3, [.int (nI 4096), .ref qe, .int (nI se)])), (qe, .inl (gB g, ne, .inl fe)), (an, .inr (0, [.ref ka])), (ka, .inr (3, [.int (nI 66047), .ref q1_96, .int (nI s1_96)])), (q1_96, .inl (gB g, n1_96, .inl f1_96))] H := hP
      have hD : va_D A [(ho, .inr (4, [.ref hi, .ref he, .int (nI op)])), (he, .inr (3, [.int (nI 4096), .ref qe, .int (nI se)])), (qe, .inl (gB g, ne, .inl fe)), (an, .inr (0, [.ref ka])), (ka, .inr (3, [.int (nI 66047), .ref q1_96, .int (nI s1_96)])), (q1_96, .inl (gB g, n1_96, .inl f1_96))] := hD
      have en_96 : n1_96 = n1_28 := en_96
      have es_96 : s1_96 = (((((([] : List Int32) ++ sL 28) ++ stL k) ++ sL 29)) ++ mkP (be4 fe (e0 * 64 + 56))).length := es_96
      have el_96 : hasL f1_96 0 (((((([] : List Int32) ++ sL 28) ++ stL k) ++ sL 29)) ++ mkP (be4 fe (e0 * 64 + 56))) := el_96
      have ft_96 : sb_Fit f1_96 := ft_96
      refine W.eq (g2 := F0 m 99 ls []) rfl ?_
      have hz_96 : s1_96 = (((([] : List Int32) ++ sL 28) ++ stL k) ++ sL 29).length + (mkP (be4 fe (e0 * 64 + 56))).length := by rw [es_96, List.length_append]
      refine lv_aload_n hx hb dX0_writeHead_99 rfl (lv_at hl 1 rfl) ?_
      refine va_gets hx hb ((hG.2.2.2.2.2.1.1 4 (by decide)).1) hS hown hf73 (fun _ h9 => h9) dX0_writeHead_100 ?_
      refine lv_acmp_ne (rx := some (gE g k)) (ry := some (gE g 4)) (tgt := 115) hx hb dX0_writeHead_103 (by decide) (fun _ => ?_) (fun c103 => absurd (c56.symm.trans (hG.2.2.2.2.2.1.2 k 4 (by show k < 9; omega) (by decide) (Option.some.inj c103))) (by decide))
      refine lv_iload hx hb dX0_writeHead_115 (lv_at hl 5 rfl) ?_
      refine lv_if_eq (tgt := 129) hx hb dX0_writeHead_117 (by decide) (fun c117 => ?_) (fun c117 => ?_)
      · skip
        have c117 : cz = 0 := (nI_eq (a := cz) (b := 0) (by omega) (by omega)).mp c117
        refine lv_aload_n hx hb dX0_writeHead_129 rfl (lv_at hl 0 rfl) ?_
        refine va_get (D := gD g) (ci := 0) (v := .ref ka) (C := RX0) (T := TX0) (N := 1) hx hb hts hinX0 hown hK hP 3 rfl rfl 0 (by decide) hf17 (fun _ h9 => h9) rfl dX0_writeHead_130 ?_
        refine va_ldcS hx hb hown ((hG.1 29 (by decide)).2.2.2.2) dX0_writeHead_133 ?_
        refine ct_callV (wr := [(ho, .inr (4, [.ref hi, .ref he, .int (nI op)])), (he, .inr (3, [.int (nI 4096), .ref qe, .int (nI se)])), (qe, .inl (gB g, ne, .inl fe)), (an, .inr (0, [.ref ka]))]) hx hb hml hown hts hK hP hD hS hA hG hl.1 (c_addTextF l g ka q1_96 66047 n1_96 s1_96 f1_96 29 (by omega) (by omega) (by omega) (by omega) (by assumption) (by first | assumption | decide) (by first | omega | (have e_ : slen _ ≤ 31 := slen_le _ (by first | assumption | decide); omega))) (cwV 1 hts gX0_writeHead_X4_addText rfl rfl rfl (by decide +kernel) ⟨Nat.le_of_ble_eq_true rfl, Nat.le_of_ble_eq_true rfl⟩) (va_recv hK hP (ci := 3) (q0 := 4) rfl rfl) rfl rfl (Nat.le_of_ble_eq_true rfl) dX0_writeHead_135 ⟨show 0 + 0 ≤ 0 by omega, show 0 + 0 ≤ 0 by omega⟩ [4, 5] [0, 1, 2, 3] rfl rfl (by decide) (by decide) (by decide) (fun r_ w_ H locs hp_ hP hD hS => ?_)
        obtain ⟨q1_135, n1_135, f1_135, rfl, rfl, en_135, ef_135, et_135, ft_135⟩ := hp_
        have hP : va_P (gD g) vwCl [(ho, .inr (4, [.ref hi, .ref he, .int (nI op)])), (he, .inr (3, [.int (nI 4096), .ref qe, .int (nI se)])), (qe, .inl (gB g, ne, .inl fe)), (an, .inr (0, [.ref ka])), (ka, .inr (3, [.int (nI 66047), .ref q1_135, .int (nI (s1_96 + slen 29))])), (q1_135, .inl (gB g, n1_135, .inl f1_135))] H := hP
        have hD : va_D A [(ho, .inr (4, [.ref hi, .ref he, .int (nI op)])), (he, .inr (3, [.int (nI 4096), .ref qe, .int (nI se)])), (qe, .inl (gB g, ne, .inl fe)), (an, .inr (0, [.ref ka])), (ka, .inr (3, [.int (nI 66047), .ref q1_135, .int (nI (s1_96 + slen 29))])), (q1_135, .inl (gB g, n1_135, .inl f1_135))] := hD
        have en_135 : n1_135 = n1_96 := en_135
        have ef_135 : ∀ j, j < s1_96 → f1_135 j = f1_96 j := ef_135
        have et_135 : hasL f1_135 s1_96 (sL 29) := et_135
        have ft_135 : sb_Fit f1_135 := ft_135
        refine W.eq (g2 := F0 m 138 ls []) rfl ?_
        have hl_135 : hasL f1_135 0 (((((([] : List Int32) ++ sL 28) ++ stL k) ++ sL 29) ++ mkP (be4 fe (e0 * 64 + 56))) ++ sL 29) := hasL_grow el_96 (by first | exact es_96 | omega) (fun j hj => ef_135 j hj) et_135
        have hz_135 : s1_96 + slen 29 = (((((([] : List Int32) ++ sL 28) ++ stL k) ++ sL 29) ++ mkP (be4 fe (e0 * 64 + 56))) ++ sL 29).length := by rw [List.length_append, sLl]; omega
        refine ct_vret (w := [(an, .inr (0, [.ref ka])), (ka, .inr (3, [.int (nI 66047), .ref q1_135, .int (nI (s1_96 + slen 29))])), (q1_135, .inl (gB g, n1_135, .inl f1_135)), (ho, .inr (4, [.ref hi, .ref he, .int (nI op)])), (he, .inr (3, [.int (nI 4096), .ref qe, .int (nI se)])), (qe, .inl (gB g, ne, .inl fe))]) hx hb hr hlocks hQ hAe hK (hP.sub [3, 4, 5, 0, 1, 2] rfl) (hD.sub [3, 4, 5, 0, 1, 2] (by decide) rfl) hS (by omega) (by omega) dX0_writeHead_138 ?_
        exact ⟨q1_135, n1_135, s1_96 + slen 29, f1_135, rfl, rfl, by omega, by rw [(show hdL k ln t (be4 fe (e0 * 64 + 56)) cz = (((((([] : List Int32) ++ sL 28) ++ stL k) ++ sL 29) ++ mkP (be4 fe (e0 * 64 + 56))) ++ sL 29) from (by first | (simp [hdL, c56, c117]; done) | (simp [hdL, c56, (show cz = 1 from (by omega))]; done)))]; exact hz_135, by omega, by rw [(show hdL k ln t (be4 fe (e0 * 64 + 56)) cz = (((((([] : List Int32) ++ sL 28) ++ stL k) ++ sL 29) ++ mkP (be4 fe (e0 * 64 + 56))) ++ sL 29) from (by first | (simp [hdL, c56, c117]; done) | (simp [hdL, c56, (show cz = 1 from (by omega))]; done)))]; exact hl_135, by assumption⟩
      · skip
        have c117 : ¬ (cz = 0) := fun z => c117 ((nI_eq (a := cz) (b := 0) (by omega) (by omega)).mpr z)
        refine lv_aload_n hx hb dX0_writeHead_120 rfl (lv_at hl 0 rfl) ?_
        refine va_get (D := gD g) (ci := 0) (v := .ref ka) (C := RX0) (T := TX0) (N := 1) hx hb hts hinX0 hown hK hP 3 rfl rfl 0 (by decide) hf17 (fun _ h9 => h9) rfl dX0_writeHead_121 ?_
        refine va_ldcS hx hb hown ((hG.1 35 (by decide)).2.2.2.2) dX0_writeHead_124 ?_
        refine ct_callV (wr := [(ho, .inr (4, [.ref hi, .ref he, .int (nI op)])), (he, .inr (3, [.int (nI 4096), .ref qe, .int (nI se)])), (qe, .inl (gB g, ne, .inl fe)), (an, .inr (0, [.ref ka]))]) hx hb hml hown hts hK hP hD hS hA hG hl.1 (c_addTextF l g ka q1_96 66047 n1_96 s1_96 f1_96 35 (by omega) (by omega) (by omega) (by omega) (by assumption) (by first | assumption | decide) (by first | omega | (have e_ : slen _ ≤ 31 := slen_le _ (by first | assumption | decide); omega))) (cwV 1 hts gX0_writeHead_X4_addText rfl rfl rfl (by decide +kernel) ⟨Nat.le_of_ble_eq_true rfl, Nat.le_of_ble_eq_true rfl⟩) (va_recv hK hP (ci := 3) (q0 := 4) rfl rfl) rfl rfl (Nat.le_of_ble_eq_true rfl) dX0_writeHead_126 ⟨show 0 + 0 ≤ 0 by omega, show 0 + 0 ≤ 0 by omega⟩ [4, 5] [0, 1, 2, 3] rfl rfl (by decide) (by decide) (by decide) (fun r_ w_ H locs hp_ hP hD hS => ?_)
        obtain ⟨q1_126, n1_126, f1_126, rfl, rfl, en_126, ef_126, et_126, ft_126⟩ := hp_
        have hP : va_P (gD g) vwCl [(ho, .inr (4, [.ref hi, .ref he, .int (nI op)])), (he, .inr (3, [.int (nI 4096), .ref qe, .int (nI se)])), (qe, .inl (gB g, ne, .inl fe)), (an, .inr (0, [.ref ka])), (ka, .inr (3, [.int (nI 66047), .ref q1_126, .int (nI (s1_96 + slen 35))])), (q1_126, .inl (gB g, n1_126, .inl f1_126))] H := hP
        have hD : va_D A [(ho, .inr (4, [.ref hi, .ref he, .int (nI op)])), (he, .inr (3, [.int (nI 4096), .ref qe, .int (nI se)])), (qe, .inl (gB g, ne, .inl fe)), (an, .inr (0, [.ref ka])), (ka, .inr (3, [.int (nI 66047), .ref q1_126, .int (nI (s1_96 + slen 35))])), (q1_126, .inl (gB g, n1_126, .inl f1_126))] := hD
        have en_126 : n1_126 = n1_96 := en_126
        have ef_126 : ∀ j, j < s1_96 → f1_126 j = f1_96 j := ef_126
        have et_126 : hasL f1_126 s1_96 (sL 35) := et_126
        have ft_126 : sb_Fit f1_126 := ft_126
        refine W.eq (g2 := F0 m 129 ls []) rfl ?_
        have hl_126 : hasL f1_126 0 (((((([] : List Int32) ++ sL 28) ++ stL k) ++ sL 29) ++ mkP (be4 fe (e0 * 64 + 56))) ++ sL 35) := hasL_grow el_96 (by first | exact es_96 | omega) (fun j hj => ef_126 j hj) et_126
        have hz_126 : s1_96 + slen 35 = (((((([] : List Int32) ++ sL 28) ++ stL k) ++ sL 29) ++ mkP (be4 fe (e0 * 64 + 56))) ++ sL 35).length := by rw [List.length_append, sLl]; omega
        refine lv_aload_n hx hb dX0_writeHead_129 rfl (lv_at hl 0 rfl) ?_
        refine va_get (D := gD g) (ci := 0) (v := .ref ka) (C := RX0) (T := TX0) (N := 1) hx hb hts hinX0 hown hK hP 3 rfl rfl 0 (by decide) hf17 (fun _ h9 => h9) rfl dX0_writeHead_130 ?_
        refine va_ldcS hx hb hown ((hG.1 29 (by decide)).2.2.2.2) dX0_writeHead_133 ?_
        refine ct_callV (wr := [(ho, .inr (4, [.ref hi, .ref he, .int (nI op)])), (he, .inr (3, [.int (nI 4096), .ref qe, .int (nI se)])), (qe, .inl (gB g, ne, .inl fe)), (an, .inr (0, [.ref ka]))]) hx hb hml hown hts hK hP hD hS hA hG hl.1 (c_addTextF l g ka q1_126 66047 n1_126 (s1_96 + slen 35) f1_126 29 (by omega) (by omega) (by omega) (by omega) (by assumption) (by first | assumption | decide) (by first | omega | (have e_ : slen _ ≤ 31 := slen_le _ (by first | assumption | decide); omega))) (cwV 1 hts gX0_writeHead_X4_addText rfl rfl rfl (by decide +kernel) ⟨Nat.le_of_ble_eq_true rfl, Nat.le_of_ble_eq_true rfl⟩) (va_recv hK hP (ci := 3) (q0 := 4) rfl rfl) rfl rfl (Nat.le_of_ble_eq_true rfl) dX0_writeHead_135 ⟨show 0 + 0 ≤ 0 by omega, show 0 + 0 ≤ 0 by omega⟩ [4, 5] [0, 1, 2, 3] rfl rfl (by decide) (by decide) (by decide) (fun r_ w_ H locs hp_ hP hD hS => ?_)
        obtain ⟨q1_135, n1_135, f1_135, rfl, rfl, en_135, ef_135, et_135, ft_135⟩ := hp_
        have hP : va_P (gD g) vwCl [(ho, .inr (4, [.ref hi, .ref he, .int (nI op)])), (he, .inr (3, [.int (nI 4096), .ref qe, .int (nI se)])), (qe, .inl (gB g, ne, .inl fe)), (an, .inr (0, [.ref ka])), (ka, .inr (3, [.int (nI 66047), .ref q1_135, .int (nI ((s1_96 + slen 35) + slen 29))])), (q1_135, .inl (gB g, n1_135, .inl f1_135))] H := hP
        have hD : va_D A [(ho, .inr (4, [.ref hi, .ref he, .int (nI op)])), (he, .inr (3, [.int (nI 4096), .ref qe, .int (nI se)])), (qe, .inl (gB g, ne, .inl fe)), (an, .inr (0, [.ref ka])), (ka, .inr (3, [.int (nI 66047), .ref q1_135, .int (nI ((s1_96 + slen 35) + slen 29))])), (q1_135, .inl (gB g, n1_135, .inl f1_135))] := hD
        have en_135 : n1_135 = n1_126 := en_135
        have ef_135 : ∀ j, j < (s1_96 + slen 35) → f1_135 j = f1_126 j := ef_135
        have et_135 : hasL f1_135 (s1_96 + slen 35) (sL 29) := et_135
        have ft_135 : sb_Fit f1_135 := ft_135
        refine W.eq (g2 := F0 m 138 ls []) rfl ?_
        have hl_135 : hasL f1_135 0 ((((((([] : List Int32) ++ sL 28) ++ stL k) ++ sL 29) ++ mkP (be4 fe (e0 * 64 + 56))) ++ sL 35) ++ sL 29) := hasL_grow hl_126 (by first | exact hz_126 | omega) (fun j hj => ef_135 j hj) et_135
        have hz_135 : (s1_96 + slen 35) + slen 29 = ((((((([] : List Int32) ++ sL 28) ++ stL k) ++ sL 29) ++ mkP (be4 fe (e0 * 64 + 56))) ++ sL 35) ++ sL 29).length := by rw [List.length_append, sLl]; omega
        refine ct_vret (w := [(an, .inr (0, [.ref ka])), (ka, .inr (3, [.int (nI 66047), .ref q1_135, .int (nI ((s1_96 + slen 35) + slen 29))])), (q1_135, .inl (gB g, n1_135, .inl f1_135)), (ho, .inr (4, [.ref hi, .ref he, .int (nI op)])), (he, .inr (3, [.int (nI 4096), .ref qe, .int (nI se)])), (qe, .inl (gB g, ne, .inl fe))]) hx hb hr hlocks hQ hAe hK (hP.sub [3, 4, 5, 0, 1, 2] rfl) (hD.sub [3, 4, 5, 0, 1, 2] (by decide) rfl) hS (by omega) (by omega) dX0_writeHead_138 ?_
        exact ⟨q1_135, n1_135, (s1_96 + slen 35) + slen 29, f1_135, rfl, rfl, by omega, by rw [(show hdL k ln t (be4 fe (e0 * 64 + 56)) cz = ((((((([] : List Int32) ++ sL 28) ++ stL k) ++ sL 29) ++ mkP (be4 fe (e0 * 64 + 56))) ++ sL 35) ++ sL 29) from (by first | (simp [hdL, c56, c117]; done) | (simp [hdL, c56, (show cz = 1 from (by omega))]; done)))]; exact hz_135, by omega, by rw [(show hdL k ln t (be4 fe (e0 * 64 + 56)) cz = ((((((([] : List Int32) ++ sL 28) ++ stL k) ++ sL 29) ++ mkP (be4 fe (e0 * 64 + 56))) ++ sL 35) ++ sL 29) from (by first | (simp [hdL, c56, c117]; done) | (simp [hdL, c56, (show cz = 1 from (by omega))]; done)))]; exact hl_135, by assumption⟩
    · skip
      have c56 : ¬ k = 1 := fun z => c56 (by rw [z])
      refine lv_aload_n hx hb dX0_writeHead_59 rfl (lv_at hl 0 rfl) ?_
      refine lv_iconst (v := nI 4) hx hb dX0_writeHead_60 (by decide) ?_
      refine lv_aload_n hx hb dX0_writeHead_61 rfl (lv_at hl 1 rfl) ?_
      refine vk_getfN hx hb (hG.2.2.2.2.2.2.1 k (by omega)) hS hown hf55 (fun _ h9 => h9) dX0_writeHead_62 ?_
      refine ct_callV (wr := [(ho, .inr (4, [.ref hi, .ref he, .int (nI op)])), (he, .inr (3, [.int (nI 4096), .ref qe, .int (nI se)])), (qe, .inl (gB g, ne, .inl fe)), (an, .inr (0, [.ref ka])), (ka, .inr (3, [.int (nI 66047), .ref q1_28, .int (nI (s1_19 + slen 29))])), (q1_28, .inl (gB g, n1_28, .inl f1_28))]) hx hb hml hown hts hK hP hD hS hA hG hl.1 (c_slen l g ((stPh.getD k 0)) (by exact stPh_lt k hk9)) (cwV 0 hts gX0_writeHead_J0_length_8abf5 rfl rfl rfl (by decide +kernel) ⟨Nat.le_of_ble_eq_true rfl, Nat.le_of_ble_eq_true rfl⟩) (st_recv hG (k := (stPh.getD k 0)) (by first | assumption | exact stPh_lt k hk9) hS) rfl rfl (Nat.le_of_ble_eq_true rfl) dX0_writeHead_65 ⟨show 0 + 0 ≤ 0 by omega, show 0 + 0 ≤ 0 by omega⟩ [] [0, 1, 2, 3, 4, 5] rfl rfl (by decide) (by decide) (by decide) (fun r_ w_ H locs hp_ hP hD hS => ?_)
      obtain ⟨rfl, rfl⟩ := hp_
      have hP : va_P (gD g) vwCl [(ho, .inr (4, [.ref hi, .ref he, .int (nI op)])), (he, .inr (3, [.int (nI 4096), .ref qe, .int (nI se)])), (qe, .inl (gB g, ne, .inl fe)), (an, .inr (0, [.ref ka])), (ka, .inr (3, [.int (nI 66047), .ref q1_28, .int (nI (s1_19 + slen 29))])), (q1_28, .inl (gB g, n1_28, .inl f1_28))] H := hP
      have hD : va_D A [(ho, .inr (4, [.ref hi, .ref he, .int (nI op)])), (he, .inr (3, [.int (nI 4096), .ref qe, .int (nI se)])), (qe, .inl (gB g, ne, .inl fe)), (an, .inr (0, [.ref ka])), (ka, .inr (3, [.int (nI 66047), .ref q1_28, .int (nI (s1_19 + slen 29))])), (q1_28, .inl (gB g, n1_28, .inl f1_28))] := hD
      refine W.eq (g2 := F0 m 68 ls [.int (nI (slen ((stPh.getD k 0)))), .int (nI 4), .ref an]) rfl ?_
      refine q_iadd (v := nI (4 + (slen ((stPh.getD k 0))))) hx hb dX0_writeHead_68 (nI_add 4 (slen ((stPh.getD k 0)))) ?_
      refine lv_iconst (v := nI 1) hx hb dX0_writeHead_69 (by decide) ?_
      refine q_iadd (v := nI (5 + slen (stPh.getD k 0))) hx hb dX0_writeHead_70 (by rw [nI_add]; congr 1; omega) ?_
      refine va_ldcS hx hb hown ((hG.1 32 (by decide)).2.2.2.2) dX0_writeHead_71 ?_
      refine ct_callV (wr := [(ho, .inr (4, [.ref hi, .ref he, .int (nI op)])), (he, .inr (3, [.int (nI 4096), .ref qe, .int (nI se)])), (qe, .inl (gB g, ne, .inl fe))]) hx hb hml hown hts hK hP hD hS hA hG hl.1 (c_writeContent l g an ka q1_28 n1_28 (s1_19 + slen 29) f1_28 ((((([] : List Int32) ++ sL 28) ++ stL k) ++ sL 29)) (5 + slen (stPh.getD k 0)) 32 (by omega) (by omega) (by omega) (by assumption) (by first | exact hz_28 | omega) (by exact hl_28) (by omega) (by first | assumption | decide | omega) (by omega)) (cwV 2 hts gX0_writeHead_X0_writeContent rfl rfl rfl (by decide +kernel) ⟨Nat.le_of_ble_eq_true rfl, Nat.le_of_ble_eq_true rfl⟩) (va_recv hK hP (ci := 0) (q0 := 3) rfl rfl) rfl rfl (Nat.le_of_ble_eq_true rfl) dX0_writeHead_73 ⟨show 0 + 0 ≤ 0 by omega, show 0 + 0 ≤ 0 by omega⟩ [3, 4, 5] [0, 1, 2] rfl rfl (by decide) (by decide) (by decide) (fun r_ w_ H locs hp_ hP hD hS => ?_)
      obtain ⟨q1_73, n1_73, s1_73, f1_73, rfl, rfl, en_73, es_73, el_73, ft_73⟩ := hp_
      have hP : va_P (gD g) vwCl [(ho, .inr (4, [.ref hi, .ref he, .int (nI op)])), (he, .inr (3, [.int (nI 4096), .ref qe, .int (nI se)])), (qe, .inl (gB g, ne, .inl fe)), (an, .inr (0, [.ref ka])), (ka, .inr (3, [.int (nI 66047), .ref q1_73, .int (nI s1_73)])), (q1_73, .inl (gB g, n1_73, .inl f1_73))] H := hP
      have hD : va_D A [(ho, .inr (4, [.ref hi, .ref he, .int (nI op)])), (he, .inr (3, [.int (nI 4096), .ref qe, .int (nI se)])), (qe, .inl (gB g, ne, .inl fe)), (an, .inr (0, [.ref ka])), (ka, .inr (3, [.int (nI 66047), .ref q1_73, .int (nI s1_73)])), (q1_73, .inl (gB g, n1_73, .inl f1_73))] := hD
      have en_73 : n1_73 = n1_28 := en_73
      have es_73 : s1_73 = (((((([] : List Int32) ++ sL 28) ++ stL k) ++ sL 29)) ++ ctL (5 + slen (stPh.getD k 0)) 32).length := es_73
      have el_73 : hasL f1_73 0 (((((([] : List Int32) ++ sL 28) ++ stL k) ++ sL 29)) ++ ctL (5 + slen (stPh.getD k 0)) 32) := el_73
      have ft_73 : sb_Fit f1_73 := ft_73
      refine W.eq (g2 := F0 m 76 ls []) rfl ?_
      have hz_73 : s1_73 = (((([] : List Int32) ++ sL 28) ++ stL k) ++ sL 29).length + (ctL (5 + slen (stPh.getD k 0)) 32).length := by rw [es_73, List.length_append]
      refine lv_aload_n hx hb dX0_writeHead_76 rfl (lv_at hl 1 rfl) ?_
      refine va_gets hx hb ((hG.2.2.2.2.2.1.1 0 (by decide)).1) hS hown hf36 (fun _ h9 => h9) dX0_writeHead_77 ?_
      refine lv_acmp_eq (rx := some (gE g k)) (ry := some (gE g 0)) (tgt := 90) hx hb dX0_writeHead_80 (by decide) (fun c80 => absurd (hG.2.2.2.2.2.1.2 k 0 (by show k < 9; omega) (by decide) (Option.some.inj c80)) c35) (fun _ => ?_)
      refine lv_aload_n hx hb dX0_writeHead_83 rfl (lv_at hl 1 rfl) ?_
      refine va_gets hx hb ((hG.2.2.2.2.2.1.1 1 (by decide)).1) hS hown hf52 (fun _ h9 => h9) dX0_writeHead_84 ?_
      refine lv_acmp_ne (rx := some (gE g k)) (ry := some (gE g 1)) (tgt := 99) hx hb dX0_writeHead_87 (by decide) (fun _ => ?_) (fun c87 => absurd (hG.2.2.2.2.2.1.2 k 1 (by show k < 9; omega) (by decide) (Option.some.inj c87)) c56)
      refine lv_aload_n hx hb dX0_writeHead_99 rfl (lv_at hl 1 rfl) ?_
      refine va_gets hx hb ((hG.2.2.2.2.2.1.1 4 (by decide)).1) hS hown hf73 (fun _ h9 => h9) dX0_writeHead_100 ?_
      refine lv_acmp_ne (rx := some (gE g k)) (ry := some (gE g 4)) (tgt := 115) hx hb dX0_writeHead_103 (by decide) (fun c103 => ?_) (fun c103 => ?_)
      · skip
        have c103 : ¬ k = 4 := fun z => c103 (by rw [z])
        refine lv_iload hx hb dX0_writeHead_115 (lv_at hl 5 rfl) ?_
        refine lv_if_eq (tgt := 129) hx hb dX0_writeHead_117 (by decide) (fun c117 => ?_) (fun c117 => ?_)
        · skip
          have c117 : cz = 0 := (nI_eq (a := cz) (b := 0) (by omega) (by omega)).mp c117
          refine lv_aload_n hx hb dX0_writeHead_129 rfl (lv_at hl 0 rfl) ?_
          refine va_get (D := gD g) (ci := 0) (v := .ref ka) (C := RX0) (T := TX0) (N := 1) hx hb hts hinX0 hown hK hP 3 rfl rfl 0 (by decide) hf17 (fun _ h9 => h9) rfl dX0_writeHead_130 ?_
          refine va_ldcS hx hb hown ((hG.1 29 (by decide)).2.2.2.2) dX0_writeHead_133 ?_
          refine ct_callV (wr := [(ho, .inr (4, [.ref hi, .ref he, .int (nI op)])), (he, .inr (3, [.int (nI 4096), .ref qe, .int (nI se)])), (qe, .inl (gB g, ne, .inl fe)), (an, .inr (0, [.ref ka]))]) hx hb hml hown hts hK hP hD hS hA hG hl.1 (c_addTextF l g ka q1_73 66047 n1_73 s1_73 f1_73 29 (by omega) (by omega) (by omega) (by omega) (by assumption) (by first | assumption | decide) (by first | omega | (have e_ : slen _ ≤ 31 := slen_le _ (by first | assumption | decide); omega))) (cwV 1 hts gX0_writeHead_X4_addText rfl rfl rfl (by decide +kernel) ⟨Nat.le_of_ble_eq_true rfl, Nat.le_of_ble_eq_true rfl⟩) (va_recv hK hP (ci := 3) (q0 := 4) rfl rfl) rfl rfl (Nat.le_of_ble_eq_true rfl) dX0_writeHead_135 ⟨show 0 + 0 ≤ 0 by omega, show 0 + 0 ≤ 0 by omega⟩ [4, 5] [0, 1, 2, 3] rfl rfl (by decide) (by decide) (by decide) (fun r_ w_ H locs hp_ hP hD hS => ?_)
          obtain ⟨q1_135, n1_135, f1_135, rfl, rfl, en_135, ef_135, et_135, ft_135⟩ := hp_
          have hP : va_P (gD g) vwCl [(ho, .inr (4, [.ref hi, .ref he, .int (nI op)])), (he, .inr (3, [.int (nI 4096), .ref qe, .int (nI se)])), (qe, .inl (gB g, ne, .inl fe)), (an, .inr (0, [.ref ka])), (ka, .inr (3, [.int (nI 66047), .ref q1_135, .int (nI (s1_73 + slen 29))])), (q1_135, .inl (gB g, n1_135, .inl f1_135))] H := hP
          have hD : va_D A [(ho, .inr (4, [.ref hi, .ref he, .int (nI op)])), (he, .inr (3, [.int (nI 4096), .ref qe, .int (nI se)])), (qe, .inl (gB g, ne, .inl fe)), (an, .inr (0, [.ref ka])), (ka, .inr (3, [.int (nI 66047), .ref q1_135, .int (nI (s1_73 + slen 29))])), (q1_135, .inl (gB g, n1_135, .inl f1_135))] := hD
          have en_135 : n1_135 = n1_73 := en_135
          have ef_135 : ∀ j, j < s1_73 → f1_135 j = f1_73 j := ef_135
          have et_135 : hasL f1_135 s1_73 (sL 29) := et_135
          have ft_135 : sb_Fit f1_135 := ft_135
          refine W.eq (g2 := F0 m 138 ls []) rfl ?_
          have hl_135 : hasL f1_135 0 (((((([] : List Int32) ++ sL 28) ++ stL k) ++ sL 29) ++ ctL (5 + slen (stPh.getD k 0)) 32) ++ sL 29) := hasL_grow el_73 (by first | exact es_73 | omega) (fun j hj => ef_135 j hj) et_135
          have hz_135 : s1_73 + slen 29 = (((((([] : List Int32) ++ sL 28) ++ stL k) ++ sL 29) ++ ctL (5 + slen (stPh.getD k 0)) 32) ++ sL 29).length := by rw [List.length_append, sLl]; omega
          refine ct_vret (w := [(an, .inr (0, [.ref ka])), (ka, .inr (3, [.int (nI 66047), .ref q1_135, .int (nI (s1_73 + slen 29))])), (q1_135, .inl (gB g, n1_135, .inl f1_135)), (ho, .inr (4, [.ref hi, .ref he, .int (nI op)])), (he, .inr (3, [.int (nI 4096), .ref qe, .int (nI se)])), (qe, .inl (gB g, ne, .inl fe))]) hx hb hr hlocks hQ hAe hK (hP.sub [3, 4, 5, 0, 1, 2] rfl) (hD.sub [3, 4, 5, 0, 1, 2] (by decide) rfl) hS (by omega) (by omega) dX0_writeHead_138 ?_
          exact ⟨q1_135, n1_135, s1_73 + slen 29, f1_135, rfl, rfl, by omega, by rw [(show hdL k ln t (be4 fe (e0 * 64 + 56)) cz = (((((([] : List Int32) ++ sL 28) ++ stL k) ++ sL 29) ++ ctL (5 + slen (stPh.getD k 0)) 32) ++ sL 29) from (by first | (simp [hdL, c35, c56, c103, c117]; done) | (simp [hdL, c35, c56, c103, (show cz = 1 from (by omega))]; done)))]; exact hz_135, by omega, by rw [(show hdL k ln t (be4 fe (e0 * 64 + 56)) cz = (((((([] : List Int32) ++ sL 28) ++ stL k) ++ sL 29) ++ ctL (5 + slen (stPh.getD k 0)) 32) ++ sL 29) from (by first | (simp [hdL, c35, c56, c103, c117]; done) | (simp [hdL, c35, c56, c103, (show cz = 1 from (by omega))]; done)))]; exact hl_135, by assumption⟩
        · skip
          have c117 : ¬ (cz = 0) := fun z => c117 ((nI_eq (a := cz) (b := 0) (by omega) (by omega)).mpr z)
          refine lv_aload_n hx hb dX0_writeHead_120 rfl (lv_at hl 0 rfl) ?_
          refine va_get (D := gD g) (ci := 0) (v := .ref ka) (C := RX0) (T := TX0) (N := 1) hx hb hts hinX0 hown hK hP 3 rfl rfl 0 (by decide) hf17 (fun _ h9 => h9) rfl dX0_writeHead_121 ?_
          refine va_ldcS hx hb hown ((hG.1 35 (by decide)).2.2.2.2) dX0_writeHead_124 ?_
          refine ct_callV (wr := [(ho, .inr (4, [.ref hi, .ref he, .int (nI op)])), (he, .inr (3, [.int (nI 4096), .ref qe, .int (nI se)])), (qe, .inl (gB g, ne, .inl fe)), (an, .inr (0, [.ref ka]))]) hx hb hml hown hts hK hP hD hS hA hG hl.1 (c_addTextF l g ka q1_73 66047 n1_73 s1_73 f1_73 35 (by omega) (by omega) (by omega) (by omega) (by assumption) (by first | assumption | decide) (by first | omega | (have e_ : slen _ ≤ 31 := slen_le _ (by first | assumption | decide); omega))) (cwV 1 hts gX0_writeHead_X4_addText rfl rfl rfl (by decide +kernel) ⟨Nat.le_of_ble_eq_true rfl, Nat.le_of_ble_eq_true rfl⟩) (va_recv hK hP (ci := 3) (q0 := 4) rfl rfl) rfl rfl (Nat.le_of_ble_eq_true rfl) dX0_writeHead_126 ⟨show 0 + 0 ≤ 0 by omega, show 0 + 0 ≤ 0 by omega⟩ [4, 5] [0, 1, 2, 3] rfl rfl (by decide) (by decide) (by decide) (fun r_ w_ H locs hp_ hP hD hS => ?_)
          obtain ⟨q1_126, n1_126, f1_126, rfl, rfl, en_126, ef_126, et_126, ft_126⟩ := hp_
          have hP : va_P (gD g) vwCl [(ho, .inr (4, [.ref hi, .ref he, .int (nI op)])), (he, .inr (3, [.int (nI 4096), .ref qe, .int (nI se)])), (qe, .inl (gB g, ne, .inl fe)), (an, .inr (0, [.ref ka])), (ka, .inr (3, [.int (nI 66047), .ref q1_126, .int (nI (s1_73 + slen 35))])), (q1_126, .inl (gB g, n1_126, .inl f1_126))] H := hP
          have hD : va_D A [(ho, .inr (4, [.ref hi, .ref he, .int (nI op)])), (he, .inr (3, [.int (nI 4096), .ref qe, .int (nI se)])), (qe, .inl (gB g, ne, .inl fe)), (an, .inr (0, [.ref ka])), (ka, .inr (3, [.int (nI 66047), .ref q1_126, .int (nI (s1_73 + slen 35))])), (q1_126, .inl (gB g, n1_126, .inl f1_126))] := hD
          have en_126 : n1_126 = n1_73 := en_126
          have ef_126 : ∀ j, j < s1_73 → f1_126 j = f1_73 j := ef_126
          have et_126 : hasL f1_126 s1_73 (sL 35) := et_126
          have ft_126 : sb_Fit f1_126 := ft_126
          refine W.eq (g2 := F0 m 129 ls []) rfl ?_
          have hl_126 : hasL f1_126 0 (((((([] : List Int32) ++ sL 28) ++ stL k) ++ sL 29) ++ ctL (5 + slen (stPh.getD k 0)) 32) ++ sL 35) := hasL_grow el_73 (by first | exact es_73 | omega) (fun j hj => ef_126 j hj) et_126
          have hz_126 : s1_73 + slen 35 = (((((([] : List Int32) ++ sL 28) ++ stL k) ++ sL 29) ++ ctL (5 + slen (stPh.getD k 0)) 32) ++ sL 35).length := by rw [List.length_append, sLl]; omega
          refine lv_aload_n hx hb dX0_writeHead_129 rfl (lv_at hl 0 rfl) ?_
          refine va_get (D := gD g) (ci := 0) (v := .ref ka) (C := RX0) (T := TX0) (N := 1) hx hb hts hinX0 hown hK hP 3 rfl rfl 0 (by decide) hf17 (fun _ h9 => h9) rfl dX0_writeHead_130 ?_
          refine va_ldcS hx hb hown ((hG.1 29 (by decide)).2.2.2.2) dX0_writeHead_133 ?_
          refine ct_callV (wr := [(ho, .inr (4, [.ref hi, .ref he, .int (nI op)])), (he, .inr (3, [.int (nI 4096), .ref qe, .int (nI se)])), (qe, .inl (gB g, ne, .inl fe)), (an, .inr (0, [.ref ka]))]) hx hb hml hown hts hK hP hD hS hA hG hl.1 (c_addTextF l g ka q1_126 66047 n1_126 (s1_73 + slen 35) f1_126 29 (by omega) (by omega) (by omega) (by omega) (by assumption) (by first | assumption | decide) (by first | omega | (have e_ : slen _ ≤ 31 := slen_le _ (by first | assumption | decide); omega))) (cwV 1 hts gX0_writeHead_X4_addText rfl rfl rfl (by decide +kernel) ⟨Nat.le_of_ble_eq_true rfl, Nat.le_of_ble_eq_true rfl⟩) (va_recv hK hP (ci := 3) (q0 := 4) rfl rfl) rfl rfl (Nat.le_of_ble_eq_true rfl) dX0_writeHead_135 ⟨show 0 + 0 ≤ 0 by omega, show 0 + 0 ≤ 0 by omega⟩ [4, 5] [0, 1, 2, 3] rfl rfl (by decide) (by decide) (by decide) (fun r_ w_ H locs hp_ hP hD hS => ?_)
          obtain ⟨q1_135, n1_135, f1_135, rfl, rfl, en_135, ef_135, et_135, ft_135⟩ := hp_
          have hP : va_P (gD g) vwCl [(ho, .inr (4, [.ref hi, .ref he, .int (nI op)])), (he, .inr (3, [.int (nI 4096), .ref qe, .int (nI se)])), (qe, .inl (gB g, ne, .inl fe)), (an, .inr (0, [.ref ka])), (ka, .inr (3, [.int (nI 66047), .ref q1_135, .int (nI ((s1_73 + slen 35) + slen 29))])), (q1_135, .inl (gB g, n1_135, .inl f1_135))] H := hP
          have hD : va_D A [(ho, .inr (4, [.ref hi, .ref he, .int (nI op)])), (he, .inr (3, [.int (nI 4096), .ref qe, .int (nI se)])), (qe, .inl (gB g, ne, .inl fe)), (an, .inr (0, [.ref ka])), (ka, .inr (3, [.int (nI 66047), .ref q1_135, .int (nI ((s1_73 + slen 35) + slen 29))])), (q1_135, .inl (gB g, n1_135, .inl f1_135))] := hD
          have en_135 : n1_135 = n1_126 := en_135
          have ef_135 : ∀ j, j < (s1_73 + slen 35) → f1_135 j = f1_126 j := ef_135
          have et_135 : hasL f1_135 (s1_73 + slen 35) (sL 29) := et_135
          have ft_135 : sb_Fit f1_135 := ft_135
          refine W.eq (g2 := F0 m 138 ls []) rfl ?_
          have hl_135 : hasL f1_135 0 ((((((([] : List Int32) ++ sL 28) ++ stL k) ++ sL 29) ++ ctL (5 + slen (stPh.getD k 0)) 32) ++ sL 35) ++ sL 29) := hasL_grow hl_126 (by first | exact hz_126 | omega) (fun j hj => ef_135 j hj) et_135
          have hz_135 : (s1_73 + slen 35) + slen 29 = ((((((([] : List Int32) ++ sL 28) ++ stL k) ++ sL 29) ++ ctL (5 + slen (stPh.getD k 0)) 32) ++ sL 35) ++ sL 29).length := by rw [List.length_append, sLl]; omega
          refine ct_vret (w := [(an, .inr (0, [.ref ka])), (ka, .inr (3, [.int (nI 66047), .ref q1_135, .int (nI ((s1_73 + slen 35) + slen 29))])), (q1_135, .inl (gB g, n1_135, .inl f1_135)), (ho, .inr (4, [.ref hi, .ref he, .int (nI op)])), (he, .inr (3, [.int (nI 4096), .ref qe, .int (nI se)])), (qe, .inl (gB g, ne, .inl fe))]) hx hb hr hlocks hQ hAe hK (hP.sub [3, 4, 5, 0, 1, 2] rfl) (hD.sub [3, 4, 5, 0, 1, 2] (by decide) rfl) hS (by omega) (by omega) dX0_writeHead_138 ?_
          exact ⟨q1_135, n1_135, (s1_73 + slen 35) + slen 29, f1_135, rfl, rfl, by omega, by rw [(show hdL k ln t (be4 fe (e0 * 64 + 56)) cz = ((((((([] : List Int32) ++ sL 28) ++ stL k) ++ sL 29) ++ ctL (5 + slen (stPh.getD k 0)) 32) ++ sL 35) ++ sL 29) from (by first | (simp [hdL, c35, c56, c103, c117]; done) | (simp [hdL, c35, c56, c103, (show cz = 1 from (by omega))]; done)))]; exact hz_135, by omega, by rw [(show hdL k ln t (be4 fe (e0 * 64 + 56)) cz = ((((((([] : List Int32) ++ sL 28) ++ stL k) ++ sL 29) ++ ctL (5 + slen (stPh.getD k 0)) 32) ++ sL 35) ++ sL 29) from (by first | (simp [hdL, c35, c56, c103, c117]; done) | (simp [hdL, c35, c56, c103, (show cz = 1 from (by omega))]; done)))]; exact hl_135, by assumption⟩
      · skip
        have c103 : k = 4 := (hG.2.2.2.2.2.1.2 k 4 (by show k < 9; omega) (by decide) (Option.some.inj c103))
        refine lv_aload_n hx hb dX0_writeHead_106 rfl (lv_at hl 0 rfl) ?_
        refine va_get (D := gD g) (ci := 0) (v := .ref ka) (C := RX0) (T := TX0) (N := 1) hx hb hts hinX0 hown hK hP 3 rfl rfl 0 (by decide) hf17 (fun _ h9 => h9) rfl dX0_writeHead_107 ?_
        refine va_ldcS hx hb hown ((hG.1 34 (by decide)).2.2.2.2) dX0_writeHead_110 ?_
        refine ct_callV (wr := [(ho, .inr (4, [.ref hi, .ref he, .int (nI op)])), (he, .inr (3, [.int (nI 4096), .ref qe, .int (nI se)])), (qe, .inl (gB g, ne, .inl fe)), (an, .inr (0, [.ref ka]))]) hx hb hml hown hts hK hP hD hS hA hG hl.1 (c_addTextF l g ka q1_73 66047 n1_73 s1_73 f1_73 34 (by omega) (by omega) (by omega) (by omega) (by assumption) (by first | assumption | decide) (by first | omega | (have e_ : slen _ ≤ 31 := slen_le _ (by first | assumption | decide); omega))) (cwV 1 hts gX0_writeHead_X4_addText rfl rfl rfl (by decide +kernel) ⟨Nat.le_of_ble_eq_true rfl, Nat.le_of_ble_eq_true rfl⟩) (va_recv hK hP (ci := 3) (q0 := 4) rfl rfl) rfl rfl (Nat.le_of_ble_eq_true rfl) dX0_writeHead_112 ⟨show 0 + 0 ≤ 0 by omega, show 0 + 0 ≤ 0 by omega⟩ [4, 5] [0, 1, 2, 3] rfl rfl (by decide) (by decide) (by decide) (fun r_ w_ H locs hp_ hP hD hS => ?_)
        obtain ⟨q1_112, n1_112, f1_112, rfl, rfl, en_112, ef_112, et_112, ft_112⟩ := hp_
        have hP : va_P (gD g) vwCl [(ho, .inr (4, [.ref hi, .ref he, .int (nI op)])), (he, .inr (3, [.int (nI 4096), .ref qe, .int (nI se)])), (qe, .inl (gB g, ne, .inl fe)), (an, .inr (0, [.ref ka])), (ka, .inr (3, [.int (nI 66047), .ref q1_112, .int (nI (s1_73 + slen 34))])), (q1_112, .inl (gB g, n1_112, .inl f1_112))] H := hP
        have hD : va_D A [(ho, .inr (4, [.ref hi, .ref he, .int (nI op)])), (he, .inr (3, [.int (nI 4096), .ref qe, .int (nI se)])), (qe, .inl (gB g, ne, .inl fe)), (an, .inr (0, [.ref ka])), (ka, .inr (3, [.int (nI 66047), .ref q1_112, .int (nI (s1_73 + slen 34))])), (q1_112, .inl (gB g, n1_112, .inl f1_112))] := hD
        have en_112 : n1_112 = n1_73 := en_112
        have ef_112 : ∀ j, j < s1_73 → f1_112 j = f1_73 j := ef_112
        have et_112 : hasL f1_112 s1_73 (sL 34) := et_112
        have ft_112 : sb_Fit f1_112 := ft_112
        refine W.eq (g2 := F0 m 115 ls []) rfl ?_
        have hl_112 : hasL f1_112 0 (((((([] : List Int32) ++ sL 28) ++ stL k) ++ sL 29) ++ ctL (5 + slen (stPh.getD k 0)) 32) ++ sL 34) := hasL_grow el_73 (by first | exact es_73 | omega) (fun j hj => ef_112 j hj) et_112
        have hz_112 : s1_73 + slen 34 = (((((([] : List Int32) ++ sL 28) ++ stL k) ++ sL 29) ++ ctL (5 + slen (stPh.getD k 0)) 32) ++ sL 34).length := by rw [List.length_append, sLl]; omega
        refine lv_iload hx hb dX0_writeHead_115 (lv_at hl 5 rfl) ?_
        refine lv_if_eq (tgt := 129) hx hb dX0_writeHead_117 (by decide) (fun c117 => ?_) (fun c117 => ?_)
        · skip
          have c117 : cz = 0 := (nI_eq (a := cz) (b := 0) (by omega) (by omega)).mp c117
          refine lv_aload_n hx hb dX0_writeHead_129 rfl (lv_at hl 0 rfl) ?_
          refine va_get (D := gD g) (ci := 0) (v := .ref ka) (C := RX0) (T := TX0) (N := 1) hx hb hts hinX0 hown hK hP 3 rfl rfl 0 (by decide) hf17 (fun _ h9 => h9) rfl dX0_writeHead_130 ?_
          refine va_ldcS hx hb hown ((hG.1 29 (by decide)).2.2.2.2) dX0_writeHead_133 ?_
          refine ct_callV (wr := [(ho, .inr (4, [.ref hi, .ref he, .int (nI op)])), (he, .inr (3, [.int (nI 4096), .ref qe, .int (nI se)])), (qe, .inl (gB g, ne, .inl fe)), (an, .inr (0, [.ref ka]))]) hx hb hml hown hts hK hP hD hS hA hG hl.1 (c_addTextF l g ka q1_112 66047 n1_112 (s1_73 + slen 34) f1_112 29 (by omega) (by omega) (by omega) (by omega) (by assumption) (by first | assumption | decide) (by first | omega | (have e_ : slen _ ≤ 31 := slen_le _ (by first | assumption | decide); omega))) (cwV 1 hts gX0_writeHead_X4_addText rfl rfl rfl (by decide +kernel) ⟨Nat.le_of_ble_eq_true rfl, Nat.le_of_ble_eq_true rfl⟩) (va_recv hK hP (ci := 3) (q0 := 4) rfl rfl) rfl rfl (Nat.le_of_ble_eq_true rfl) dX0_writeHead_135 ⟨show 0 + 0 ≤ 0 by omega, show 0 + 0 ≤ 0 by omega⟩ [4, 5] [0, 1, 2, 3] rfl rfl (by decide) (by decide) (by decide) (fun r_ w_ H locs hp_ hP hD hS => ?_)
          obtain ⟨q1_135, n1_135, f1_135, rfl, rfl, en_135, ef_135, et_135, ft_135⟩ := hp_
          have hP : va_P (gD g) vwCl [(ho, .inr (4, [.ref hi, .ref he, .int (nI op)])), (he, .inr (3, [.int (nI 4096), .ref qe, .int (nI se)])), (qe, .inl (gB g, ne, .inl fe)), (an, .inr (0, [.ref ka])), (ka, .inr (3, [.int (nI 66047), .ref q1_135, .int (nI ((s1_73 + slen 34) + slen 29))])), (q1_135, .inl (gB g, n1_135, .inl f1_135))] H := hP
          have hD : va_D A [(ho, .inr (4, [.ref hi, .ref he, .int (nI op)])), (he, .inr (3, [.int (nI 4096), .ref qe, .int (nI se)])), (qe, .inl (gB g, ne, .inl fe)), (an, .inr (0, [.ref ka])), (ka, .inr (3, [.int (nI 66047), .ref q1_135, .int (nI ((s1_73 + slen 34) + slen 29))])), (q1_135, .inl (gB g, n1_135, .inl f1_135))] := hD
          have en_135 : n1_135 = n1_112 := en_135
          have ef_135 : ∀ j, j < (s1_73 + slen 34) → f1_135 j = f1_112 j := ef_135
          have et_135 : hasL f1_135 (s1_73 + slen 34) (sL 29) := et_135
          have ft_135 : sb_Fit f1_135 := ft_135
          refine W.eq (g2 := F0 m 138 ls []) rfl ?_
          have hl_135 : hasL f1_135 0 ((((((([] : List Int32) ++ sL 28) ++ stL k) ++ sL 29) ++ ctL (5 + slen (stPh.getD k 0)) 32) ++ sL 34) ++ sL 29) := hasL_grow hl_112 (by first | exact hz_112 | omega) (fun j hj => ef_135 j hj) et_135
          have hz_135 : (s1_73 + slen 34) + slen 29 = ((((((([] : List Int32) ++ sL 28) ++ stL k) ++ sL 29) ++ ctL (5 + slen (stPh.getD k 0)) 32) ++ sL 34) ++ sL 29).length := by rw [List.length_append, sLl]; omega
          refine ct_vret (w := [(an, .inr (0, [.ref ka])), (ka, .inr (3, [.int (nI 66047), .ref q1_135, .int (nI ((s1_73 + slen 34) + slen 29))])), (q1_135, .inl (gB g, n1_135, .inl f1_135)), (ho, .inr (4, [.ref hi, .ref he, .int (nI op)])), (he, .inr (3, [.int (nI 4096), .ref qe, .int (nI se)])), (qe, .inl (gB g, ne, .inl fe))]) hx hb hr hlocks hQ hAe hK (hP.sub [3, 4, 5, 0, 1, 2] rfl) (hD.sub [3, 4, 5, 0, 1, 2] (by decide) rfl) hS (by omega) (by omega) dX0_writeHead_138 ?_
          exact ⟨q1_135, n1_135, (s1_73 + slen 34) + slen 29, f1_135, rfl, rfl, by omega, by rw [(show hdL k ln t (be4 fe (e0 * 64 + 56)) cz = ((((((([] : List Int32) ++ sL 28) ++ stL k) ++ sL 29) ++ ctL (5 + slen (stPh.getD k 0)) 32) ++ sL 34) ++ sL 29) from (by first | (simp [hdL, c103, c117]; done) | (simp [hdL, c103, (show cz = 1 from (by omega))]; done)))]; exact hz_135, by omega, by rw [(show hdL k ln t (be4 fe (e0 * 64 + 56)) cz = ((((((([] : List Int32) ++ sL 28) ++ stL k) ++ sL 29) ++ ctL (5 + slen (stPh.getD k 0)) 32) ++ sL 34) ++ sL 29) from (by first | (simp [hdL, c103, c117]; done) | (simp [hdL, c103, (show cz = 1 from (by omega))]; done)))]; exact hl_135, by assumption⟩
        · skip
          have c117 : ¬ (cz = 0) := fun z => c117 ((nI_eq (a := cz) (b := 0) (by omega) (by omega)).mpr z)
          refine lv_aload_n hx hb dX0_writeHead_120 rfl (lv_at hl 0 rfl) ?_
          refine va_get (D := gD g) (ci := 0) (v := .ref ka) (C := RX0) (T := TX0) (N := 1) hx hb hts hinX0 hown hK hP 3 rfl rfl 0 (by decide) hf17 (fun _ h9 => h9) rfl dX0_writeHead_121 ?_
          refine va_ldcS hx hb hown ((hG.1 35 (by decide)).2.2.2.2) dX0_writeHead_124 ?_
          refine ct_callV (wr := [(ho, .inr (4, [.ref hi, .ref he, .int (nI op)])), (he, .inr (3, [.int (nI 4096), .ref qe, .int (nI se)])), (qe, .inl (gB g, ne, .inl fe)), (an, .inr (0, [.ref ka]))]) hx hb hml hown hts hK hP hD hS hA hG hl.1 (c_addTextF l g ka q1_112 66047 n1_112 (s1_73 + slen 34) f1_112 35 (by omega) (by omega) (by omega) (by omega) (by assumption) (by first | assumption | decide) (by first | omega | (have e_ : slen _ ≤ 31 := slen_le _ (by first | assumption | decide); omega))) (cwV 1 hts gX0_writeHead_X4_addText rfl rfl rfl (by decide +kernel) ⟨Nat.le_of_ble_eq_true rfl, Nat.le_of_ble_eq_true rfl⟩) (va_recv hK hP (ci := 3) (q0 := 4) rfl rfl) rfl rfl (Nat.le_of_ble_eq_true rfl) dX0_writeHead_126 ⟨show 0 + 0 ≤ 0 by omega, show 0 + 0 ≤ 0 by omega⟩ [4, 5] [0, 1, 2, 3] rfl rfl (by decide) (by decide) (by decide) (fun r_ w_ H locs hp_ hP hD hS => ?_)
          obtain ⟨q1_126, n1_126, f1_126, rfl, rfl, en_126, ef_126, et_126, ft_126⟩ := hp_
          have hP : va_P (gD g) vwCl [(ho, .inr (4, [.ref hi, .ref he, .int (nI op)])), (he, .inr (3, [.int (nI 4096), .ref qe, .int (nI se)])), (qe, .inl (gB g, ne, .inl fe)), (an, .inr (0, [.ref ka])), (ka, .inr (3, [.int (nI 66047), .ref q1_126, .int (nI ((s1_73 + slen 34) + slen 35))])), (q1_126, .inl (gB g, n1_126, .inl f1_126))] H := hP
          have hD : va_D A [(ho, .inr (4, [.ref hi, .ref he, .int (nI op)])), (he, .inr (3, [.int (nI 4096), .ref qe, .int (nI se)])), (qe, .inl (gB g, ne, .inl fe)), (an, .inr (0, [.ref ka])), (ka, .inr (3, [.int (nI 66047), .ref q1_126, .int (nI ((s1_73 + slen 34) + slen 35))])), (q1_126, .inl (gB g, n1_126, .inl f1_126))] := hD
          have en_126 : n1_126 = n1_112 := en_126
          have ef_126 : ∀ j, j < (s1_73 + slen 34) → f1_126 j = f1_112 j := ef_126
          have et_126 : hasL f1_126 (s1_73 + slen 34) (sL 35) := et_126
          have ft_126 : sb_Fit f1_126 := ft_126
          refine W.eq (g2 := F0 m 129 ls []) rfl ?_
          have hl_126 : hasL f1_126 0 ((((((([] : List Int32) ++ sL 28) ++ stL k) ++ sL 29) ++ ctL (5 + slen (stPh.getD k 0)) 32) ++ sL 34) ++ sL 35) := hasL_grow hl_112 (by first | exact hz_112 | omega) (fun j hj => ef_126 j hj) et_126
          have hz_126 : (s1_73 + slen 34) + slen 35 = ((((((([] : List Int32) ++ sL 28) ++ stL k) ++ sL 29) ++ ctL (5 + slen (stPh.getD k 0)) 32) ++ sL 34) ++ sL 35).length := by rw [List.length_append, sLl]; omega
          refine lv_aload_n hx hb dX0_writeHead_129 rfl (lv_at hl 0 rfl) ?_
          refine va_get (D := gD g) (ci := 0) (v := .ref ka) (C := RX0) (T := TX0) (N := 1) hx hb hts hinX0 hown hK hP 3 rfl rfl 0 (by decide) hf17 (fun _ h9 => h9) rfl dX0_writeHead_130 ?_
          refine va_ldcS hx hb hown ((hG.1 29 (by decide)).2.2.2.2) dX0_writeHead_133 ?_
          refine ct_callV (wr := [(ho, .inr (4, [.ref hi, .ref he, .int (nI op)])), (he, .inr (3, [.int (nI 4096), .ref qe, .int (nI se)])), (qe, .inl (gB g, ne, .inl fe)), (an, .inr (0, [.ref ka]))]) hx hb hml hown hts hK hP hD hS hA hG hl.1 (c_addTextF l g ka q1_126 66047 n1_126 ((s1_73 + slen 34) + slen 35) f1_126 29 (by omega) (by omega) (by omega) (by omega) (by assumption) (by first | assumption | decide) (by first | omega | (have e_ : slen _ ≤ 31 := slen_le _ (by first | assumption | decide); omega))) (cwV 1 hts gX0_writeHead_X4_addText rfl rfl rfl (by decide +kernel) ⟨Nat.le_of_ble_eq_true rfl, Nat.le_of_ble_eq_true rfl⟩) (va_recv hK hP (ci := 3) (q0 := 4) rfl rfl) rfl rfl (Nat.le_of_ble_eq_true rfl) dX0_writeHead_135 ⟨show 0 + 0 ≤ 0 by omega, show 0 + 0 ≤ 0 by omega⟩ [4, 5] [0, 1, 2, 3] rfl rfl (by decide) (by decide) (by decide) (fun r_ w_ H locs hp_ hP hD hS => ?_)
          obtain ⟨q1_135, n1_135, f1_135, rfl, rfl, en_135, ef_135, et_135, ft_135⟩ := hp_
          have hP : va_P (gD g) vwCl [(ho, .inr (4, [.ref hi, .ref he, .int (nI op)])), (he, .inr (3, [.int (nI 4096), .ref qe, .int (nI se)])), (qe, .inl (gB g, ne, .inl fe)), (an, .inr (0, [.ref ka])), (ka, .inr (3, [.int (nI 66047), .ref q1_135, .int (nI (((s1_73 + slen 34) + slen 35) + slen 29))])), (q1_135, .inl (gB g, n1_135, .inl f1_135))] H := hP
          have hD : va_D A [(ho, .inr (4, [.ref hi, .ref he, .int (nI op)])), (he, .inr (3, [.int (nI 4096), .ref qe, .int (nI se)])), (qe, .inl (gB g, ne, .inl fe)), (an, .inr (0, [.ref ka])), (ka, .inr (3, [.int (nI 66047), .ref q1_135, .int (nI (((s1_73 + slen 34) + slen 35) + slen 29))])), (q1_135, .inl (gB g, n1_135, .inl f1_135))] := hD
          have en_135 : n1_135 = n1_126 := en_135
          have ef_135 : ∀ j, j < ((s1_73 + slen 34) + slen 35) → f1_135 j = f1_126 j := ef_135
          have et_135 : hasL f1_135 ((s1_73 + slen 34) + slen 35) (sL 29) := et_135
          have ft_135 : sb_Fit f1_135 := ft_135
          refine W.eq (g2 := F0 m 138 ls []) rfl ?_
          have hl_135 : hasL f1_135 0 (((((((([] : List Int32) ++ sL 28) ++ stL k) ++ sL 29) ++ ctL (5 + slen (stPh.getD k 0)) 32) ++ sL 34) ++ sL 35) ++ sL 29) := hasL_grow hl_126 (by first | exact hz_126 | omega) (fun j hj => ef_135 j hj) et_135
          have hz_135 : ((s1_73 + slen 34) + slen 35) + slen 29 = (((((((([] : List Int32) ++ sL 28) ++ stL k) ++ sL 29) ++ ctL (5 + slen (stPh.getD k 0)) 32) ++ sL 34) ++ sL 35) ++ sL 29).length := by rw [List.length_append, sLl]; omega
          refine ct_vret (w := [(an, .inr (0, [.ref ka])), (ka, .inr (3, [.int (nI 66047), .ref q1_135, .int (nI (((s1_73 + slen 34) + slen 35) + slen 29))])), (q1_135, .inl (gB g, n1_135, .inl f1_135)), (ho, .inr (4, [.ref hi, .ref he, .int (nI op)])), (he, .inr (3, [.int (nI 4096), .ref qe, .int (nI se)])), (qe, .inl (gB g, ne, .inl fe))]) hx hb hr hlocks hQ hAe hK (hP.sub [3, 4, 5, 0, 1, 2] rfl) (hD.sub [3, 4, 5, 0, 1, 2] (by decide) rfl) hS (by omega) (by omega) dX0_writeHead_138 ?_
          exact ⟨q1_135, n1_135, ((s1_73 + slen 34) + slen 35) + slen 29, f1_135, rfl, rfl, by omega, by rw [(show hdL k ln t (be4 fe (e0 * 64 + 56)) cz = (((((((([] : List Int32) ++ sL 28) ++ stL k) ++ sL 29) ++ ctL (5 + slen (stPh.getD k 0)) 32) ++ sL 34) ++ sL 35) ++ sL 29) from (by first | (simp [hdL, c103, c117]; done) | (simp [hdL, c103, (show cz = 1 from (by omega))]; done)))]; exact hz_135, by omega, by rw [(show hdL k ln t (be4 fe (e0 * 64 + 56)) cz = (((((((([] : List Int32) ++ sL 28) ++ stL k) ++ sL 29) ++ ctL (5 + slen (stPh.getD k 0)) 32) ++ sL 34) ++ sL 35) ++ sL 29) from (by first | (simp [hdL, c103, c117]; done) | (simp [hdL, c103, (show cz = 1 from (by omega))]; done)))]; exact hl_135, by assumption⟩
  · skip
    have c35 : k = 0 := (hG.2.2.2.2.2.1.2 k 0 (by show k < 9; omega) (by decide) (Option.some.inj c35))
    refine lv_aload_n hx hb dX0_writeHead_38 rfl (lv_at hl 0 rfl) ?_
    refine lv_aload_n hx hb dX0_writeHead_39 rfl (lv_at hl 2 rfl) ?_
    refine lv_iload_n hx hb dX0_writeHead_40 rfl (lv_at hl 3 rfl) ?_
    have hes2 := hes (Or.inl c35)
    refine q_top (v := nI e0) (hxf (Or.inl c35)) ?_
    refine ct_callV (wr := [(an, .inr (0, [.ref ka])), (ka, .inr (3, [.int (nI 66047), .ref q1_28, .int (nI (s1_19 + slen 29))])), (q1_28, .inl (gB g, n1_28, .inl f1_28))]) hx hb hml hown hts hK hP hD hS hA hG hl.1 (c_lengthOf l g ho hi he op qe ne se fe e0 (by omega) (by omega) (by omega)) (cwV 1 hts gX0_writeHead_X6_lengthOf rfl rfl rfl (by decide +kernel) ⟨Nat.le_of_ble_eq_true rfl, Nat.le_of_ble_eq_true rfl⟩) (va_recv hK hP (ci := 4) (q0 := 0) rfl rfl) rfl rfl (Nat.le_of_ble_eq_true rfl) dX0_writeHead_41 ⟨show 0 + 0 ≤ 0 by omega, show 0 + 0 ≤ 0 by omega⟩ [0, 1, 2] [3, 4, 5] rfl rfl (by decide) (by decide) (by decide) (fun r_ w_ H locs hp_ hP hD hS => ?_)
    obtain ⟨rfl, rfl⟩ := hp_
    have hP : va_P (gD g) vwCl [(an, .inr (0, [.ref ka])), (ka, .inr (3, [.int (nI 66047), .ref q1_28, .int (nI (s1_19 + slen 29))])), (q1_28, .inl (gB g, n1_28, .inl f1_28)), (ho, .inr (4, [.ref hi, .ref he, .int (nI op)])), (he, .inr (3, [.int (nI 4096), .ref qe, .int (nI se)])), (qe, .inl (gB g, ne, .inl fe))] H := hP
    have hD : va_D A [(an, .inr (0, [.ref ka])), (ka, .inr (3, [.int (nI 66047), .ref q1_28, .int (nI (s1_19 + slen 29))])), (q1_28, .inl (gB g, n1_28, .inl f1_28)), (ho, .inr (4, [.ref hi, .ref he, .int (nI op)])), (he, .inr (3, [.int (nI 4096), .ref qe, .int (nI se)])), (qe, .inl (gB g, ne, .inl fe))] := hD
    refine W.eq (g2 := F0 m 44 ls [.int (be4 fe (e0 * 64 + 52)), .ref an]) rfl ?_
    refine q_top (v := nI ln) (hln c35) ?_
    refine lv_aload hx hb dX0_writeHead_44 (lv_at hl 4 rfl) ?_
    refine ct_callV (wr := [(ho, .inr (4, [.ref hi, .ref he, .int (nI op)])), (he, .inr (3, [.int (nI 4096), .ref qe, .int (nI se)])), (qe, .inl (gB g, ne, .inl fe))]) hx hb hml hown hts hK hP hD hS hA hG hl.1 (c_writeContent l g an ka q1_28 n1_28 (s1_19 + slen 29) f1_28 ((((([] : List Int32) ++ sL 28) ++ stL k) ++ sL 29)) ln t (by omega) (by omega) (by omega) (by assumption) (by first | exact hz_28 | omega) (by exact hl_28) (by omega) (by first | assumption | decide | omega) (by omega)) (cwV 2 hts gX0_writeHead_X0_writeContent rfl rfl rfl (by decide +kernel) ⟨Nat.le_of_ble_eq_true rfl, Nat.le_of_ble_eq_true rfl⟩) (va_recv hK hP (ci := 0) (q0 := 0) rfl rfl) rfl rfl (Nat.le_of_ble_eq_true rfl) dX0_writeHead_46 ⟨show 0 + 0 ≤ 0 by omega, show 0 + 0 ≤ 0 by omega⟩ [0, 1, 2] [3, 4, 5] rfl rfl (by decide) (by decide) (by decide) (fun r_ w_ H locs hp_ hP hD hS => ?_)
    obtain ⟨q1_46, n1_46, s1_46, f1_46, rfl, rfl, en_46, es_46, el_46, ft_46⟩ := hp_
    have hP : va_P (gD g) vwCl [(ho, .inr (4, [.ref hi, .ref he, .int (nI op)])), (he, .inr (3, [.int (nI 4096), .ref qe, .int (nI se)])), (qe, .inl (gB g, ne, .inl fe)), (an, .inr (0, [.ref ka])), (ka, .inr (3, [.int (nI 66047), .ref q1_46, .int (nI s1_46)])), (q1_46, .inl (gB g, n1_46, .inl f1_46))] H := hP
    have hD : va_D A [(ho, .inr (4, [.ref hi, .ref he, .int (nI op)])), (he, .inr (3, [.int (nI 4096), .ref qe, .int (nI se)])), (qe, .inl (gB g, ne, .inl fe)), (an, .inr (0, [.ref ka])), (ka, .inr (3, [.int (nI 66047), .ref q1_46, .int (nI s1_46)])), (q1_46, .inl (gB g, n1_46, .inl f1_46))] := hD
    have en_46 : n1_46 = n1_28 := en_46
    have es_46 : s1_46 = (((((([] : List Int32) ++ sL 28) ++ stL k) ++ sL 29)) ++ ctL ln t).length := es_46
    have el_46 : hasL f1_46 0 (((((([] : List Int32) ++ sL 28) ++ stL k) ++ sL 29)) ++ ctL ln t) := el_46
    have ft_46 : sb_Fit f1_46 := ft_46
    refine W.eq (g2 := F0 m 49 ls []) rfl ?_
    have hz_46 : s1_46 = (((([] : List Int32) ++ sL 28) ++ stL k) ++ sL 29).length + (ctL ln t).length := by rw [es_46, List.length_append]
    refine lv_goto (tgt := 76) hx hb dX0_writeHead_49 (by decide) ?_
    refine lv_aload_n hx hb dX0_writeHead_76 rfl (lv_at hl 1 rfl) ?_
    refine va_gets hx hb ((hG.2.2.2.2.2.1.1 0 (by decide)).1) hS hown hf36 (fun _ h9 => h9) dX0_writeHead_77 ?_
    refine lv_acmp_eq (rx := some (gE g k)) (ry := some (gE g 0)) (tgt := 90) hx hb dX0_writeHead_80 (by decide) (fun _ => ?_) (fun c80 => absurd (show some (gE g k) = some (gE g 0) by rw [c35]) c80)
    refine lv_aload_n hx hb dX0_writeHead_90 rfl (lv_at hl 0 rfl) ?_
    refine lv_aload_n hx hb dX0_writeHead_91 rfl (lv_at hl 2 rfl) ?_
    refine lv_iload_n hx hb dX0_writeHead_92 rfl (lv_at hl 3 rfl) ?_
    have hk01 : k = 0 ∨ k = 1 := by first | exact Or.inl c35 | exact Or.inr c35
    have hes2 := hes hk01
    refine q_top (v := nI e0) (hxf hk01) ?_
    refine ct_callV (wr := [(an, .inr (0, [.ref ka])), (ka, .inr (3, [.int (nI 66047), .ref q1_46, .int (nI s1_46)])), (q1_46, .inl (gB g, n1_46, .inl f1_46))]) hx hb hml hown hts hK hP hD hS hA hG hl.1 (c_checkOf l g ho hi he op qe ne se fe e0 (by omega) (by omega) (by omega)) (cwV 1 hts gX0_writeHead_X6_checkOf rfl rfl rfl (by decide +kernel) ⟨Nat.le_of_ble_eq_true rfl, Nat.le_of_ble_eq_true rfl⟩) (va_recv hK hP (ci := 4) (q0 := 0) rfl rfl) rfl rfl (Nat.le_of_ble_eq_true rfl) dX0_writeHead_93 ⟨show 0 + 0 ≤ 0 by omega, show 0 + 0 ≤ 0 by omega⟩ [0, 1, 2] [3, 4, 5] rfl rfl (by decide) (by decide) (by decide) (fun r_ w_ H locs hp_ hP hD hS => ?_)
    obtain ⟨rfl, rfl⟩ := hp_
    have hP : va_P (gD g) vwCl [(an, .inr (0, [.ref ka])), (ka, .inr (3, [.int (nI 66047), .ref q1_46, .int (nI s1_46)])), (q1_46, .inl (gB g, n1_46, .inl f1_46)), (ho, .inr (4, [.ref hi, .ref he, .int (nI op)])), (he, .inr (3, [.int (nI 4096), .ref qe, .int (nI se)])), (qe, .inl (gB g, ne, .inl fe))] H := hP
    have hD : va_D A [(an, .inr (0, [.ref ka])), (ka, .inr (3, [.int (nI 66047), .ref q1_46, .int (nI s1_46)])), (q1_46, .inl (gB g, n1_46, .inl f1_46)), (ho, .inr (4, [.ref hi, .ref he, .int (nI op)])), (he, .inr (3, [.int (nI 4096), .ref qe, .int (nI se)])), (qe, .inl (gB g, ne, .inl fe))] := hD
    refine W.eq (g2 := F0 m 96 ls [.int (be4 fe (e0 * 64 + 56)), .ref an]) rfl ?_
    refine ct_callV (wr := [(ho, .inr (4, [.ref hi, .ref he, .int (nI op)])), (he, .inr (3, [.int (nI 4096), .ref qe, .int (nI se)])), (qe, .inl (gB g, ne, .inl fe))]) hx hb hml hown hts hK hP hD hS hA hG hl.1 (c_writeMark l g an ka q1_46 n1_46 s1_46 f1_46 (((((([] : List Int32) ++ sL 28) ++ stL k) ++ sL 29) ++ ctL ln t)) (be4 fe (e0 * 64 + 56)) (by omega) (by omega) (by omega) (by assumption) (by first | exact es_46 | omega) (by exact el_46) (by omega)) (cwV 1 hts gX0_writeHead_X0_writeMark rfl rfl rfl (by decide +kernel) ⟨Nat.le_of_ble_eq_true rfl, Nat.le_of_ble_eq_true rfl⟩) (va_recv hK hP (ci := 0) (q0 := 0) rfl rfl) rfl rfl (Nat.le_of_ble_eq_true rfl) dX0_writeHead_96 ⟨show 0 + 0 ≤ 0 by omega, show 0 + 0 ≤ 0 by omega⟩ [0, 1, 2] [3, 4, 5] rfl rfl (by decide) (by decide) (by decide) (fun r_ w_ H locs hp_ hP hD hS => ?_)
    obtain ⟨q1_96, n1_96, s1_96, f1_96, rfl, rfl, en_96, es_96, el_96, ft_96⟩ := hp_
    have hP : va_P (gD g) vwCl [(ho, .inr (4, [.ref hi, .ref he, .int (nI op)])), (he, .inr (3, [.int (nI 4096), .ref qe, .int (nI se)])), (qe, .inl (gB g, ne, .inl fe)), (an, .inr (0, [.ref ka])), (ka, .inr (3, [.int (nI 66047), .ref q1_96, .int (nI s1_96)])), (q1_96, .inl (gB g, n1_96, .inl f1_96))] H := hP
    have hD : va_D A [(ho, .inr (4, [.ref hi, .ref he, .int (nI op)])), (he, .inr (3, [.int (nI 4096), .ref qe, .int (nI se)])), (qe, .inl (gB g, ne, .inl fe)), (an, .inr (0, [.ref ka])), (ka, .inr (3, [.int (nI 66047), .ref q1_96, .int (nI s1_96)])), (q1_96, .inl (gB g, n1_96, .inl f1_96))] := hD
    have en_96 : n1_96 = n1_46 := en_96
    have es_96 : s1_96 = ((((((([] : List Int32) ++ sL 28) ++ stL k) ++ sL 29) ++ ctL ln t)) ++ mkP (be4 fe (e0 * 64 + 56))).length := es_96
    have el_96 : hasL f1_96 0 ((((((([] : List Int32) ++ sL 28) ++ stL k) ++ sL 29) ++ ctL ln t)) ++ mkP (be4 fe (e0 * 64 + 56))) := el_96
    have ft_96 : sb_Fit f1_96 := ft_96
    refine W.eq (g2 := F0 m 99 ls []) rfl ?_
    have hz_96 : s1_96 = ((((([] : List Int32) ++ sL 28) ++ stL k) ++ sL 29) ++ ctL ln t).length + (mkP (be4 fe (e0 * 64 + 56))).length := by rw [es_96, List.length_append]
    refine lv_aload_n hx hb dX0_writeHead_99 rfl (lv_at hl 1 rfl) ?_
    refine va_gets hx hb ((hG.2.2.2.2.2.1.1 4 (by decide)).1) hS hown hf73 (fun _ h9 => h9) dX0_writeHead_100 ?_
    refine lv_acmp_ne (rx := some (gE g k)) (ry := some (gE g 4)) (tgt := 115) hx hb dX0_writeHead_103 (by decide) (fun _ => ?_) (fun c103 => absurd (c35.symm.trans (hG.2.2.2.2.2.1.2 k 4 (by show k < 9; omega) (by decide) (Option.some.inj c103))) (by decide))
    refine lv_iload hx hb dX0_writeHead_115 (lv_at hl 5 rfl) ?_
    refine lv_if_eq (tgt := 129) hx hb dX0_writeHead_117 (by decide) (fun c117 => ?_) (fun c117 => ?_)
    · skip
      have c117 : cz = 0 := (nI_eq (a := cz) (b := 0) (by omega) (by omega)).mp c117
      refine lv_aload_n hx hb dX0_writeHead_129 rfl (lv_at hl 0 rfl) ?_
      refine va_get (D := gD g) (ci := 0) (v := .ref ka) (C := RX0) (T := TX0) (N := 1) hx hb hts hinX0 hown hK hP 3 rfl rfl 0 (by decide) hf17 (fun _ h9 => h9) rfl dX0_writeHead_130 ?_
      refine va_ldcS hx hb hown ((hG.1 29 (by decide)).2.2.2.2) dX0_writeHead_133 ?_
      refine ct_callV (wr := [(ho, .inr (4, [.ref hi, .ref he, .int (nI op)])), (he, .inr (3, [.int (nI 4096), .ref qe, .int (nI se)])), (qe, .inl (gB g, ne, .inl fe)), (an, .inr (0, [.ref ka]))]) hx hb hml hown hts hK hP hD hS hA hG hl.1 (c_addTextF l g ka q1_96 66047 n1_96 s1_96 f1_96 29 (by omega) (by omega) (by omega) (by omega) (by assumption) (by first | assumption | decide) (by first | omega | (have e_ : slen _ ≤ 31 := slen_le _ (by first | assumption | decide); omega))) (cwV 1 hts gX0_writeHead_X4_addText rfl rfl rfl (by decide +kernel) ⟨Nat.le_of_ble_eq_true rfl, Nat.le_of_ble_eq_true rfl⟩) (va_recv hK hP (ci := 3) (q0 := 4) rfl rfl) rfl rfl (Nat.le_of_ble_eq_true rfl) dX0_writeHead_135 ⟨show 0 + 0 ≤ 0 by omega, show 0 + 0 ≤ 0 by omega⟩ [4, 5] [0, 1, 2, 3] rfl rfl (by decide) (by decide) (by decide) (fun r_ w_ H locs hp_ hP hD hS => ?_)
      obtain ⟨q1_135, n1_135, f1_135, rfl, rfl, en_135, ef_135, et_135, ft_135⟩ := hp_
      have hP : va_P (gD g) vwCl [(ho, .inr (4, [.ref hi, .ref he, .int (nI op)])), (he, .inr (3, [.int (nI 4096), .ref qe, .int (nI se)])), (qe, .inl (gB g, ne, .inl fe)), (an, .inr (0, [.ref ka])), (ka, .inr (3, [.int (nI 66047), .ref q1_135, .int (nI (s1_96 + slen 29))])), (q1_135, .inl (gB g, n1_135, .inl f1_135))] H := hP
      have hD : va_D A [(ho, .inr (4, [.ref hi, .ref he, .int (nI op)])), (he, .inr (3, [.int (nI 4096), .ref qe, .int (nI se)])), (qe, .inl (gB g, ne, .inl fe)), (an, .inr (0, [.ref ka])), (ka, .inr (3, [.int (nI 66047), .ref q1_135, .int (nI (s1_96 + slen 29))])), (q1_135, .inl (gB g, n1_135, .inl f1_135))] := hD
      have en_135 : n1_135 = n1_96 := en_135
      have ef_135 : ∀ j, j < s1_96 → f1_135 j = f1_96 j := ef_135
      have et_135 : hasL f1_135 s1_96 (sL 29) := et_135
      have ft_135 : sb_Fit f1_135 := ft_135
      refine W.eq (g2 := F0 m 138 ls []) rfl ?_
      have hl_135 : hasL f1_135 0 ((((((([] : List Int32) ++ sL 28) ++ stL k) ++ sL 29) ++ ctL ln t) ++ mkP (be4 fe (e0 * 64 + 56))) ++ sL 29) := hasL_grow el_96 (by first | exact es_96 | omega) (fun j hj => ef_135 j hj) et_135
      have hz_135 : s1_96 + slen 29 = ((((((([] : List Int32) ++ sL 28) ++ stL k) ++ sL 29) ++ ctL ln t) ++ mkP (be4 fe (e0 * 64 + 56))) ++ sL 29).length := by rw [List.length_append, sLl]; omega
      refine ct_vret (w := [(an, .inr (0, [.ref ka])), (ka, .inr (3, [.int (nI 66047), .ref q1_135, .int (nI (s1_96 + slen 29))])), (q1_135, .inl (gB g, n1_135, .inl f1_135)), (ho, .inr (4, [.ref hi, .ref he, .int (nI op)])), (he, .inr (3, [.int (nI 4096), .ref qe, .int (nI se)])), (qe, .inl (gB g, ne, .inl fe))]) hx hb hr hlocks hQ hAe hK (hP.sub [3, 4, 5, 0, 1, 2] rfl) (hD.sub [3, 4, 5, 0, 1, 2] (by decide) rfl) hS (by omega) (by omega) dX0_writeHead_138 ?_
      exact ⟨q1_135, n1_135, s1_96 + slen 29, f1_135, rfl, rfl, by omega, by rw [(show hdL k ln t (be4 fe (e0 * 64 + 56)) cz = ((((((([] : List Int32) ++ sL 28) ++ stL k) ++ sL 29) ++ ctL ln t) ++ mkP (be4 fe (e0 * 64 + 56))) ++ sL 29) from (by first | (simp [hdL, c35, c117]; done) | (simp [hdL, c35, (show cz = 1 from (by omega))]; done)))]; exact hz_135, by omega, by rw [(show hdL k ln t (be4 fe (e0 * 64 + 56)) cz = ((((((([] : List Int32) ++ sL 28) ++ stL k) ++ sL 29) ++ ctL ln t) ++ mkP (be4 fe (e0 * 64 + 56))) ++ sL 29) from (by first | (simp [hdL, c35, c117]; done) | (simp [hdL, c35, (show cz = 1 from (by omega))]; done)))]; exact hl_135, by assumption⟩
    · skip
      have c117 : ¬ (cz = 0) := fun z => c117 ((nI_eq (a := cz) (b := 0) (by omega) (by omega)).mpr z)
      refine lv_aload_n hx hb dX0_writeHead_120 rfl (lv_at hl 0 rfl) ?_
      refine va_get (D := gD g) (ci := 0) (v := .ref ka) (C := RX0) (T := TX0) (N := 1) hx hb hts hinX0 hown hK hP 3 rfl rfl 0 (by decide) hf17 (fun _ h9 => h9) rfl dX0_writeHead_121 ?_
      refine va_ldcS hx hb hown ((hG.1 35 (by decide)).2.2.2.2) dX0_writeHead_124 ?_
      refine ct_callV (wr := [(ho, .inr (4, [.ref hi, .ref he, .int (nI op)])), (he, .inr (3, [.int (nI 4096), .ref qe, .int (nI se)])), (qe, .inl (gB g, ne, .inl fe)), (an, .inr (0, [.ref ka]))]) hx hb hml hown hts hK hP hD hS hA hG hl.1 (c_addTextF l g ka q1_96 66047 n1_96 s1_96 f1_96 35 (by omega) (by omega) (by omega) (by omega) (by assumption) (by first | assumption | decide) (by first | omega | (have e_ : slen _ ≤ 31 := slen_le _ (by first | assumption | decide); omega))) (cwV 1 hts gX0_writeHead_X4_addText rfl rfl rfl (by decide +kernel) ⟨Nat.le_of_ble_eq_true rfl, Nat.le_of_ble_eq_true rfl⟩) (va_recv hK hP (ci := 3) (q0 := 4) rfl rfl) rfl rfl (Nat.le_of_ble_eq_true rfl) dX0_writeHead_126 ⟨show 0 + 0 ≤ 0 by omega, show 0 + 0 ≤ 0 by omega⟩ [4, 5] [0, 1, 2, 3] rfl rfl (by decide) (by decide) (by decide) (fun r_ w_ H locs hp_ hP hD hS => ?_)
      obtain ⟨q1_126, n1_126, f1_126, rfl, rfl, en_126, ef_126, et_126, ft_126⟩ := hp_
      have hP : va_P (gD g) vwCl [(ho, .inr (4, [.ref hi, .ref he, .int (nI op)])), (he, .inr (3, [.int (nI 4096), .ref qe, .int (nI se)])), (qe, .inl (gB g, ne, .inl fe)), (an, .inr (0, [.ref ka])), (ka, .inr (3, [.int (nI 66047), .ref q1_126, .int (nI (s1_96 + slen 35))])), (q1_126, .inl (gB g, n1_126, .inl f1_126))] H := hP
      have hD : va_D A [(ho, .inr (4, [.ref hi, .ref he, .int (nI op)])), (he, .inr (3, [.int (nI 4096), .ref qe, .int (nI se)])), (qe, .inl (gB g, ne, .inl fe)), (an, .inr (0, [.ref ka])), (ka, .inr (3, [.int (nI 66047), .ref q1_126, .int (nI (s1_96 + slen 35))])), (q1_126, .inl (gB g, n1_126, .inl f1_126))] := hD
      have en_126 : n1_126 = n1_96 := en_126
      have ef_126 : ∀ j, j < s1_96 → f1_126 j = f1_96 j := ef_126
      have et_126 : hasL f1_126 s1_96 (sL 35) := et_126
      have ft_126 : sb_Fit f1_126 := ft_126
      refine W.eq (g2 := F0 m 129 ls []) rfl ?_
      have hl_126 : hasL f1_126 0 ((((((([] : List Int32) ++ sL 28) ++ stL k) ++ sL 29) ++ ctL ln t) ++ mkP (be4 fe (e0 * 64 + 56))) ++ sL 35) := hasL_grow el_96 (by first | exact es_96 | omega) (fun j hj => ef_126 j hj) et_126
      have hz_126 : s1_96 + slen 35 = ((((((([] : List Int32) ++ sL 28) ++ stL k) ++ sL 29) ++ ctL ln t) ++ mkP (be4 fe (e0 * 64 + 56))) ++ sL 35).length := by rw [List.length_append, sLl]; omega
      refine lv_aload_n hx hb dX0_writeHead_129 rfl (lv_at hl 0 rfl) ?_
      refine va_get (D := gD g) (ci := 0) (v := .ref ka) (C := RX0) (T := TX0) (N := 1) hx hb hts hinX0 hown hK hP 3 rfl rfl 0 (by decide) hf17 (fun _ h9 => h9) rfl dX0_writeHead_130 ?_
      refine va_ldcS hx hb hown ((hG.1 29 (by decide)).2.2.2.2) dX0_writeHead_133 ?_
      refine ct_callV (wr := [(ho, .inr (4, [.ref hi, .ref he, .int (nI op)])), (he, .inr (3, [.int (nI 4096), .ref qe, .int (nI se)])), (qe, .inl (gB g, ne, .inl fe)), (an, .inr (0, [.ref ka]))]) hx hb hml hown hts hK hP hD hS hA hG hl.1 (c_addTextF l g ka q1_126 66047 n1_126 (s1_96 + slen 35) f1_126 29 (by omega) (by omega) (by omega) (by omega) (by assumption) (by first | assumption | decide) (by first | omega | (have e_ : slen _ ≤ 31 := slen_le _ (by first | assumption | decide); omega))) (cwV 1 hts gX0_writeHead_X4_addText rfl rfl rfl (by decide +kernel) ⟨Nat.le_of_ble_eq_true rfl, Nat.le_of_ble_eq_true rfl⟩) (va_recv hK hP (ci := 3) (q0 := 4) rfl rfl) rfl rfl (Nat.le_of_ble_eq_true rfl) dX0_writeHead_135 ⟨show 0 + 0 ≤ 0 by omega, show 0 + 0 ≤ 0 by omega⟩ [4, 5] [0, 1, 2, 3] rfl rfl (by decide) (by decide) (by decide) (fun r_ w_ H locs hp_ hP hD hS => ?_)
      obtain ⟨q1_135, n1_135, f1_135, rfl, rfl, en_135, ef_135, et_135, ft_135⟩ := hp_
      have hP : va_P (gD g) vwCl [(ho, .inr (4, [.ref hi, .ref he, .int (nI op)])), (he, .inr (3, [.int (nI 4096), .ref qe, .int (nI se)])), (qe, .inl (gB g, ne, .inl fe)), (an, .inr (0, [.ref ka])), (ka, .inr (3, [.int (nI 66047), .ref q1_135, .int (nI ((s1_96 + slen 35) + slen 29))])), (q1_135, .inl (gB g, n1_135, .inl f1_135))] H := hP
      have hD : va_D A [(ho, .inr (4, [.ref hi, .ref he, .int (nI op)])), (he, .inr (3, [.int (nI 4096), .ref qe, .int (nI se)])), (qe, .inl (gB g, ne, .inl fe)), (an, .inr (0, [.ref ka])), (ka, .inr (3, [.int (nI 66047), .ref q1_135, .int (nI ((s1_96 + slen 35) + slen 29))])), (q1_135, .inl (gB g, n1_135, .inl f1_135))] := hD
      have en_135 : n1_135 = n1_126 := en_135
      have ef_135 : ∀ j, j < (s1_96 + slen 35) → f1_135 j = f1_126 j := ef_135
      have et_135 : hasL f1_135 (s1_96 + slen 35) (sL 29) := et_135
      have ft_135 : sb_Fit f1_135 := ft_135
      refine W.eq (g2 := F0 m 138 ls []) rfl ?_
      have hl_135 : hasL f1_135 0 (((((((([] : List Int32) ++ sL 28) ++ stL k) ++ sL 29) ++ ctL ln t) ++ mkP (be4 fe (e0 * 64 + 56))) ++ sL 35) ++ sL 29) := hasL_grow hl_126 (by first | exact hz_126 | omega) (fun j hj => ef_135 j hj) et_135
      have hz_135 : (s1_96 + slen 35) + slen 29 = (((((((([] : List Int32) ++ sL 28) ++ stL k) ++ sL 29) ++ ctL ln t) ++ mkP (be4 fe (e0 * 64 + 56))) ++ sL 35) ++ sL 29).length := by rw [List.length_append, sLl]; omega
      refine ct_vret (w := [(an, .inr (0, [.ref ka])), (ka, .inr (3, [.int (nI 66047), .ref q1_135, .int (nI ((s1_96 + slen 35) + slen 29))])), (q1_135, .inl (gB g, n1_135, .inl f1_135)), (ho, .inr (4, [.ref hi, .ref he, .int (nI op)])), (he, .inr (3, [.int (nI 4096), .ref qe, .int (nI se)])), (qe, .inl (gB g, ne, .inl fe))]) hx hb hr hlocks hQ hAe hK (hP.sub [3, 4, 5, 0, 1, 2] rfl) (hD.sub [3, 4, 5, 0, 1, 2] (by decide) rfl) hS (by omega) (by omega) dX0_writeHead_138 ?_
      exact ⟨q1_135, n1_135, (s1_96 + slen 35) + slen 29, f1_135, rfl, rfl, by omega, by rw [(show hdL k ln t (be4 fe (e0 * 64 + 56)) cz = (((((((([] : List Int32) ++ sL 28) ++ stL k) ++ sL 29) ++ ctL ln t) ++ mkP (be4 fe (e0 * 64 + 56))) ++ sL 35) ++ sL 29) from (by first | (simp [hdL, c35, c117]; done) | (simp [hdL, c35, (show cz = 1 from (by omega))]; done)))]; exact hz_135, by omega, by rw [(show hdL k ln t (be4 fe (e0 * 64 + 56)) cz = (((((((([] : List Int32) ++ sL 28) ++ stL k) ++ sL 29) ++ ctL ln t) ++ mkP (be4 fe (e0 * 64 + 56))) ++ sL 35) ++ sL 29) from (by first | (simp [hdL, c35, c117]; done) | (simp [hdL, c35, (show cz = 1 from (by omega))]; done)))]; exact hl_135, by assumption⟩

set_option maxHeartbeats 4000000 in
set_option maxRecDepth 100000 in
theorem c_writeBody0 (l : Launch) (g : GT) (an : Nat) (ka : Nat) (qa : Nat) (na : Nat) (sa : Nat) (fz : Nat → Int32) (ho : Nat) (hi : Nat) (he : Nat) (op : Nat) (qi : Nat) (ni : Nat) (si : Nat) (fi : Nat → Int32) (qe : Nat) (ne : Nat) (se : Nat) (fe : Nat → Int32) (e0 : Nat) (pl : Nat) (ln : Nat) (ha1 : sa ≤ na) (ha2 : na ≤ 66047) (ha3 : 256 ≤ na) (hfz : sb_Fit fz) (hi1 : si ≤ ni) (hi2 : ni ≤ 65535) (he1 : se ≤ ne) (he2 : ne ≤ 4096) (hfi : sb_Fit fi) (hes : e0 * 64 + 64 ≤ se) (hpl : be4 fe (e0 * 64 + 48) = nI pl) (hln : be4 fe (e0 * 64 + 52) = nI ln) (hpn : pl + ln ≤ si) (hsa2 : sa ≤ 200) : CT l g yX0_writeBody wsX0_writeBody ({ frames := 3, cells := gcN na (sa + ln), slots := gsN 66047 na (sa + ln), locals := 86 } : Room) [.ref an, .ref (gE g 0), .ref ho, .int (nI e0)] [(an, .inr (0, [.ref ka])), (ka, .inr (3, [.int (nI 66047), .ref qa, .int (nI sa)])), (qa, .inl (gB g, na, .inl fz)), (ho, .inr (4, [.ref hi, .ref he, .int (nI op)])), (hi, .inr (3, [.int (nI 65535), .ref qi, .int (nI si)])), (qi, .inl (gB g, ni, .inl fi)), (he, .inr (3, [.int (nI 4096), .ref qe, .int (nI se)])), (qe, .inl (gB g, ne, .inl fe))] (fun r w => (∃ (q1 : Nat) (n1 : Nat) (f1 : Nat → Int32), r = none ∧ w = [(an, .inr (0, [.ref ka])), (ka, .inr (3, [.int (nI 66047), .ref q1, .int (nI (sa + ln))])), (q1, .inl (gB g, n1, .inl f1)), (ho, .inr (4, [.ref hi, .ref he, .int (nI op)])), (hi, .inr (3, [.int (nI 65535), .ref qi, .int (nI si)])), (qi, .inl (gB g, ni, .inl fi)), (he, .inr (3, [.int (nI 4096), .ref qe, .int (nI se)])), (qe, .inl (gB g, ne, .inl fe))] ∧ (n1 = cpN 66047 na (sa + ln)) ∧ (∀ j, j < sa → f1 j = fz j) ∧ (∀ j, j < ln → f1 (sa + j) = fi (pl + j)) ∧ (sb_Fit f1))) (gcN na (sa + ln)) (gsN 66047 na (sa + ln)) := by
  refine ct_of (cc := cX0_writeBody) (maxL := 4) (ret := none) (by decide) rfl (Nat.le_of_ble_eq_true rfl) ?_
  intro p e s m args below meth c A Q hx hb hr hml hown hts hlocks hnam hAe hQ hA hG hK hP hD hS ls hl
  have hl : lv_has ls 4 [(0, .ref an), (1, .ref (gE g 0)), (2, .ref ho), (3, .int (nI e0))] := hl
  have hown : s.vm.findClass RX0 = some m.cls := hown
  have hinX0 : ∀ w ∈ u_ws RX0 TX0 1, w ∈ wsX0_writeBody := by decide +kernel
  have hinX6 : ∀ w ∈ u_ws RX6 TX6 3, w ∈ wsX0_writeBody := by decide +kernel
  have hf17 := hts (.fieldLink RX0 17 "RequestReader$Answer" "bytes" "LRequestReader$Row;") (by decide +kernel)
  have hf36 := hts (.fieldLink RX0 36 "RequestReader$Status" "OK" "LRequestReader$Status;") (by decide +kernel)
  have hf80 : (Cond.fieldLinkNest RX0 80 "RequestReader$Store" "image" "LRequestReader$Row;" "RequestReader").before args s = true := va_Nw.use rfl (hG.2.2.2.2.2.2.2 _ (List.mem_of_getElem? (i := 0) rfl))
  refine lv_aload_n hx hb dX0_writeBody_0 rfl (lv_at hl 1 rfl) ?_
  refine va_gets hx hb ((hG.2.2.2.2.2.1.1 0 (by decide)).1) hS hown hf36 (fun _ h9 => h9) dX0_writeBody_1 ?_
  refine lv_acmp_ne (rx := some (gE g 0)) (ry := some (gE g 0)) (tgt := 31) hx hb dX0_writeBody_4 (by decide) (fun c4 => absurd rfl c4) (fun _ => ?_)
  refine lv_aload_n hx hb dX0_writeBody_7 rfl (lv_at hl 0 rfl) ?_
  refine va_get (D := gD g) (ci := 0) (v := .ref ka) (C := RX0) (T := TX0) (N := 1) hx hb hts hinX0 hown hK hP 0 rfl rfl 0 (by decide) hf17 (fun _ h9 => h9) rfl dX0_writeBody_8 ?_
  refine lv_aload_n hx hb dX0_writeBody_11 rfl (lv_at hl 2 rfl) ?_
  refine va_getN (D := gD g) (ci := 4) (v := .ref hi) (C := RX6) (T := TX6) (N := 3) hx hb hts hinX6 hown hK hP 3 rfl rfl 0 (by decide) hf80 (fun _ h9 => h9) rfl dX0_writeBody_12 ?_
  refine lv_aload_n hx hb dX0_writeBody_15 rfl (lv_at hl 2 rfl) ?_
  refine lv_iload_n hx hb dX0_writeBody_16 rfl (lv_at hl 3 rfl) ?_
  refine ct_callV (wr := [(an, .inr (0, [.ref ka])), (ka, .inr (3, [.int (nI 66047), .ref qa, .int (nI sa)])), (qa, .inl (gB g, na, .inl fz)), (hi, .inr (3, [.int (nI 65535), .ref qi, .int (nI si)])), (qi, .inl (gB g, ni, .inl fi))]) hx hb hml hown hts hK hP hD hS hA hG hl.1 (c_placeOf l g ho hi he op qe ne se fe e0 (by omega) (by omega) (by omega)) (cwV 1 hts gX0_writeBody_X6_placeOf rfl rfl rfl (by decide +kernel) ⟨Nat.le_of_ble_eq_true rfl, Nat.le_of_ble_eq_true rfl⟩) (va_recv hK hP (ci := 4) (q0 := 3) rfl rfl) rfl rfl (Nat.le_of_ble_eq_true rfl) dX0_writeBody_17 ⟨show 0 + 0 ≤ gcN na (sa + ln) by first | omega | exact Nat.zero_le _, show 0 + 0 ≤ gsN 66047 na (sa + ln) by first | omega | exact Nat.zero_le _⟩ [3, 6, 7] [0, 1, 2, 4, 5] rfl rfl (by decide) (by decide) (by decide) (fun r_ w_ H locs hp_ hP hD hS => ?_)
  obtain ⟨rfl, rfl⟩ := hp_
  have hP : va_P (gD g) vwCl [(an, .inr (0, [.ref ka])), (ka, .inr (3, [.int (nI 66047), .ref qa, .int (nI sa)])), (qa, .inl (gB g, na, .inl fz)), (hi, .inr (3, [.int (nI 65535), .ref qi, .int (nI si)])), (qi, .inl (gB g, ni, .inl fi)), (ho, .inr (4, [.ref hi, .ref he, .int (nI op)])), (he, .inr (3, [.int (nI 4096), .ref qe, .int (nI se)])), (qe, .inl (gB g, ne, .inl fe))] H := hP
  have hD : va_D A [(an, .inr (0, [.ref ka])), (ka, .inr (3, [.int (nI 66047), .ref qa, .int (nI sa)])), (qa, .inl (gB g, na, .inl fz)), (hi, .inr (3, [.int (nI 65535), .ref qi, .int (nI si)])), (qi, .inl (gB g, ni, .inl fi)), (ho, .inr (4, [.ref hi, .ref he, .int (nI op)])), (he, .inr (3, [.int (nI 4096), .ref qe, .int (nI se)])), (qe, .inl (gB g, ne, .inl fe))] := hD
  refine W.eq (g2 := F0 m 20 ls [.int (be4 fe (e0 * 64 + 48)), .ref hi, .ref ka]) rfl ?_
  refine q_top (v := nI pl) hpl ?_
  refine lv_aload_n hx hb dX0_writeBody_20 rfl (lv_at hl 2 rfl) ?_
  refine lv_iload_n hx hb dX0_writeBody_21 rfl (lv_at hl 3 rfl) ?_
  refine ct_callV (wr := [(an, .inr (0, [.ref ka])), (ka, .inr (3, [.int (nI 66047), .ref qa, .int (nI sa)])), (qa, .inl (gB g, na, .inl fz)), (hi, .inr (3, [.int (nI 65535), .ref qi, .int (nI si)])), (qi, .inl (gB g, ni, .inl fi))]) hx hb hml hown hts hK hP hD hS hA hG hl.1 (c_lengthOf l g ho hi he op qe ne se fe e0 (by omega) (by omega) (by omega)) (cwV 1 hts gX0_writeBody_X6_lengthOf rfl rfl rfl (by decide +kernel) ⟨Nat.le_of_ble_eq_true rfl, Nat.le_of_ble_eq_true rfl⟩) (va_recv hK hP (ci := 4) (q0 := 5) rfl rfl) rfl rfl (Nat.le_of_ble_eq_true rfl) dX0_writeBody_22 ⟨show 0 + 0 ≤ gcN na (sa + ln) by first | omega | exact Nat.zero_le _, show 0 + 0 ≤ gsN 66047 na (sa + ln) by first | omega | exact Nat.zero_le _⟩ [5, 6, 7] [0, 1, 2, 3, 4] rfl rfl (by decide) (by decide) (by decide) (fun r_ w_ H locs hp_ hP hD hS => ?_)
  obtain ⟨rfl, rfl⟩ := hp_
  have hP : va_P (gD g) vwCl [(an, .inr (0, [.ref ka])), (ka, .inr (3, [.int (nI 66047), .ref qa, .int (nI sa)])), (qa, .inl (gB g, na, .inl fz)), (hi, .inr (3, [.int (nI 65535), .ref qi, .int (nI si)])), (qi, .inl (gB g, ni, .inl fi)), (ho, .inr (4, [.ref hi, .ref he, .int (nI op)])), (he, .inr (3, [.int (nI 4096), .ref qe, .int (nI se)])), (qe, .inl (gB g, ne, .inl fe))] H := hP
  have hD : va_D A [(an, .inr (0, [.ref ka])), (ka, .inr (3, [.int (nI 66047), .ref qa, .int (nI sa)])), (qa, .inl (gB g, na, .inl fz)), (hi, .inr (3, [.int (nI 65535), .ref qi, .int (nI si)])), (qi, .inl (gB g, ni, .inl fi)), (ho, .inr (4, [.ref hi, .ref he, .int (nI op)])), (he, .inr (3, [.int (nI 4096), .ref qe, .int (nI se)])), (qe, .inl (gB g, ne, .inl fe))] := hD
  refine W.eq (g2 := F0 m 25 ls [.int (be4 fe (e0 * 64 + 52)), .int (nI pl), .ref hi, .ref ka]) rfl ?_
  refine q_top (v := nI ln) hln ?_
  refine ct_callV (wr := [(an, .inr (0, [.ref ka])), (ho, .inr (4, [.ref hi, .ref he, .int (nI op)])), (he, .inr (3, [.int (nI 4096), .ref qe, .int (nI se)])), (qe, .inl (gB g, ne, .inl fe))]) hx hb hml hown hts hK hP hD hS hA hG hl.1 (c_addRange l g ka qa 66047 na sa fz hi qi 65535 ni si fi pl ln (by omega) (by omega) (by omega) (by omega) (by assumption) (by omega) (by omega) (by omega) (by assumption) (by omega)) (cwV 3 hts gX0_writeBody_X4_addRange rfl rfl rfl (by decide +kernel) ⟨Nat.le_of_ble_eq_true rfl, Nat.le_of_ble_eq_true rfl⟩) (va_recv hK hP (ci := 3) (q0 := 1) rfl rfl) rfl rfl (Nat.le_of_ble_eq_true rfl) dX0_writeBody_25 ⟨show 0 + (gcN na (sa + ln)) ≤ gcN na (sa + ln) by first | omega | exact Nat.zero_le _, show 0 + (gsN 66047 na (sa + ln)) ≤ gsN 66047 na (sa + ln) by first | omega | exact Nat.zero_le _⟩ [1, 2, 3, 4] [0, 5, 6, 7] rfl rfl (by decide) (by decide) (by decide) (fun r_ w_ H locs hp_ hP hD hS => ?_)
  obtain ⟨q1_25, n1_25, f1_25, rfl, rfl, en_25, ef_25, ec_25, ft_25⟩ := hp_
  have hP : va_P (gD g) vwCl [(an, .inr (0, [.ref ka])), (ho, .inr (4, [.ref hi, .ref he, .int (nI op)])), (he, .inr (3, [.int (nI 4096), .ref qe, .int (nI se)])), (qe, .inl (gB g, ne, .inl fe)), (ka, .inr (3, [.int (nI 66047), .ref q1_25, .int (nI (sa + ln))])), (q1_25, .inl (gB g, n1_25, .inl f1_25)), (hi, .inr (3, [.int (nI 65535), .ref qi, .int (nI si)])), (qi, .inl (gB g, ni, .inl fi))] H := hP
  have hD : va_D A [(an, .inr (0, [.ref ka])), (ho, .inr (4, [.ref hi, .ref he, .int (nI op)])), (he, .inr (3, [.int (nI 4096), .ref qe, .int (nI se)])), (qe, .inl (gB g, ne, .inl fe)), (ka, .inr (3, [.int (nI 66047), .ref q1_25, .int (nI (sa + ln))])), (q1_25, .inl (gB g, n1_25, .inl f1_25)), (hi, .inr (3, [.int (nI 65535), .ref qi, .int (nI si)])), (qi, .inl (gB g, ni, .inl fi))] := hD
  have en_25 : n1_25 = cpN 66047 na (sa + ln) := en_25
  have ef_25 : ∀ j, j < sa → f1_25 j = fz j := ef_25
  have ec_25 : ∀ j, j < ln → f1_25 (sa + j) = fi (pl + j) := ec_25
  have ft_25 : sb_Fit f1_25 := ft_25
  refine W.widen (k := gcN na (sa + ln)) (n := gsN 66047 na (sa + ln)) (by omega) (by omega) ?_
  refine W.eq (g2 := F0 m 28 ls []) rfl ?_
  refine lv_goto (tgt := 52) hx hb dX0_writeBody_28 (by decide) ?_
  refine ct_vret (w := [(an, .inr (0, [.ref ka])), (ka, .inr (3, [.int (nI 66047), .ref q1_25, .int (nI (sa + ln))])), (q1_25, .inl (gB g, n1_25, .inl f1_25)), (ho, .inr (4, [.ref hi, .ref he, .int (nI op)])), (hi, .inr (3, [.int (nI 65535), .ref qi, .int (nI si)])), (qi, .inl (gB g, ni, .inl fi)), (he, .inr (3, [.int (nI 4096), .ref qe, .int (nI se)])), (qe, .inl (gB g, ne, .inl fe))]) hx hb hr hlocks hQ hAe hK (hP.sub [0, 4, 5, 1, 6, 7, 2, 3] rfl) (hD.sub [0, 4, 5, 1, 6, 7, 2, 3] (by decide) rfl) hS (by first | omega | exact Nat.zero_le _) (by first | omega | exact Nat.zero_le _) dX0_writeBody_52 ?_
  exact ⟨q1_25, n1_25, f1_25, rfl, rfl, by assumption, by assumption, by assumption, by assumption⟩

set_option maxHeartbeats 4000000 in
set_option maxRecDepth 100000 in
theorem c_writeBodyN (l : Launch) (g : GT) (an : Nat) (ka : Nat) (qa : Nat) (na : Nat) (sa : Nat) (fz : Nat → Int32) (l0 : List Int32) (ho : Nat) (hi : Nat) (he : Nat) (op : Nat) (k : Nat) (xf : Int32) (ha1 : sa ≤ na) (ha2 : na ≤ 66047) (ha3 : 256 ≤ na) (hfz : sb_Fit fz) (hla : sa = l0.length) (hlf : hasL fz 0 l0) (hk9 : k < 9) (hk0 : ¬ k = 0) (hlb : l0.length ≤ 200) : CT l g yX0_writeBody wsX0_writeBody ({ frames := 6, cells := 0, slots := 0, locals := 128 } : Room) [.ref an, .ref (gE g k), .ref ho, .int xf] [(an, .inr (0, [.ref ka])), (ka, .inr (3, [.int (nI 66047), .ref qa, .int (nI sa)])), (qa, .inl (gB g, na, .inl fz)), (ho, .inr (4, [.ref hi, .ref he, .int (nI op)]))] (fun r w => (∃ (q1 : Nat) (n1 : Nat) (s1 : Nat) (f1 : Nat → Int32), r = none ∧ w = [(an, .inr (0, [.ref ka])), (ka, .inr (3, [.int (nI 66047), .ref q1, .int (nI s1)])), (q1, .inl (gB g, n1, .inl f1)), (ho, .inr (4, [.ref hi, .ref he, .int (nI op)]))] ∧ (n1 = na) ∧ (s1 = (if k = 1 then l0 else l0 ++ stL k ++ [nI 10]).length) ∧ (hasL f1 0 (if k = 1 then l0 else l0 ++ stL k ++ [nI 10])) ∧ (sb_Fit f1))) (0) (0) := by
  refine ct_of (cc := cX0_writeBody) (maxL := 4) (ret := none) (by decide) rfl (Nat.le_of_ble_eq_true rfl) ?_
  intro p e s m args below meth c A Q hx hb hr hml hown hts hlocks hnam hAe hQ hA hG hK hP hD hS ls hl
  have hl : lv_has ls 4 [(0, .ref an), (1, .ref (gE g k)), (2, .ref ho), (3, .int xf)] := hl
  have hown : s.vm.findClass RX0 = some m.cls := hown
  have hinX0 : ∀ w ∈ u_ws RX0 TX0 1, w ∈ wsX0_writeBody := by decide +kernel
  have hf17 := hts (.fieldLink RX0 17 "RequestReader$Answer" "bytes" "LRequestReader$Row;") (by decide +kernel)
  have hf36 := hts (.fieldLink RX0 36 "RequestReader$Status" "OK" "LRequestReader$Status;") (by decide +kernel)
  have hf52 := hts (.fieldLink RX0 52 "RequestReader$Status" "NOT_MODIFIED" "LRequestReader$Status;") (by decide +kernel)
  have hst := stL_le hk9
  refine lv_aload_n hx hb dX0_writeBody_0 rfl (lv_at hl 1 rfl) ?_
  refine va_gets hx hb ((hG.2.2.2.2.2.1.1 0 (by decide)).1) hS hown hf36 (fun _ h9 => h9) dX0_writeBody_1 ?_
  refine lv_acmp_ne (rx := some (gE g k)) (ry := some (gE g 0)) (tgt := 31) hx hb dX0_writeBody_4 (by decide) (fun c4 => ?_) (fun c4 => ?_)
  · skip
    have c4 : ¬ k = 0 := fun z => c4 (by rw [z])
    refine lv_aload_n hx hb dX0_writeBody_31 rfl (lv_at hl 1 rfl) ?_
    refine va_gets hx hb ((hG.2.2.2.2.2.1.1 1 (by decide)).1) hS hown hf52 (fun _ h9 => h9) dX0_writeBody_32 ?_
    refine lv_acmp_eq (rx := some (gE g k)) (ry := some (gE g 1)) (tgt := 52) hx hb dX0_writeBody_35 (by decide) (fun c35 => ?_) (fun c35 => ?_)
    · skip
      have c35 : k = 1 := (hG.2.2.2.2.2.1.2 k 1 (by show k < 9; omega) (by decide) (Option.some.inj c35))
      refine ct_vret (w := [(an, .inr (0, [.ref ka])), (ka, .inr (3, [.int (nI 66047), .ref qa, .int (nI sa)])), (qa, .inl (gB g, na, .inl fz)), (ho, .inr (4, [.ref hi, .ref he, .int (nI op)]))]) hx hb hr hlocks hQ hAe hK (hP.sub [0, 1, 2, 3] rfl) (hD.sub [0, 1, 2, 3] (by decide) rfl) hS (by omega) (by omega) dX0_writeBody_52 ?_
      exact ⟨qa, na, sa, fz, rfl, rfl, by omega, by rw [if_pos c35]; exact hla, by rw [if_pos c35]; exact hlf, by assumption⟩
    · skip
      have c35 : ¬ k = 1 := fun z => c35 (by rw [z])
      refine lv_aload_n hx hb dX0_writeBody_38 rfl (lv_at hl 0 rfl) ?_
      refine lv_aload_n hx hb dX0_writeBody_39 rfl (lv_at hl 1 rfl) ?_
      refine ct_callV (wr := [(ho, .inr (4, [.ref hi, .ref he, .int (nI op)]))]) hx hb hml hown hts hK hP hD hS hA hG hl.1 (c_writeStatus l g an ka qa na sa fz l0 k (by omega) (by omega) (by omega) (by assumption) (by first | exact hla | omega) (by exact hlf) (by first | assumption | decide | omega) (by omega)) (cwV 1 hts gX0_writeBody_X0_writeStatus rfl rfl rfl (by decide +kernel) ⟨Nat.le_of_ble_eq_true rfl, Nat.le_of_ble_eq_true rfl⟩) (va_recv hK hP (ci := 0) (q0 := 0) rfl rfl) rfl rfl (Nat.le_of_ble_eq_true rfl) dX0_writeBody_40 ⟨show 0 + 0 ≤ 0 by omega, show 0 + 0 ≤ 0 by omega⟩ [0, 1, 2] [3] rfl rfl (by decide) (by decide) (by decide) (fun r_ w_ H locs hp_ hP hD hS => ?_)
      obtain ⟨q1_40, n1_40, s1_40, f1_40, rfl, rfl, en_40, es_40, el_40, ft_40⟩ := hp_
      have hP : va_P (gD g) vwCl [(ho, .inr (4, [.ref hi, .ref he, .int (nI op)])), (an, .inr (0, [.ref ka])), (ka, .inr (3, [.int (nI 66047), .ref q1_40, .int (nI s1_40)])), (q1_40, .inl (gB g, n1_40, .inl f1_40))] H := hP
      have hD : va_D A [(ho, .inr (4, [.ref hi, .ref he, .int (nI op)])), (an, .inr (0, [.ref ka])), (ka, .inr (3, [.int (nI 66047), .ref q1_40, .int (nI s1_40)])), (q1_40, .inl (gB g, n1_40, .inl f1_40))] := hD
      have en_40 : n1_40 = na := en_40
      have es_40 : s1_40 = (l0 ++ stL k).length := es_40
      have el_40 : hasL f1_40 0 (l0 ++ stL k) := el_40
      have ft_40 : sb_Fit f1_40 := ft_40
      refine W.eq (g2 := F0 m 43 ls []) rfl ?_
      have hz_40 : s1_40 = l0.length + (stL k).length := by rw [es_40, List.length_append]
      refine lv_aload_n hx hb dX0_writeBody_43 rfl (lv_at hl 0 rfl) ?_
      refine va_get (D := gD g) (ci := 0) (v := .ref ka) (C := RX0) (T := TX0) (N := 1) hx hb hts hinX0 hown hK hP 1 rfl rfl 0 (by decide) hf17 (fun _ h9 => h9) rfl dX0_writeBody_44 ?_
      refine lv_bipush (v := nI 10) hx hb dX0_writeBody_47 (by decide) ?_
      refine ct_callV (wr := [(ho, .inr (4, [.ref hi, .ref he, .int (nI op)])), (an, .inr (0, [.ref ka]))]) hx hb hml hown hts hK hP hD hS hA hG hl.1 (c_addF l g ka q1_40 66047 n1_40 s1_40 f1_40 (nI 10) (by omega) (by omega) (by omega) (by omega) (by assumption) (by omega)) (cwV 1 hts gX0_writeBody_X4_add rfl rfl rfl (by decide +kernel) ⟨Nat.le_of_ble_eq_true rfl, Nat.le_of_ble_eq_true rfl⟩) (va_recv hK hP (ci := 3) (q0 := 2) rfl rfl) rfl rfl (Nat.le_of_ble_eq_true rfl) dX0_writeBody_49 ⟨show 0 + 0 ≤ 0 by omega, show 0 + 0 ≤ 0 by omega⟩ [2, 3] [0, 1] rfl rfl (by decide) (by decide) (by decide) (fun r_ w_ H locs hp_ hP hD hS => ?_)
      obtain ⟨q1_49, n1_49, f1_49, rfl, rfl, en_49, ef_49, ev_49, ft_49⟩ := hp_
      have hP : va_P (gD g) vwCl [(ho, .inr (4, [.ref hi, .ref he, .int (nI op)])), (an, .inr (0, [.ref ka])), (ka, .inr (3, [.int (nI 66047), .ref q1_49, .int (nI (s1_40 + 1))])), (q1_49, .inl (gB g, n1_49, .inl f1_49))] H := hP
      have hD : va_D A [(ho, .inr (4, [.ref hi, .ref he, .int (nI op)])), (an, .inr (0, [.ref ka])), (ka, .inr (3, [.int (nI 66047), .ref q1_49, .int (nI (s1_40 + 1))])), (q1_49, .inl (gB g, n1_49, .inl f1_49))] := hD
      have en_49 : n1_49 = n1_40 := en_49
      have ef_49 : ∀ j, j < s1_40 → f1_49 j = f1_40 j := ef_49
      have ev_49 : f1_49 s1_40 = (nI 10).toInt8.toInt32 := ev_49
      have ft_49 : sb_Fit f1_49 := ft_49
      refine W.eq (g2 := F0 m 52 ls []) rfl ?_
      have hl_49 : hasL f1_49 0 ((l0 ++ stL k) ++ [nI 10]) := hasL_grow el_40 (by first | exact es_40 | omega) (fun j hj => ef_49 j hj) (hasL_1 (ev_49.trans (by decide)))
      have hz_49 : s1_40 + 1 = ((l0 ++ stL k) ++ [nI 10]).length := by rw [List.length_append, List.length_singleton]; omega
      refine ct_vret (w := [(an, .inr (0, [.ref ka])), (ka, .inr (3, [.int (nI 66047), .ref q1_49, .int (nI (s1_40 + 1))])), (q1_49, .inl (gB g, n1_49, .inl f1_49)), (ho, .inr (4, [.ref hi, .ref he, .int (nI op)]))]) hx hb hr hlocks hQ hAe hK (hP.sub [1, 2, 3, 0] rfl) (hD.sub [1, 2, 3, 0] (by decide) rfl) hS (by omega) (by omega) dX0_writeBody_52 ?_
      exact ⟨q1_49, n1_49, s1_40 + 1, f1_49, rfl, rfl, by omega, by rw [if_neg c35]; exact hz_49, by rw [if_neg c35]; exact hl_49, by assumption⟩
  · skip
    have c4 : k = 0 := (hG.2.2.2.2.2.1.2 k 0 (by show k < 9; omega) (by decide) (Option.some.inj c4))
    exact absurd c4 hk0
