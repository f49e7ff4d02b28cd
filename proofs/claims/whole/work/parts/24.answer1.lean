def stN (k : Nat) : Nat := [200, 304, 400, 404, 405, 413, 431, 500, 501].getD k 0
theorem stN_eq : ∀ k, k < 9 → (stF.getD 0 ("", "", "", [])).2.2.2.getD k 0 = nI (stN k) := by decide
theorem stN_lt : ∀ k, k < 9 → stN k < 1000 := by decide
theorem stPh_lt : ∀ k, k < 9 → stPh.getD k 0 < 84 := by decide
def stL (k : Nat) : List Int32 := digL (stN k) ++ [nI 32] ++ sL (stPh.getD k 0)
def ctL (v t : Nat) : List Int32 := sL 30 ++ digL v ++ sL 31 ++ sL t ++ sL 29
def mkL (v : Int32) : List Int32 := (List.range 10).map (mkC v)
def mkP (v : Int32) : List Int32 := sL 33 ++ mkL v ++ sL 29
theorem mkC_b {v : Int32} {i : Nat} : (mkC v i).toInt8.toInt32 = mkC v i := by
  unfold mkC
  split
  · decide
  · have h := sb7 15 (by decide) _ (show nibU v (4 * (8 - i)) < slen 15 from nibU_lt _ _)
    rw [h.2.2]
    exact h.1
theorem sLl (k : Nat) : (sL k).length = slen k := rfl
theorem hasL_1 {f : Nat → Int32} {a : Nat} {c : Int32} (h : f a = c) : hasL f a [c] := by
  intro j hj
  have e : j = 0 := by simpa using hj
  subst e
  simpa using h
theorem stL_le {k : Nat} (hk : k < 9) : (stL k).length ≤ 37 := by
  have h1 := slen_le _ (stPh_lt k hk)
  have h2 := dgM_le (stN k)
  simp only [stL, List.length_append, digL_len, sLl, List.length_cons, List.length_nil]
  omega
theorem stL_len {k : Nat} : (stL k).length = dgM (stN k) + 1 + 1 + slen (stPh.getD k 0) := by
  simp only [stL, List.length_append, digL_len, sLl, List.length_cons, List.length_nil]
theorem ctL_len {v t : Nat} : (ctL v t).length = 16 + (dgM v + 1) + 16 + slen t + 2 := by
  have e1 : slen 30 = 16 := by decide
  have e2 : slen 31 = 16 := by decide
  have e3 : slen 29 = 2 := by decide
  simp only [ctL, List.length_append, digL_len, sLl, e1, e2, e3]
theorem mkL_len {v : Int32} : (mkL v).length = 10 := by simp [mkL]
theorem mkP_len {v : Int32} : (mkP v).length = 18 := by
  have e1 : slen 33 = 6 := by decide
  have e3 : slen 29 = 2 := by decide
  simp only [mkP, List.length_append, mkL_len, sLl, e1, e3]
theorem hasL_grow {f f' : Nat → Int32} {l k : List Int32} {s : Nat} (h : hasL f 0 l) (hs : s = l.length) (hk : ∀ j, j < s → f' j = f j) (hc : hasL f' s k) : hasL f' 0 (l ++ k) := by
  subst hs
  exact hasL_app h hk hc
theorem mkL_t (v : Int32) (i : Nat) (h : i < 10) : (mkL v).take (i + 1) = (mkL v).take i ++ [mkC v i] := by
  rw [List.take_succ]
  simp [mkL, h]
def hdL (k ln t : Nat) (v : Int32) (cz : Nat) : List Int32 := sL 28 ++ stL k ++ sL 29 ++ (if k = 0 then ctL ln t else if k = 1 then [] else ctL (5 + slen (stPh.getD k 0)) 32) ++ (if k = 0 ∨ k = 1 then mkP v else []) ++ (if k = 4 then sL 34 else []) ++ (if cz = 1 then sL 35 else []) ++ sL 29

set_option maxHeartbeats 4000000 in
set_option maxRecDepth 100000 in
theorem c_aForget (l : Launch) (g : GT) (an : Nat) (ka : Nat) (qa : Nat) (na : Nat) (sa : Nat) (fz : Nat → Int32) (ha1 : sa ≤ na) (ha2 : na ≤ 66047) (ha3 : 256 ≤ na) : CT l g yX0_forget wsX0_forget ({ frames := 1, cells := 0, slots := 0, locals := 21 } : Room) [.ref an] [(an, .inr (0, [.ref ka])), (ka, .inr (3, [.int (nI 66047), .ref qa, .int (nI sa)])), (qa, .inl (gB g, na, .inl fz))] (fun r w => (r = none ∧ w = [(an, .inr (0, [.ref ka])), (ka, .inr (3, [.int (nI 66047), .ref qa, .int (nI 0)])), (qa, .inl (gB g, na, .inl fz))])) (0) (0) := by
  refine ct_of (cc := cX0_forget) (maxL := 1) (ret := none) (by decide) rfl (Nat.le_of_ble_eq_true rfl) ?_
  intro p e s m args below meth c A Q hx hb hr hml hown hts hlocks hnam hAe hQ hA hG hK hP hD hS ls hl
  have hl : lv_has ls 1 [(0, .ref an)] := hl
  have hown : s.vm.findClass RX0 = some m.cls := hown
  have hinX0 : ∀ w ∈ u_ws RX0 TX0 1, w ∈ wsX0_forget := by decide +kernel
  have hf17 := hts (.fieldLink RX0 17 "RequestReader$Answer" "bytes" "LRequestReader$Row;") (by decide +kernel)
  refine lv_aload_n hx hb dX0_forget_0 rfl (lv_at hl 0 rfl) ?_
  refine va_get (D := gD g) (ci := 0) (v := .ref ka) (C := RX0) (T := TX0) (N := 1) hx hb hts hinX0 hown hK hP 0 rfl rfl 0 (by decide) hf17 (fun _ h9 => h9) rfl dX0_forget_1 ?_
  refine lv_iconst (v := nI 0) hx hb dX0_forget_4 (by decide) ?_
  refine ct_callV (wr := [(an, .inr (0, [.ref ka]))]) hx hb hml hown hts hK hP hD hS hA hG hl.1 (c_cut0 l g ka qa 66047 na sa fz (by omega) (by omega)) (cwV 1 hts gX0_forget_X4_cutTo rfl rfl rfl (by decide +kernel) ⟨Nat.le_of_ble_eq_true rfl, Nat.le_of_ble_eq_true rfl⟩) (va_recv hK hP (ci := 3) (q0 := 1) rfl rfl) rfl rfl (Nat.le_of_ble_eq_true rfl) dX0_forget_5 ⟨show 0 + 0 ≤ 0 by omega, show 0 + 0 ≤ 0 by omega⟩ [1, 2] [0] rfl rfl (by decide) (by decide) (by decide) (fun r_ w_ H locs hp_ hP hD hS => ?_)
  obtain ⟨rfl, rfl⟩ := hp_
  have hP : va_P (gD g) vwCl [(an, .inr (0, [.ref ka])), (ka, .inr (3, [.int (nI 66047), .ref qa, .int (nI 0)])), (qa, .inl (gB g, na, .inl fz))] H := hP
  have hD : va_D A [(an, .inr (0, [.ref ka])), (ka, .inr (3, [.int (nI 66047), .ref qa, .int (nI 0)])), (qa, .inl (gB g, na, .inl fz))] := hD
  refine W.eq (g2 := F0 m 8 ls []) rfl ?_
  refine ct_vret (w := [(an, .inr (0, [.ref ka])), (ka, .inr (3, [.int (nI 66047), .ref qa, .int (nI 0)])), (qa, .inl (gB g, na, .inl fz))]) hx hb hr hlocks hQ hAe hK (hP.sub [0, 1, 2] rfl) (hD.sub [0, 1, 2] (by decide) rfl) hS (by omega) (by omega) dX0_forget_8 ?_
  exact ⟨rfl, rfl⟩

set_option maxHeartbeats 4000000 in
set_option maxRecDepth 100000 in
theorem c_aInit (l : Launch) (g : GT) (an : Nat)  : CT l g yX0_init wsX0_init ({ frames := 2, cells := 2, slots := 259, locals := 51 } : Room) [.ref an] [(an, .inr (0, [.null]))] (fun r w => (∃ (ka : Nat) (qa : Nat), r = none ∧ w = [(an, .inr (0, [.ref ka])), (ka, .inr (3, [.int (nI 66047), .ref qa, .int (nI 0)])), (qa, .inl (gB g, 256, .inl ((fun _ => 0))))])) (2) (259) := by
  refine ct_of (cc := cX0_init) (maxL := 1) (ret := none) (by decide) rfl (Nat.le_of_ble_eq_true rfl) ?_
  intro p e s m args below meth c A Q hx hb hr hml hown hts hlocks hnam hAe hQ hA hG hK hP hD hS ls hl
  have hl : lv_has ls 1 [(0, .ref an)] := hl
  have hown : s.vm.findClass RX0 = some m.cls := hown
  have hinX0 : ∀ w ∈ u_ws RX0 TX0 1, w ∈ wsX0_init := by decide +kernel
  have hinX4 : ∀ w ∈ u_ws RX4 TX4 3, w ∈ wsX0_init := by decide +kernel
  have hf17 := hts (.fieldLink RX0 17 "RequestReader$Answer" "bytes" "LRequestReader$Row;") (by decide +kernel)
  refine lv_aload_n hx hb dX0_init_0 rfl (lv_at hl 0 rfl) ?_
  refine W.objInit hx hb hown (hts (.methodLink RX0 3 objectInit) (by decide +kernel)) (hts (.instanceMethod objectInit) (by decide +kernel)) (hts (.code objectInit ⟨#[0xb1]⟩ 1 none) (by decide +kernel)) rfl (by rw [hml]; exact hl.1) rfl dX0_init_1 (Nat.le_of_ble_eq_true rfl) (Nat.le_of_ble_eq_true rfl) ?_
  refine W.eq (g2 := F0 m 4 ls []) rfl ?_
  refine lv_aload_n hx hb dX0_init_4 rfl (lv_at hl 0 rfl) ?_
  refine va_new (ci := 3) (fs := [.int (nI 0), .null, .int (nI 0)]) (C := RX4) (T := TX4) (N := 3) hx hb hts hinX4 tyX4 tyX4_ok hown (hts (.classLink RX0 9 RX4) (by decide +kernel)) (hts (.instantiable RX4 3) (by decide +kernel)) (hts (.initialized RX4) (by decide +kernel)) hK hP hD hS hA rfl (fun j hj => by rcases (show j = 0 ∨ j = 1 ∨ j = 2 by omega) with rfl | rfl | rfl <;> rfl) (show 0 + 1 ≤ 2 by omega) (show 0 + 3 ≤ 259 by omega) dX0_init_5 (fun qn_5 H hP hD hS => ?_)
  have hP : va_P (gD g) vwCl [(an, .inr (0, [.null])), (qn_5, .inr (3, [.int (nI 0), .null, .int (nI 0)]))] H := hP
  have hD : va_D A [(an, .inr (0, [.null])), (qn_5, .inr (3, [.int (nI 0), .null, .int (nI 0)]))] := hD
  refine lv_dup hx hb dX0_init_8 rfl ?_
  refine lv_ldc hx hb hown (hts (.constant RX0 13 (66047)) (by decide +kernel)) dX0_init_9 ?_
  refine q_top (v := nI 66047) (by decide) ?_
  refine ct_callI (wr := [(an, .inr (0, [.null]))]) hx hb hml hown hts hK hP hD hS hA hG hl.1 (c_rowInit l g qn_5 66047 ) (cwI 1 hts gX0_init_X4_init rfl rfl rfl (hts (.initialized RX4) (by decide +kernel)) (hts (.methodLink RX0 14 yX4_init) (by decide +kernel)) (hts (.instanceMethod yX4_init) (by decide +kernel)) rfl (by decide +kernel) ⟨Nat.le_of_ble_eq_true rfl, Nat.le_of_ble_eq_true rfl⟩) rfl rfl (Nat.le_of_ble_eq_true rfl) dX0_init_11 ⟨show 1 + 1 ≤ 2 by omega, show 3 + 256 ≤ 259 by omega⟩ [1] [0] rfl rfl (by decide) (by decide) (by decide) (fun r_ w_ H locs hp_ hP hD hS => ?_)
  obtain ⟨q1_11, rfl, rfl⟩ := hp_
  have hP : va_P (gD g) vwCl [(an, .inr (0, [.null])), (qn_5, .inr (3, [.int (nI 66047), .ref q1_11, .int (nI 0)])), (q1_11, .inl (gB g, 256, .inl ((fun _ => 0))))] H := hP
  have hD : va_D A [(an, .inr (0, [.null])), (qn_5, .inr (3, [.int (nI 66047), .ref q1_11, .int (nI 0)])), (q1_11, .inl (gB g, 256, .inl ((fun _ => 0))))] := hD
  refine W.widen (k := 2) (n := 259) (by omega) (by omega) ?_
  refine W.eq (g2 := F0 m 14 ls [.ref qn_5, .ref an]) rfl ?_
  refine va_putF (D := gD g) (ci := 0) (v := .ref qn_5) (ty := (.object "RequestReader$Row")) (C := RX0) (T := TX0) (N := 1) hx hb hts hinX0 tyX0 tyX0_ok nmX0 hown hK hP hD hS 0 rfl rfl 0 (by decide) hf17 (fun _ h9 => h9) rfl hnam rfl (by decide +kernel) rfl rfl (Nat.le_of_ble_eq_true rfl) dX0_init_14 (fun H locs hP hD hS => ?_)
  have hP : va_P (gD g) vwCl [(an, .inr (0, [.ref qn_5])), (qn_5, .inr (3, [.int (nI 66047), .ref q1_11, .int (nI 0)])), (q1_11, .inl (gB g, 256, .inl ((fun _ => 0))))] H := hP
  have hD : va_D A [(an, .inr (0, [.ref qn_5])), (qn_5, .inr (3, [.int (nI 66047), .ref q1_11, .int (nI 0)])), (q1_11, .inl (gB g, 256, .inl ((fun _ => 0))))] := hD
  refine ct_vret (w := [(an, .inr (0, [.ref qn_5])), (qn_5, .inr (3, [.int (nI 66047), .ref q1_11, .int (nI 0)])), (q1_11, .inl (gB g, 256, .inl ((fun _ => 0))))]) hx hb hr hlocks hQ hAe hK (hP.sub [0, 1, 2] rfl) (hD.sub [0, 1, 2] (by decide) rfl) hS (by omega) (by omega) dX0_init_17 ?_
  exact ⟨qn_5, q1_11, rfl, rfl⟩

set_option maxHeartbeats 4000000 in
set_option maxRecDepth 100000 in
theorem c_writeStatus (l : Launch) (g : GT) (an : Nat) (ka : Nat) (qa : Nat) (na : Nat) (sa : Nat) (fz : Nat → Int32) (l0 : List Int32) (k : Nat) (ha1 : sa ≤ na) (ha2 : na ≤ 66047) (ha3 : 256 ≤ na) (hfz : sb_Fit fz) (hla : sa = l0.length) (hlf : hasL fz 0 l0) (hk9 : k < 9) (hlb : l0.length + 40 ≤ 256) : CT l g yX0_writeStatus wsX0_writeStatus ({ frames := 5, cells := 0, slots := 0, locals := 107 } : Room) [.ref an, .ref (gE g k)] [(an, .inr (0, [.ref ka])), (ka, .inr (3, [.int (nI 66047), .ref qa, .int (nI sa)])), (qa, .inl (gB g, na, .inl fz))] (fun r w => (∃ (q1 : Nat) (n1 : Nat) (s1 : Nat) (f1 : Nat → Int32), r = none ∧ w = [(an, .inr (0, [.ref ka])), (ka, .inr (3, [.int (nI 66047), .ref q1, .int (nI s1)])), (q1, .inl (gB g, n1, .inl f1))] ∧ (n1 = na) ∧ (s1 = (l0 ++ stL k).length) ∧ (hasL f1 0 (l0 ++ stL k)) ∧ (sb_Fit f1))) (0) (0) := by
  refine ct_of (cc := cX0_writeStatus) (maxL := 2) (ret := none) (by decide) rfl (Nat.le_of_ble_eq_true rfl) ?_
  intro p e s m args below meth c A Q hx hb hr hml hown hts hlocks hnam hAe hQ hA hG hK hP hD hS ls hl
  have hl : lv_has ls 2 [(0, .ref an), (1, .ref (gE g k))] := hl
  have hown : s.vm.findClass RX0 = some m.cls := hown
  have hinX0 : ∀ w ∈ u_ws RX0 TX0 1, w ∈ wsX0_writeStatus := by decide +kernel
  have hf17 := hts (.fieldLink RX0 17 "RequestReader$Answer" "bytes" "LRequestReader$Row;") (by decide +kernel)
  have hf55 : (Cond.fieldLinkNest RX0 55 "RequestReader$Status" "phrase" "Ljava/lang/String;" "RequestReader").before args s = true := va_Nw.use rfl (hG.2.2.2.2.2.2.2 _ (List.mem_of_getElem? (i := 13) rfl))
  have hf93 : (Cond.fieldLinkNest RX0 93 "RequestReader$Status" "number" "I" "RequestReader").before args s = true := va_Nw.use rfl (hG.2.2.2.2.2.2.2 _ (List.mem_of_getElem? (i := 12) rfl))
  have hph := slen_le _ (stPh_lt k hk9)
  have hsn := stN_lt k hk9
  have hd4 := dgM_le (stN k)
  refine lv_aload_n hx hb dX0_writeStatus_0 rfl (lv_at hl 0 rfl) ?_
  refine va_get (D := gD g) (ci := 0) (v := .ref ka) (C := RX0) (T := TX0) (N := 1) hx hb hts hinX0 hown hK hP 0 rfl rfl 0 (by decide) hf17 (fun _ h9 => h9) rfl dX0_writeStatus_1 ?_
  refine lv_aload_n hx hb dX0_writeStatus_4 rfl (lv_at hl 1 rfl) ?_
  refine vk_getfN hx hb ((hG.2.2.2.2.2.1.1 k (by show k < 9; omega)).2.2 (stF.getD 0 ("", "", "", [])) (List.mem_of_getElem? (i := 0) rfl)) hS hown hf93 (fun _ h9 => h9) dX0_writeStatus_5 ?_
  refine q_top (v := nI (stN k)) (stN_eq k hk9) ?_
  refine ct_callV (wr := [(an, .inr (0, [.ref ka]))]) hx hb hml hown hts hK hP hD hS hA hG hl.1 (c_addNumF l g ka qa 66047 na sa fz (stN k) (by omega) (by omega) (by omega) (by omega) (by assumption) (by omega) (by omega)) (cwV 1 hts gX0_writeStatus_X4_addNumber rfl rfl rfl (by decide +kernel) ⟨Nat.le_of_ble_eq_true rfl, Nat.le_of_ble_eq_true rfl⟩) (va_recv hK hP (ci := 3) (q0 := 1) rfl rfl) rfl rfl (Nat.le_of_ble_eq_true rfl) dX0_writeStatus_8 ⟨show 0 + 0 ≤ 0 by omega, show 0 + 0 ≤ 0 by omega⟩ [1, 2] [0] rfl rfl (by decide) (by decide) (by decide) (fun r_ w_ H locs hp_ hP hD hS => ?_)
  obtain ⟨q1_8, n1_8, f1_8, rfl, rfl, en_8, ef_8, et_8, ft_8⟩ := hp_
  have hP : va_P (gD g) vwCl [(an, .inr (0, [.ref ka])), (ka, .inr (3, [.int (nI 66047), .ref q1_8, .int (nI (sa + (dgM (stN k) + 1)))])), (q1_8, .inl (gB g, n1_8, .inl f1_8))] H := hP
  have hD : va_D A [(an, .inr (0, [.ref ka])), (ka, .inr (3, [.int (nI 66047), .ref q1_8, .int (nI (sa + (dgM (stN k) + 1)))])), (q1_8, .inl (gB g, n1_8, .inl f1_8))] := hD
  have en_8 : n1_8 = na := en_8
  have ef_8 : ∀ j, j < sa → f1_8 j = fz j := ef_8
  have et_8 : hasL f1_8 sa (digL (stN k)) := et_8
  have ft_8 : sb_Fit f1_8 := ft_8
  refine W.eq (g2 := F0 m 11 ls []) rfl ?_
  have hl_8 : hasL f1_8 0 (l0 ++ digL (stN k)) := hasL_grow hlf (by first | exact hla | omega) (fun j hj => ef_8 j hj) et_8
  have hz_8 : sa + (dgM (stN k) + 1) = (l0 ++ digL (stN k)).length := by rw [List.length_append, digL_len]; omega
  refine lv_aload_n hx hb dX0_writeStatus_11 rfl (lv_at hl 0 rfl) ?_
  refine va_get (D := gD g) (ci := 0) (v := .ref ka) (C := RX0) (T := TX0) (N := 1) hx hb hts hinX0 hown hK hP 0 rfl rfl 0 (by decide) hf17 (fun _ h9 => h9) rfl dX0_writeStatus_12 ?_
  refine lv_bipush (v := nI 32) hx hb dX0_writeStatus_15 (by decide) ?_
  refine ct_callV (wr := [(an, .inr (0, [.ref ka]))]) hx hb hml hown hts hK hP hD hS hA hG hl.1 (c_addF l g ka q1_8 66047 n1_8 (sa + (dgM (stN k) + 1)) f1_8 (nI 32) (by omega) (by omega) (by omega) (by omega) (by assumption) (by omega)) (cwV 1 hts gX0_writeStatus_X4_add rfl rfl rfl (by decide +kernel) ⟨Nat.le_of_ble_eq_true rfl, Nat.le_of_ble_eq_true rfl⟩) (va_recv hK hP (ci := 3) (q0 := 1) rfl rfl) rfl rfl (Nat.le_of_ble_eq_true rfl) dX0_writeStatus_17 ⟨show 0 + 0 ≤ 0 by omega, show 0 + 0 ≤ 0 by omega⟩ [1, 2] [0] rfl rfl (by decide) (by decide) (by decide) (fun r_ w_ H locs hp_ hP hD hS => ?_)
  obtain ⟨q1_17, n1_17, f1_17, rfl, rfl, en_17, ef_17, ev_17, ft_17⟩ := hp_
  have hP : va_P (gD g) vwCl [(an, .inr (0, [.ref ka])), (ka, .inr (3, [.int (nI 66047), .ref q1_17, .int (nI ((sa + (dgM (stN k) + 1)) + 1))])), (q1_17, .inl (gB g, n1_17, .inl f1_17))] H := hP
  have hD : va_D A [(an, .inr (0, [.ref ka])), (ka, .inr (3, [.int (nI 66047), .ref q1_17, .int (nI ((sa + (dgM (stN k) + 1)) + 1))])), (q1_17, .inl (gB g, n1_17, .inl f1_17))] := hD
  have en_17 : n1_17 = n1_8 := en_17
  have ef_17 : ∀ j, j < (sa + (dgM (stN k) + 1)) → f1_17 j = f1_8 j := ef_17
  have ev_17 : f1_17 (sa + (dgM (stN k) + 1)) = (nI 32).toInt8.toInt32 := ev_17
  have ft_17 : sb_Fit f1_17 := ft_17
  refine W.eq (g2 := F0 m 20 ls []) rfl ?_
  have hl_17 : hasL f1_17 0 ((l0 ++ digL (stN k)) ++ [nI 32]) := hasL_grow hl_8 (by first | exact hz_8 | omega) (fun j hj => ef_17 j hj) (hasL_1 (ev_17.trans (by decide)))
  have hz_17 : (sa + (dgM (stN k) + 1)) + 1 = ((l0 ++ digL (stN k)) ++ [nI 32]).length := by rw [List.length_append, List.length_singleton]; omega
  refine lv_aload_n hx hb dX0_writeStatus_20 rfl (lv_at hl 0 rfl) ?_
  refine va_get (D := gD g) (ci := 0) (v := .ref ka) (C := RX0) (T := TX0) (N := 1) hx hb hts hinX0 hown hK hP 0 rfl rfl 0 (by decide) hf17 (fun _ h9 => h9) rfl dX0_writeStatus_21 ?_
  refine lv_aload_n hx hb dX0_writeStatus_24 rfl (lv_at hl 1 rfl) ?_
  refine vk_getfN hx hb (hG.2.2.2.2.2.2.1 k (by omega)) hS hown hf55 (fun _ h9 => h9) dX0_writeStatus_25 ?_
  refine ct_callV (wr := [(an, .inr (0, [.ref ka]))]) hx hb hml hown hts hK hP hD hS hA hG hl.1 (c_addTextF l g ka q1_17 66047 n1_17 ((sa + (dgM (stN k) + 1)) + 1) f1_17 ((stPh.getD k 0)) (by omega) (by omega) (by omega) (by omega) (by assumption) (by exact stPh_lt k hk9) (by first | omega | (have e_ : slen _ ≤ 31 := slen_le _ (by first | assumption | decide); omega))) (cwV 1 hts gX0_writeStatus_X4_addText rfl rfl rfl (by decide +kernel) ⟨Nat.le_of_ble_eq_true rfl, Nat.le_of_ble_eq_true rfl⟩) (va_recv hK hP (ci := 3) (q0 := 1) rfl rfl) rfl rfl (Nat.le_of_ble_eq_true rfl) dX0_writeStatus_28 ⟨show 0 + 0 ≤ 0 by omega, show 0 + 0 ≤ 0 by omega⟩ [1, 2] [0] rfl rfl (by decide) (by decide) (by decide) (fun r_ w_ H locs hp_ hP hD hS => ?_)
  obtain ⟨q1_28, n1_28, f1_28, rfl, rfl, en_28, ef_28, et_28, ft_28⟩ := hp_
  have hP : va_P (gD g) vwCl [(an, .inr (0, [.ref ka])), (ka, .inr (3, [.int (nI 66047), .ref q1_28, .int (nI (((sa + (dgM (stN k) + 1)) + 1) + slen ((stPh.getD k 0))))])), (q1_28, .inl (gB g, n1_28, .inl f1_28))] H := hP
  have hD : va_D A [(an, .inr (0, [.ref ka])), (ka, .inr (3, [.int (nI 66047), .ref q1_28, .int (nI (((sa + (dgM (stN k) + 1)) + 1) + slen ((stPh.getD k 0))))])), (q1_28, .inl (gB g, n1_28, .inl f1_28))] := hD
  have en_28 : n1_28 = n1_17 := en_28
  have ef_28 : ∀ j, j < ((sa + (dgM (stN k) + 1)) + 1) → f1_28 j = f1_17 j := ef_28
  have et_28 : hasL f1_28 ((sa + (dgM (stN k) + 1)) + 1) (sL ((stPh.getD k 0))) := et_28
  have ft_28 : sb_Fit f1_28 := ft_28
  refine W.eq (g2 := F0 m 31 ls []) rfl ?_
  have hl_28 : hasL f1_28 0 (((l0 ++ digL (stN k)) ++ [nI 32]) ++ sL (stPh.getD k 0)) := hasL_grow hl_17 (by first | exact hz_17 | omega) (fun j hj => ef_28 j hj) et_28
  have hz_28 : ((sa + (dgM (stN k) + 1)) + 1) + slen ((stPh.getD k 0)) = (((l0 ++ digL (stN k)) ++ [nI 32]) ++ sL (stPh.getD k 0)).length := by rw [List.length_append, sLl]; omega
  refine ct_vret (w := [(an, .inr (0, [.ref ka])), (ka, .inr (3, [.int (nI 66047), .ref q1_28, .int (nI (((sa + (dgM (stN k) + 1)) + 1) + slen ((stPh.getD k 0))))])), (q1_28, .inl (gB g, n1_28, .inl f1_28))]) hx hb hr hlocks hQ hAe hK (hP.sub [0, 1, 2] rfl) (hD.sub [0, 1, 2] (by decide) rfl) hS (by omega) (by omega) dX0_writeStatus_31 ?_
  exact ⟨q1_28, n1_28, ((sa + (dgM (stN k) + 1)) + 1) + slen ((stPh.getD k 0)), f1_28, rfl, rfl, by omega, by rw [List.length_append, stL_len]; omega, by simpa only [stL, List.append_assoc] using hl_28, by assumption⟩

set_option maxHeartbeats 4000000 in
set_option maxRecDepth 100000 in
theorem c_writeContent (l : Launch) (g : GT) (an : Nat) (ka : Nat) (qa : Nat) (na : Nat) (sa : Nat) (fz : Nat → Int32) (l0 : List Int32) (v : Nat) (t : Nat) (ha1 : sa ≤ na) (ha2 : na ≤ 66047) (ha3 : 256 ≤ na) (hfz : sb_Fit fz) (hla : sa = l0.length) (hlf : hasL fz 0 l0) (hv : v < 100000) (ht : t < 84) (hlb : l0.length + 72 ≤ 256) : CT l g yX0_writeContent wsX0_writeContent ({ frames := 5, cells := 0, slots := 0, locals := 107 } : Room) [.ref an, .int (nI v), .ref (gK g t)] [(an, .inr (0, [.ref ka])), (ka, .inr (3, [.int (nI 66047), .ref qa, .int (nI sa)])), (qa, .inl (gB g, na, .inl fz))] (fun r w => (∃ (q1 : Nat) (n1 : Nat) (s1 : Nat) (f1 : Nat → Int32), r = none ∧ w = [(an, .inr (0, [.ref ka])), (ka, .inr (3, [.int (nI 66047), .ref q1, .int (nI s1)])), (q1, .inl (gB g, n1, .inl f1))] ∧ (n1 = na) ∧ (s1 = (l0 ++ ctL v t).length) ∧ (hasL f1 0 (l0 ++ ctL v t)) ∧ (sb_Fit f1))) (0) (0) := by
  refine ct_of (cc := cX0_writeContent) (maxL := 3) (ret := none) (by decide) rfl (Nat.le_of_ble_eq_true rfl) ?_
  intro p e s m args below meth c A Q hx hb hr hml hown hts hlocks hnam hAe hQ hA hG hK hP hD hS ls hl
  have hl : lv_has ls 3 [(0, .ref an), (1, .int (nI v)), (2, .ref (gK g t))] := hl
  have hown : s.vm.findClass RX0 = some m.cls := hown
  have hinX0 : ∀ w ∈ u_ws RX0 TX0 1, w ∈ wsX0_writeContent := by decide +kernel
  have hf17 := hts (.fieldLink RX0 17 "RequestReader$Answer" "bytes" "LRequestReader$Row;") (by decide +kernel)
  have hd4 := dgM_le v
  have e30 : slen 30 = 16 := by decide
  have e31 : slen 31 = 16 := by decide
  have e29 : slen 29 = 2 := by decide
  have etl := slen_le t ht
  refine lv_aload_n hx hb dX0_writeContent_0 rfl (lv_at hl 0 rfl) ?_
  refine va_get (D := gD g) (ci := 0) (v := .ref ka) (C := RX0) (T := TX0) (N := 1) hx hb hts hinX0 hown hK hP 0 rfl rfl 0 (by decide) hf17 (fun _ h9 => h9) rfl dX0_writeContent_1 ?_
  refine va_ldcS hx hb hown ((hG.1 30 (by decide)).2.2.2.2) dX0_writeContent_4 ?_
  refine ct_callV (wr := [(an, .inr (0, [.ref ka]))]) hx hb hml hown hts hK hP hD hS hA hG hl.1 (c_addTextF l g ka qa 66047 na sa fz 30 (by omega) (by omega) (by omega) (by omega) (by assumption) (by first | assumption | decide) (by first | omega | (have e_ : slen _ ≤ 31 := slen_le _ (by first | assumption | decide); omega))) (cwV 1 hts gX0_writeContent_X4_addText rfl rfl rfl (by decide +kernel) ⟨Nat.le_of_ble_eq_true rfl, Nat.le_of_ble_eq_true rfl⟩) (va_recv hK hP (ci := 3) (q0 := 1) rfl rfl) rfl rfl (Nat.le_of_ble_eq_true rfl) dX0_writeContent_6 ⟨show 0 + 0 ≤ 0 by omega, show 0 + 0 ≤ 0 by omega⟩ [1, 2] [0] rfl rfl (by decide) (by decide) (by decide) (fun r_ w_ H locs hp_ hP hD hS => ?_)
  obtain ⟨q1_6, n1_6, f1_6, rfl, rfl, en_6, ef_6, et_6, ft_6⟩ := hp_
  have hP : va_P (gD g) vwCl [(an, .inr (0, [.ref ka])), (ka, .inr (3, [.int (nI 66047), .ref q1_6, .int (nI (sa + slen 30))])), (q1_6, .inl (gB g, n1_6, .inl f1_6))] H := hP
  have hD : va_D A [(an, .inr (0, [.ref ka])), (ka, .inr (3, [.int (nI 66047), .ref q1_6, .int (nI (sa + slen 30))])), (q1_6, .inl (gB g, n1_6, .inl f1_6))] := hD
  have en_6 : n1_6 = na := en_6
  have ef_6 : ∀ j, j < sa → f1_6 j = fz j := ef_6
  have et_6 : hasL f1_6 sa (sL 30) := et_6
  have ft_6 : sb_Fit f1_6 := ft_6
  refine W.eq (g2 := F0 m 9 ls []) rfl ?_
  have hl_6 : hasL f1_6 0 (l0 ++ sL 30) := hasL_grow hlf (by first | exact hla | omega) (fun j hj => ef_6 j hj) et_6
  have hz_6 : sa + slen 30 = (l0 ++ sL 30).length := by rw [List.length_append, sLl]; omega
  refine lv_aload_n hx hb dX0_writeContent_9 rfl (lv_at hl 0 rfl) ?_
  refine va_get (D := gD g) (ci := 0) (v := .ref ka) (C := RX0) (T := TX0) (N := 1) hx hb hts hinX0 hown hK hP 0 rfl rfl 0 (by decide) hf17 (fun _ h9 => h9) rfl dX0_writeContent_10 ?_
  refine lv_iload_n hx hb dX0_writeContent_13 rfl (lv_at hl 1 rfl) ?_
  refine ct_callV (wr := [(an, .inr (0, [.ref ka]))]) hx hb hml hown hts hK hP hD hS hA hG hl.1 (c_addNumF l g ka q1_6 66047 n1_6 (sa + slen 30) f1_6 v (by omega) (by omega) (by omega) (by omega) (by assumption) (by omega) (by omega)) (cwV 1 hts gX0_writeContent_X4_addNumber rfl rfl rfl (by decide +kernel) ⟨Nat.le_of_ble_eq_true rfl, Nat.le_of_ble_eq_true rfl⟩) (va_recv hK hP (ci := 3) (q0 := 1) rfl rfl) rfl rfl (Nat.le_of_ble_eq_true rfl) dX0_writeContent_14 ⟨show 0 + 0 ≤ 0 by omega, show 0 + 0 ≤ 0 by omega⟩ [1, 2] [0] rfl rfl (by decide) (by decide) (by decide) (fun r_ w_ H locs hp_ hP hD hS => ?_)
  obtain ⟨q1_14, n1_14, f1_14, rfl, rfl, en_14, ef_14, et_14, ft_14⟩ := hp_
  have hP : va_P (gD g) vwCl [(an, .inr (0, [.ref ka])), (ka, .inr (3, [.int (nI 66047), .ref q1_14, .int (nI ((sa + slen 30) + (dgM v + 1)))])), (q1_14, .inl (gB g, n1_14, .inl f1_14))] H := hP
  have hD : va_D A [(an, .inr (0, [.ref ka])), (ka, .inr (3, [.int (nI 66047), .ref q1_14, .int (nI ((sa + slen 30) + (dgM v + 1)))])), (q1_14, .inl (gB g, n1_14, .inl f1_14))] := hD
  have en_14 : n1_14 = n1_6 := en_14
  have ef_14 : ∀ j, j < (sa + slen 30) → f1_14 j = f1_6 j := ef_14
  have et_14 : hasL f1_14 (sa + slen 30) (digL v) := et_14
  have ft_14 : sb_Fit f1_14 := ft_14
  refine W.eq (g2 := F0 m 17 ls []) rfl ?_
  have hl_14 : hasL f1_14 0 ((l0 ++ sL 30) ++ digL v) := hasL_grow hl_6 (by first | exact hz_6 | omega) (fun j hj => ef_14 j hj) et_14
  have hz_14 : (sa + slen 30) + (dgM v + 1) = ((l0 ++ sL 30) ++ digL v).length := by rw [List.length_append, digL_len]; omega
  refine lv_aload_n hx hb dX0_writeContent_17 rfl (lv_at hl 0 rfl) ?_
  refine va_get (D := gD g) (ci := 0) (v := .ref ka) (C := RX0) (T := TX0) (N := 1) hx hb hts hinX0 hown hK hP 0 rfl rfl 0 (by decide) hf17 (fun _ h9 => h9) rfl dX0_writeContent_18 ?_
  refine va_ldcS hx hb hown ((hG.1 31 (by decide)).2.2.2.2) dX0_writeContent_21 ?_
  refine ct_callV (wr := [(an, .inr (0, [.ref ka]))]) hx hb hml hown hts hK hP hD hS hA hG hl.1 (c_addTextF l g ka q1_14 66047 n1_14 ((sa + slen 30) + (dgM v + 1)) f1_14 31 (by omega) (by omega) (by omega) (by omega) (by assumption) (by first | assumption | decide) (by first | omega | (have e_ : slen _ ≤ 31 := slen_le _ (by first | assumption | decide); omega))) (cwV 1 hts gX0_writeContent_X4_addText rfl rfl rfl (by decide +kernel) ⟨Nat.le_of_ble_eq_true rfl, Nat.le_of_ble_eq_true rfl⟩) (va_recv hK hP (ci := 3) (q0 := 1) rfl rfl) rfl rfl (Nat.le_of_ble_eq_true rfl) dX0_writeContent_23 ⟨show 0 + 0 ≤ 0 by omega, show 0 + 0 ≤ 0 by omega⟩ [1, 2] [0] rfl rfl (by decide) (by decide) (by decide) (fun r_ w_ H locs hp_ hP hD hS => ?_)
  obtain ⟨q1_23, n1_23, f1_23, rfl, rfl, en_23, ef_23, et_23, ft_23⟩ := hp_
  have hP : va_P (gD g) vwCl [(an, .inr (0, [.ref ka])), (ka, .inr (3, [.int (nI 66047), .ref q1_23, .int (nI (((sa + slen 30) + (dgM v + 1)) + slen 31))])), (q1_23, .inl (gB g, n1_23, .inl f1_23))] H := hP
  have hD : va_D A [(an, .inr (0, [.ref ka])), (ka, .inr (3, [.int (nI 66047), .ref q1_23, .int (nI (((sa + slen 30) + (dgM v + 1)) + slen 31))])), (q1_23, .inl (gB g, n1_23, .inl f1_23))] := hD
  have en_23 : n1_23 = n1_14 := en_23
  have ef_23 : ∀ j, j < ((sa + slen 30) + (dgM v + 1)) → f1_23 j = f1_14 j := ef_23
  have et_23 : hasL f1_23 ((sa + slen 30) + (dgM v + 1)) (sL 31) := et_23
  have ft_23 : sb_Fit f1_23 := ft_23
  refine W.eq (g2 := F0 m 26 ls []) rfl ?_
  have hl_23 : hasL f1_23 0 (((l0 ++ sL 30) ++ digL v) ++ sL 31) := hasL_grow hl_14 (by first | exact hz_14 | omega) (fun j hj => ef_23 j hj) et_23
  have hz_23 : ((sa + slen 30) + (dgM v + 1)) + slen 31 = (((l0 ++ sL 30) ++ digL v) ++ sL 31).length := by rw [List.length_append, sLl]; omega
  refine lv_aload_n hx hb dX0_writeContent_26 rfl (lv_at hl 0 rfl) ?_
  refine va_get (D := gD g) (ci := 0) (v := .ref ka) (C := RX0) (T := TX0) (N := 1) hx hb hts hinX0 hown hK hP 0 rfl rfl 0 (by decide) hf17 (fun _ h9 => h9) rfl dX0_writeContent_27 ?_
  refine lv_aload_n hx hb dX0_writeContent_30 rfl (lv_at hl 2 rfl) ?_
  refine ct_callV (wr := [(an, .inr (0, [.ref ka]))]) hx hb hml hown hts hK hP hD hS hA hG hl.1 (c_addTextF l g ka q1_23 66047 n1_23 (((sa + slen 30) + (dgM v + 1)) + slen 31) f1_23 t (by omega) (by omega) (by omega) (by omega) (by assumption) (by exact ht) (by first | omega | (have e_ : slen _ ≤ 31 := slen_le _ (by first | assumption | decide); omega))) (cwV 1 hts gX0_writeContent_X4_addText rfl rfl rfl (by decide +kernel) ⟨Nat.le_of_ble_eq_true rfl, Nat.le_of_ble_eq_true rfl⟩) (va_recv hK hP (ci := 3) (q0 := 1) rfl rfl) rfl rfl (Nat.le_of_ble_eq_true rfl) dX0_writeContent_31 ⟨show 0 + 0 ≤ 0 by omega, show 0 + 0 ≤ 0 by omega⟩ [1, 2] [0] rfl rfl (by decide) (by decide) (by decide) (fun r_ w_ H locs hp_ hP hD hS => ?_)
  obtain ⟨q1_31, n1_31, f1_31, rfl, rfl, en_31, ef_31, et_31, ft_31⟩ := hp_
  have hP : va_P (gD g) vwCl [(an, .inr (0, [.ref ka])), (ka, .inr (3, [.int (nI 66047), .ref q1_31, .int (nI ((((sa + slen 30) + (dgM v + 1)) + slen 31) + slen t))])), (q1_31, .inl (gB g, n1_31, .inl f1_31))] H := hP
  have hD : va_D A [(an, .inr (0, [.ref ka])), (ka, .inr (3, [.int (nI 66047), .ref q1_31, .int (nI ((((sa + slen 30) + (dgM v + 1)) + slen 31) + slen t))])), (q1_31, .inl (gB g, n1_31, .inl f1_31))] := hD
  have en_31 : n1_31 = n1_23 := en_31
  have ef_31 : ∀ j, j < (((sa + slen 30) + (dgM v + 1)) + slen 31) → f1_31 j = f1_23 j := ef_31
  have et_31 : hasL f1_31 (((sa + slen 30) + (dgM v + 1)) + slen 31) (sL t) := et_31
  have ft_31 : sb_Fit f1_31 := ft_31
  refine W.eq (g2 := F0 m 34 ls []) rfl ?_
  have hl_31 : hasL f1_31 0 ((((l0 ++ sL 30) ++ digL v) ++ sL 31) ++ sL t) := hasL_grow hl_23 (by first | exact hz_23 | omega) (fun j hj => ef_31 j hj) et_31
  have hz_31 : (((sa + slen 30) + (dgM v + 1)) + slen 31) + slen t = ((((l0 ++ sL 30) ++ digL v) ++ sL 31) ++ sL t).length := by rw [List.length_append, sLl]; omega
  refine lv_aload_n hx hb dX0_writeContent_34 rfl (lv_at hl 0 rfl) ?_
  refine va_get (D := gD g) (ci := 0) (v := .ref ka) (C := RX0) (T := TX0) (N := 1) hx hb hts hinX0 hown hK hP 0 rfl rfl 0 (by decide) hf17 (fun _ h9 => h9) rfl dX0_writeContent_35 ?_
  refine va_ldcS hx hb hown ((hG.1 29 (by decide)).2.2.2.2) dX0_writeContent_38 ?_
  refine ct_callV (wr := [(an, .inr (0, [.ref ka]))]) hx hb hml hown hts hK hP hD hS hA hG hl.1 (c_addTextF l g ka q1_31 66047 n1_31 ((((sa + slen 30) + (dgM v + 1)) + slen 31) + slen t) f1_31 29 (by omega) (by omega) (by omega) (by omega) (by assumption) (by first | assumption | decide) (by first | omega | (have e_ : slen _ ≤ 31 := slen_le _ (by first | assumption | decide); omega))) (cwV 1 hts gX0_writeContent_X4_addText rfl rfl rfl (by decide +kernel) ⟨Nat.le_of_ble_eq_true rfl, Nat.le_of_ble_eq_true rfl⟩) (va_recv hK hP (ci := 3) (q0 := 1) rfl rfl) rfl rfl (Nat.le_of_ble_eq_true rfl) dX0_writeContent_40 ⟨show 0 + 0 ≤ 0 by omega, show 0 + 0 ≤ 0 by omega⟩ [1, 2] [0] rfl rfl (by decide) (by decide) (by decide) (fun r_ w_ H locs hp_ hP hD hS => ?_)
  obtain ⟨q1_40, n1_40, f1_40, rfl, rfl, en_40, ef_40, et_40, ft_40⟩ := hp_
  have hP : va_P (gD g) vwCl [(an, .inr (0, [.ref ka])), (ka, .inr (3, [.int (nI 66047), .ref q1_40, .int (nI (((((sa + slen 30) + (dgM v + 1)) + slen 31) + slen t) + slen 29))])), (q1_40, .inl (gB g, n1_40, .inl f1_40))] H := hP
  have hD : va_D A [(an, .inr (0, [.ref ka])), (ka, .inr (3, [.int (nI 66047), .ref q1_40, .int (nI (((((sa + slen 30) + (dgM v + 1)) + slen 31) + slen t) + slen 29))])), (q1_40, .inl (gB g, n1_40, .inl f1_40))] := hD
  have en_40 : n1_40 = n1_31 := en_40
  have ef_40 : ∀ j, j < ((((sa + slen 30) + (dgM v + 1)) + slen 31) + slen t) → f1_40 j = f1_31 j := ef_40
  have et_40 : hasL f1_40 ((((sa + slen 30) + (dgM v + 1)) + slen 31) + slen t) (sL 29) := et_40
  have ft_40 : sb_Fit f1_40 := ft_40
  refine W.eq (g2 := F0 m 43 ls []) rfl ?_
  have hl_40 : hasL f1_40 0 (((((l0 ++ sL 30) ++ digL v) ++ sL 31) ++ sL t) ++ sL 29) := hasL_grow hl_31 (by first | exact hz_31 | omega) (fun j hj => ef_40 j hj) et_40
  have hz_40 : ((((sa + slen 30) + (dgM v + 1)) + slen 31) + slen t) + slen 29 = (((((l0 ++ sL 30) ++ digL v) ++ sL 31) ++ sL t) ++ sL 29).length := by rw [List.length_append, sLl]; omega
  refine ct_vret (w := [(an, .inr (0, [.ref ka])), (ka, .inr (3, [.int (nI 66047), .ref q1_40, .int (nI (((((sa + slen 30) + (dgM v + 1)) + slen 31) + slen t) + slen 29))])), (q1_40, .inl (gB g, n1_40, .inl f1_40))]) hx hb hr hlocks hQ hAe hK (hP.sub [0, 1, 2] rfl) (hD.sub [0, 1, 2] (by decide) rfl) hS (by omega) (by omega) dX0_writeContent_43 ?_
  exact ⟨q1_40, n1_40, ((((sa + slen 30) + (dgM v + 1)) + slen 31) + slen t) + slen 29, f1_40, rfl, rfl, by omega, by rw [List.length_append, ctL_len]; omega, by simpa only [ctL, List.append_assoc] using hl_40, by assumption⟩

set_option maxHeartbeats 4000000 in
set_option maxRecDepth 100000 in
theorem c_writeMark (l : Launch) (g : GT) (an : Nat) (ka : Nat) (qa : Nat) (na : Nat) (sa : Nat) (fz : Nat → Int32) (l0 : List Int32) (v : Int32) (ha1 : sa ≤ na) (ha2 : na ≤ 66047) (ha3 : 256 ≤ na) (hfz : sb_Fit fz) (hla : sa = l0.length) (hlf : hasL fz 0 l0) (hlb : l0.length + 20 ≤ 256) : CT l g yX0_writeMark wsX0_writeMark ({ frames := 5, cells := 0, slots := 0, locals := 107 } : Room) [.ref an, .int v] [(an, .inr (0, [.ref ka])), (ka, .inr (3, [.int (nI 66047), .ref qa, .int (nI sa)])), (qa, .inl (gB g, na, .inl fz))] (fun r w => (∃ (q1 : Nat) (n1 : Nat) (s1 : Nat) (f1 : Nat → Int32), r = none ∧ w = [(an, .inr (0, [.ref ka])), (ka, .inr (3, [.int (nI 66047), .ref q1, .int (nI s1)])), (q1, .inl (gB g, n1, .inl f1))] ∧ (n1 = na) ∧ (s1 = (l0 ++ mkP v).length) ∧ (hasL f1 0 (l0 ++ mkP v)) ∧ (sb_Fit f1))) (0) (0) := by
  refine ct_of (cc := cX0_writeMark) (maxL := 3) (ret := none) (by decide) rfl (Nat.le_of_ble_eq_true rfl) ?_
  intro p e s m args below meth c A Q hx hb hr hml hown hts hlocks hnam hAe hQ hA hG hK hP hD hS ls hl
  have hl : lv_has ls 3 [(0, .ref an), (1, .int v)] := hl
  have hown : s.vm.findClass RX0 = some m.cls := hown
  have hinX0 : ∀ w ∈ u_ws RX0 TX0 1, w ∈ wsX0_writeMark := by decide +kernel
  have hf17 := hts (.fieldLink RX0 17 "RequestReader$Answer" "bytes" "LRequestReader$Row;") (by decide +kernel)
  have e33 : slen 33 = 6 := by decide
  have e29 : slen 29 = 2 := by decide
  refine lv_aload_n hx hb dX0_writeMark_0 rfl (lv_at hl 0 rfl) ?_
  refine va_get (D := gD g) (ci := 0) (v := .ref ka) (C := RX0) (T := TX0) (N := 1) hx hb hts hinX0 hown hK hP 0 rfl rfl 0 (by decide) hf17 (fun _ h9 => h9) rfl dX0_writeMark_1 ?_
  refine va_ldcS hx hb hown ((hG.1 33 (by decide)).2.2.2.2) dX0_writeMark_4 ?_
  refine ct_callV (wr := [(an, .inr (0, [.ref ka]))]) hx hb hml hown hts hK hP hD hS hA hG hl.1 (c_addTextF l g ka qa 66047 na sa fz 33 (by omega) (by omega) (by omega) (by omega) (by assumption) (by first | assumption | decide) (by first | omega | (have e_ : slen _ ≤ 31 := slen_le _ (by first | assumption | decide); omega))) (cwV 1 hts gX0_writeMark_X4_addText rfl rfl rfl (by decide +kernel) ⟨Nat.le_of_ble_eq_true rfl, Nat.le_of_ble_eq_true rfl⟩) (va_recv hK hP (ci := 3) (q0 := 1) rfl rfl) rfl rfl (Nat.le_of_ble_eq_true rfl) dX0_writeMark_6 ⟨show 0 + 0 ≤ 0 by omega, show 0 + 0 ≤ 0 by omega⟩ [1, 2] [0] rfl rfl (by decide) (by decide) (by decide) (fun r_ w_ H locs hp_ hP hD hS => ?_)
  obtain ⟨q1_6, n1_6, f1_6, rfl, rfl, en_6, ef_6, et_6, ft_6⟩ := hp_
  have hP : va_P (gD g) vwCl [(an, .inr (0, [.ref ka])), (ka, .inr (3, [.int (nI 66047), .ref q1_6, .int (nI (sa + slen 33))])), (q1_6, .inl (gB g, n1_6, .inl f1_6))] H := hP
  have hD : va_D A [(an, .inr (0, [.ref ka])), (ka, .inr (3, [.int (nI 66047), .ref q1_6, .int (nI (sa + slen 33))])), (q1_6, .inl (gB g, n1_6, .inl f1_6))] := hD
  have en_6 : n1_6 = na := en_6
  have ef_6 : ∀ j, j < sa → f1_6 j = fz j := ef_6
  have et_6 : hasL f1_6 sa (sL 33) := et_6
  have ft_6 : sb_Fit f1_6 := ft_6
  refine W.eq (g2 := F0 m 9 ls []) rfl ?_
  have hl_6 : hasL f1_6 0 (l0 ++ sL 33) := hasL_grow hlf (by first | exact hla | omega) (fun j hj => ef_6 j hj) et_6
  have hz_6 : sa + slen 33 = (l0 ++ sL 33).length := by rw [List.length_append, sLl]; omega
  refine lv_iconst (v := nI 0) hx hb dX0_writeMark_9 (by decide) ?_
  refine lv_istore_n (lv' := [(2, .int (nI 0)), (0, .ref an), (1, .int v)]) hx hb dX0_writeMark_10 rfl hl (by decide) rfl (fun ls hl => ?_)
  have K11 : ∀ (N_ : Nat) (i : Nat) (q1 : Nat) (n1 : Nat) (s1 : Nat) (f1 : Nat → Int32), (i ≤ 10) → (n1 = na) → (s1 = l0.length + 6 + i) → (hasL f1 0 ((l0 ++ sL 33) ++ (mkL v).take i)) → (sb_Fit f1) → (10 - i) < N_ → ∀ (H : Heap) (locs : List Loc) (ls : Array Slot), va_P (gD g) vwCl [(an, .inr (0, [.ref ka])), (ka, .inr (3, [.int (nI 66047), .ref q1, .int (nI s1)])), (q1, .inl (gB g, n1, .inl f1))] H → va_D A [(an, .inr (0, [.ref ka])), (ka, .inr (3, [.int (nI 66047), .ref q1, .int (nI s1)])), (q1, .inl (gB g, n1, .inl f1))] → va_S A s.heap H locs → lv_has ls 3 [(0, .ref an), (1, .int v), (2, .int (nI i))] → W p l e ({ frames := 5, cells := 0, slots := 0, locals := 107 } : Room) s m args below meth c H locs (0) (0) Q (F0 m 11 ls []) := by
    intro N_
    induction N_ with
    | zero => intro i q1 n1 s1 f1 hi en es el ft hm_; exact absurd hm_ (Nat.not_lt_zero _)
    | succ N_ ih_K11 =>
      intro i q1 n1 s1 f1 hi en es el ft hm_ H locs ls hP hD hS hl
      refine lv_iload_n hx hb dX0_writeMark_11 rfl (lv_at hl 2 rfl) ?_
      refine lv_bipush (v := nI 10) hx hb dX0_writeMark_12 (by decide) ?_
      refine lv_icmp_ge (tgt := 35) hx hb dX0_writeMark_14 (by decide) (fun c14 => ?_) (fun c14 => ?_)
      · skip
        have c14 : 10 ≤ i := (nI_leI (a := 10) (b := i) (by omega) (by omega)).mp c14
        refine lv_aload_n hx hb dX0_writeMark_35 rfl (lv_at hl 0 rfl) ?_
        refine va_get (D := gD g) (ci := 0) (v := .ref ka) (C := RX0) (T := TX0) (N := 1) hx hb hts hinX0 hown hK hP 0 rfl rfl 0 (by decide) hf17 (fun _ h9 => h9) rfl dX0_writeMark_36 ?_
        refine va_ldcS hx hb hown ((hG.1 29 (by decide)).2.2.2.2) dX0_writeMark_39 ?_
        refine ct_callV (wr := [(an, .inr (0, [.ref ka]))]) hx hb hml hown hts hK hP hD hS hA hG hl.1 (c_addTextF l g ka q1 66047 n1 s1 f1 29 (by omega) (by omega) (by omega) (by omega) (by assumption) (by first | assumption | decide) (by first | omega | (have e_ : slen _ ≤ 31 := slen_le _ (by first | assumption | decide); omega))) (cwV 1 hts gX0_writeMark_X4_addText rfl rfl rfl (by decide +kernel) ⟨Nat.le_of_ble_eq_true rfl, Nat.le_of_ble_eq_true rfl⟩) (va_recv hK hP (ci := 3) (q0 := 1) rfl rfl) rfl rfl (Nat.le_of_ble_eq_true rfl) dX0_writeMark_41 ⟨show 0 + 0 ≤ 0 by omega, show 0 + 0 ≤ 0 by omega⟩ [1, 2] [0] rfl rfl (by decide) (by decide) (by decide) (fun r_ w_ H locs hp_ hP hD hS => ?_)
        obtain ⟨q1_41, n1_41, f1_41, rfl, rfl, en_41, ef_41, et_41, ft_41⟩ := hp_
        have hP : va_P (gD g) vwCl [(an, .inr (0, [.ref ka])), (ka, .inr (3, [.int (nI 66047), .ref q1_41, .int (nI (s1 + slen 29))])), (q1_41, .inl (gB g, n1_41, .inl f1_41))] H := hP
        have hD : va_D A [(an, .inr (0, [.ref ka])), (ka, .inr (3, [.int (nI 66047), .ref q1_41, .int (nI (s1 + slen 29))])), (q1_41, .inl (gB g, n1_41, .inl f1_41))] := hD
        have en_41 : n1_41 = n1 := en_41
        have ef_41 : ∀ j, j < s1 → f1_41 j = f1 j := ef_41
        have et_41 : hasL f1_41 s1 (sL 29) := et_41
        have ft_41 : sb_Fit f1_41 := ft_41
        refine W.eq (g2 := F0 m 44 ls []) rfl ?_
        refine ct_vret (w := [(an, .inr (0, [.ref ka])), (ka, .inr (3, [.int (nI 66047), .ref q1_41, .int (nI (s1 + slen 29))])), (q1_41, .inl (gB g, n1_41, .inl f1_41))]) hx hb hr hlocks hQ hAe hK (hP.sub [0, 1, 2] rfl) (hD.sub [0, 1, 2] (by decide) rfl) hS (by omega) (by omega) dX0_writeMark_44 ?_
        exact ⟨q1_41, n1_41, s1 + slen 29, f1_41, rfl, rfl, by omega, by rw [List.length_append, mkP_len]; omega, by (have e10 : i = 10 := (by omega); subst e10; have e_ : (mkL v).take 10 = mkL v := List.take_of_length_le (by rw [mkL_len]; exact Nat.le_refl _); rw [e_] at el; have h_ := hasL_grow el (by rw [List.length_append, List.length_append, mkL_len, sLl]; omega) (fun j hj => ef_41 j hj) et_41; simpa only [mkP, List.append_assoc] using h_), by assumption⟩
      · skip
        have c14 : ¬ (10 ≤ i) := fun z => c14 ((nI_leI (a := 10) (b := i) (by omega) (by omega)).mpr z)
        refine lv_aload_n hx hb dX0_writeMark_17 rfl (lv_at hl 0 rfl) ?_
        refine va_get (D := gD g) (ci := 0) (v := .ref ka) (C := RX0) (T := TX0) (N := 1) hx hb hts hinX0 hown hK hP 0 rfl rfl 0 (by decide) hf17 (fun _ h9 => h9) rfl dX0_writeMark_18 ?_
        refine lv_iload_n hx hb dX0_writeMark_21 rfl (lv_at hl 1 rfl) ?_
        refine lv_iload_n hx hb dX0_writeMark_22 rfl (lv_at hl 2 rfl) ?_
        refine ct_callS (wr := [(an, .inr (0, [.ref ka])), (ka, .inr (3, [.int (nI 66047), .ref q1, .int (nI s1)])), (q1, .inl (gB g, n1, .inl f1))]) hx hb hml hown hts hK hP hD hS hA hG hl.1 (c_ofMark l g v i (by omega)) (va_cwS 2 hts gX0_writeMark_X1_ofMark rfl rfl rfl (by decide +kernel) ⟨Nat.le_of_ble_eq_true rfl, Nat.le_of_ble_eq_true rfl⟩) rfl rfl (Nat.le_of_ble_eq_true rfl) dX0_writeMark_23 ⟨show 0 + 0 ≤ 0 by omega, show 0 + 0 ≤ 0 by omega⟩ [] [0, 1, 2] rfl rfl (by decide) (by decide) (by decide) (fun r_ w_ H locs hp_ hP hD hS => ?_)
        obtain ⟨v1_23, rfl, rfl, ev_23⟩ := hp_
        have hP : va_P (gD g) vwCl [(an, .inr (0, [.ref ka])), (ka, .inr (3, [.int (nI 66047), .ref q1, .int (nI s1)])), (q1, .inl (gB g, n1, .inl f1))] H := hP
        have hD : va_D A [(an, .inr (0, [.ref ka])), (ka, .inr (3, [.int (nI 66047), .ref q1, .int (nI s1)])), (q1, .inl (gB g, n1, .inl f1))] := hD
        have ev_23 : v1_23 = mkC v i := ev_23
        refine W.eq (g2 := F0 m 26 ls [.int v1_23, .ref ka]) rfl ?_
        refine ct_callV (wr := [(an, .inr (0, [.ref ka]))]) hx hb hml hown hts hK hP hD hS hA hG hl.1 (c_addF l g ka q1 66047 n1 s1 f1 v1_23 (by omega) (by omega) (by omega) (by omega) (by assumption) (by omega)) (cwV 1 hts gX0_writeMark_X4_add rfl rfl rfl (by decide +kernel) ⟨Nat.le_of_ble_eq_true rfl, Nat.le_of_ble_eq_true rfl⟩) (va_recv hK hP (ci := 3) (q0 := 1) rfl rfl) rfl rfl (Nat.le_of_ble_eq_true rfl) dX0_writeMark_26 ⟨show 0 + 0 ≤ 0 by omega, show 0 + 0 ≤ 0 by omega⟩ [1, 2] [0] rfl rfl (by decide) (by decide) (by decide) (fun r_ w_ H locs hp_ hP hD hS => ?_)
        obtain ⟨q1_26, n1_26, f1_26, rfl, rfl, en_26, ef_26, ev_26, ft_26⟩ := hp_
        have hP : va_P (gD g) vwCl [(an, .inr (0, [.ref ka])), (ka, .inr (3, [.int (nI 66047), .ref q1_26, .int (nI (s1 + 1))])), (q1_26, .inl (gB g, n1_26, .inl f1_26))] H := hP
        have hD : va_D A [(an, .inr (0, [.ref ka])), (ka, .inr (3, [.int (nI 66047), .ref q1_26, .int (nI (s1 + 1))])), (q1_26, .inl (gB g, n1_26, .inl f1_26))] := hD
        have en_26 : n1_26 = n1 := en_26
        have ef_26 : ∀ j, j < s1 → f1_26 j = f1 j := ef_26
        have ev_26 : f1_26 s1 = v1_23.toInt8.toInt32 := ev_26
        have ft_26 : sb_Fit f1_26 := ft_26
        refine W.eq (g2 := F0 m 29 ls []) rfl ?_
        refine lv_iinc (v := nI (i + 1)) (lv' := [(2, .int (nI (i + 1))), (0, .ref an), (1, .int v)]) hx hb dX0_writeMark_29 hl (k := 2) rfl (nI_inc i 1) (by decide) rfl (fun ls hl => ?_)
        refine lv_goto (tgt := 11) hx hb dX0_writeMark_32 (by decide) ?_
        exact ih_K11 (i + 1) q1_26 n1_26 (s1 + 1) f1_26 (by omega) (by omega) (by omega) (by rw [mkL_t v i (by omega), ← List.append_assoc]; exact hasL_grow el (by rw [List.length_append, List.length_append, List.length_take, mkL_len, sLl]; omega) (fun j hj => ef_26 j hj) (hasL_1 (ev_26.trans (by rw [ev_23]; exact mkC_b)))) (by assumption) (by omega) _ _ _ (hP.sub [0, 1, 2] rfl) (hD.sub [0, 1, 2] (by decide) rfl) hS (lv_sub hl [1, 2, 0] rfl)
  exact K11 ((10 - 0) + 1) 0 q1_6 n1_6 (sa + slen 33) f1_6 (by omega) (by omega) (by omega) (by simpa using hl_6) (by assumption) (Nat.lt_succ_self _) _ _ _ (hP.sub [0, 1, 2] rfl) (hD.sub [0, 1, 2] (by decide) rfl) hS (lv_sub hl [1, 2, 0] rfl)
