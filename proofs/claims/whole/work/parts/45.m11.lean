theorem take_s {l : List Int32} {i : Nat} (h : i < l.length) : l.take (i + 1) = l.take i ++ [l.getD i 0] := by
  rw [List.take_succ]
  simp [List.getD, h]
theorem dg_m {v u : Nat} (hu : 0 < u) : 10 ≤ v / u ↔ u ≤ v / 10 := by
  rw [Nat.le_div_iff_mul_le hu, Nat.le_div_iff_mul_le (by decide), Nat.mul_comm]
theorem vis_and {x : Int32} (h : pVis x) : x &&& 255 = x := by
  obtain ⟨n, hn, rfl⟩ := vis_nat h
  have k : ∀ n, n < 127 → nI n &&& 255 = nI n := by decide +kernel
  exact k n hn
theorem nm_raw {fe : Nat → Int32} {t j : Nat} {N : List Int32} (hfe : sb_Fit fe) (h : nmD fe t N) (hv : ∀ j, j < N.length → pVis (N.getD j 0)) (hj : j < N.length) : fe (t * 64 + j) = N.getD j 0 := by
  have h2 := h.2 j (by have := h.1; omega)
  rw [if_pos hj] at h2
  exact (raw_eq2 (hfe _) (vis_fit (hv j hj))).mpr h2
theorem nm_zero {fe : Nat → Int32} {t j : Nat} {N : List Int32} (hfe : sb_Fit fe) (h : nmD fe t N) (hj : N.length ≤ j) (hj2 : j < 48) : fe (t * 64 + j) = 0 := by
  have h2 := h.2 j hj2
  rw [if_neg (by omega)] at h2
  exact (ra0 hfe).mpr h2
theorem vis_n0 {x : Int32} (h : pVis x) : ¬ x = 0 := fun z => by rw [z] at h; exact absurd h (by decide)
theorem endL_e {N : List Int32} {k k' : Nat} (h : sL k = sL k') : endL N k = endL N k' := by
  unfold endL
  rw [slen_e h]
  simp only [sbyt_e h]
theorem endL_last {N : List Int32} {k : Nat} (h : endL N k) (hk : 0 < slen k) : N.getD (N.length - 1) 0 &&& 255 = sbyt k (slen k - 1) &&& 255 := by
  have h1 := h.1
  have h2 := h.2 (slen k - 1) (by omega)
  rw [show N.length - slen k + (slen k - 1) = N.length - 1 by omega] at h2
  exact h2
theorem endL_ne {N : List Int32} {k k' : Nat} (h : endL N k) (hk : 0 < slen k) (hk' : 0 < slen k') (hd : ¬ sbyt k (slen k - 1) &&& 255 = sbyt k' (slen k' - 1) &&& 255) : ¬ endL N k' := fun z => hd ((endL_last h hk).symm.trans (endL_last z hk'))

set_option maxHeartbeats 4000000 in
set_option maxRecDepth 100000 in
theorem c_mCode (l : Launch) (g : GT) (mm : Nat) (v0 : Value) (v1 : Value) (v2 : Value) (v3 : Value) (v4 : Value) (v5 : Value) (v6 : Value) (v7 : Value) (v8 : Value) (v9 : Value) (v10 : Value) (v11 : Value) (v12 : Value) (aa_ : Nat) (v14 : Value) (m_answerLength : Nat) (v16 : Value) (v17 : Value) (v18 : Value) (v19 : Value) (v20 : Value) (v21 : Value) (v22 : Value) (v23 : Value) (v24 : Value) (v25 : Value) (v26 : Value) (v27 : Value) (v28 : Value) (v29 : Value) (v30 : Value) (v31 : Value) (v32 : Value) (v33 : Value) (v34 : Value) (v35 : Value) (v36 : Value) (v37 : Value) (v38 : Value) (fa : Nat → Int32) (l0 : List Int32) (v : Int32) (c9 : Int32) (hla : m_answerLength = l0.length) (hlf : hasL fa 0 l0) (hlb : l0.length + 1 ≤ 512) (hv : v.toInt8.toInt32 = c9) : CT l g yX9_code wsX9_code ({ frames := 0, cells := 0, slots := 0, locals := 0 } : Room) [.ref mm, .int v] [(mm, .inr (7, v0 :: v1 :: v2 :: v3 :: v4 :: v5 :: v6 :: v7 :: v8 :: v9 :: v10 :: v11 :: v12 :: .ref aa_ :: v14 :: .int (nI m_answerLength) :: v16 :: v17 :: v18 :: v19 :: v20 :: v21 :: v22 :: v23 :: v24 :: v25 :: v26 :: v27 :: v28 :: v29 :: v30 :: v31 :: v32 :: v33 :: v34 :: v35 :: v36 :: v37 :: v38 :: [])), (aa_, .inl (gB g, 512, .inl fa))] (fun r w => (∃ (f1 : Nat → Int32) (s1 : Nat), r = none ∧ w = [(mm, .inr (7, v0 :: v1 :: v2 :: v3 :: v4 :: v5 :: v6 :: v7 :: v8 :: v9 :: v10 :: v11 :: v12 :: .ref aa_ :: v14 :: .int (nI s1) :: v16 :: v17 :: v18 :: v19 :: v20 :: v21 :: v22 :: v23 :: v24 :: v25 :: v26 :: v27 :: v28 :: v29 :: v30 :: v31 :: v32 :: v33 :: v34 :: v35 :: v36 :: v37 :: v38 :: [])), (aa_, .inl (gB g, 512, .inl f1))] ∧ (s1 = (l0 ++ [c9]).length) ∧ (hasL f1 0 (l0 ++ [c9])))) (0) (0) := by
  refine ct_of (cc := cX9_code) (maxL := 2) (ret := none) (by decide) rfl (Nat.le_of_ble_eq_true rfl) ?_
  intro p e s m args below meth c A Q hx hb hr hml hown hts hlocks hnam hAe hQ hA hG hK hP hD hS ls hl
  have hl : lv_has ls 2 [(0, .ref mm), (1, .int v)] := hl
  have hown : s.vm.findClass RX9 = some m.cls := hown
  have hinX9 : ∀ w ∈ u_ws RX9 TX9 39, w ∈ wsX9_code := by decide +kernel
  have hf34 := hts (.fieldLink RX9 34 "RequestReaderModel" "answer" "[B") (by decide +kernel)
  have hf67 := hts (.fieldLink RX9 67 "RequestReaderModel" "answerLength" "I") (by decide +kernel)
  refine lv_aload_n hx hb dX9_code_0 rfl (lv_at hl 0 rfl) ?_
  refine va_get (D := gD g) (ci := 7) (v := .ref aa_) (C := RX9) (T := TX9) (N := 39) hx hb hts hinX9 hown hK hP 0 rfl rfl 13 (by decide) hf34 (fun _ h9 => h9) rfl dX9_code_1 ?_
  refine lv_aload_n hx hb dX9_code_4 rfl (lv_at hl 0 rfl) ?_
  refine va_get (D := gD g) (ci := 7) (v := .int (nI m_answerLength)) (C := RX9) (T := TX9) (N := 39) hx hb hts hinX9 hown hK hP 0 rfl rfl 15 (by decide) hf67 (fun _ h9 => h9) rfl dX9_code_5 ?_
  refine lv_iload_n hx hb dX9_code_8 rfl (lv_at hl 1 rfl) ?_
  refine lv_i2b (v := v.toInt8.toInt32) hx hb dX9_code_9 (rfl) ?_
  refine q_bast hx hb hK hP hD hS 1 rfl (m_answerLength) rfl (by omega) (by omega) dX9_code_10 (fun H locs hP hD hS => ?_)
  have hP : va_P (gD g) vwCl [(mm, .inr (7, v0 :: v1 :: v2 :: v3 :: v4 :: v5 :: v6 :: v7 :: v8 :: v9 :: v10 :: v11 :: v12 :: .ref aa_ :: v14 :: .int (nI m_answerLength) :: v16 :: v17 :: v18 :: v19 :: v20 :: v21 :: v22 :: v23 :: v24 :: v25 :: v26 :: v27 :: v28 :: v29 :: v30 :: v31 :: v32 :: v33 :: v34 :: v35 :: v36 :: v37 :: v38 :: [])), (aa_, .inl (gB g, 512, .inl (upd fa m_answerLength v.toInt8.toInt32.toInt8.toInt32)))] H := hP
  have hD : va_D A [(mm, .inr (7, v0 :: v1 :: v2 :: v3 :: v4 :: v5 :: v6 :: v7 :: v8 :: v9 :: v10 :: v11 :: v12 :: .ref aa_ :: v14 :: .int (nI m_answerLength) :: v16 :: v17 :: v18 :: v19 :: v20 :: v21 :: v22 :: v23 :: v24 :: v25 :: v26 :: v27 :: v28 :: v29 :: v30 :: v31 :: v32 :: v33 :: v34 :: v35 :: v36 :: v37 :: v38 :: [])), (aa_, .inl (gB g, 512, .inl (upd fa m_answerLength v.toInt8.toInt32.toInt8.toInt32)))] := hD
  refine lv_aload_n hx hb dX9_code_11 rfl (lv_at hl 0 rfl) ?_
  refine lv_dup hx hb dX9_code_12 rfl ?_
  refine va_get (D := gD g) (ci := 7) (v := .int (nI m_answerLength)) (C := RX9) (T := TX9) (N := 39) hx hb hts hinX9 hown hK hP 0 rfl rfl 15 (by decide) hf67 (fun _ h9 => h9) rfl dX9_code_13 ?_
  refine lv_iconst (v := nI 1) hx hb dX9_code_16 (by decide) ?_
  refine q_iadd (v := nI (m_answerLength + 1)) hx hb dX9_code_17 (nI_add m_answerLength 1) ?_
  refine va_put (D := gD g) (ci := 7) (v := .int (nI (m_answerLength + 1))) (ty := .int) (C := RX9) (T := TX9) (N := 39) hx hb hts hinX9 tyX9 tyX9_ok nmX9 hown hK hP hD hS 0 rfl rfl 15 (by decide) hf67 (fun _ h9 => h9) rfl (by decide +kernel) rfl rfl (Nat.le_of_ble_eq_true rfl) dX9_code_18 (fun H locs hP hD hS => ?_)
  have hP : va_P (gD g) vwCl [(mm, .inr (7, v0 :: v1 :: v2 :: v3 :: v4 :: v5 :: v6 :: v7 :: v8 :: v9 :: v10 :: v11 :: v12 :: .ref aa_ :: v14 :: .int (nI (m_answerLength + 1)) :: v16 :: v17 :: v18 :: v19 :: v20 :: v21 :: v22 :: v23 :: v24 :: v25 :: v26 :: v27 :: v28 :: v29 :: v30 :: v31 :: v32 :: v33 :: v34 :: v35 :: v36 :: v37 :: v38 :: [])), (aa_, .inl (gB g, 512, .inl (upd fa m_answerLength v.toInt8.toInt32.toInt8.toInt32)))] H := hP
  have hD : va_D A [(mm, .inr (7, v0 :: v1 :: v2 :: v3 :: v4 :: v5 :: v6 :: v7 :: v8 :: v9 :: v10 :: v11 :: v12 :: .ref aa_ :: v14 :: .int (nI (m_answerLength + 1)) :: v16 :: v17 :: v18 :: v19 :: v20 :: v21 :: v22 :: v23 :: v24 :: v25 :: v26 :: v27 :: v28 :: v29 :: v30 :: v31 :: v32 :: v33 :: v34 :: v35 :: v36 :: v37 :: v38 :: [])), (aa_, .inl (gB g, 512, .inl (upd fa m_answerLength v.toInt8.toInt32.toInt8.toInt32)))] := hD
  refine ct_vret (w := [(mm, .inr (7, v0 :: v1 :: v2 :: v3 :: v4 :: v5 :: v6 :: v7 :: v8 :: v9 :: v10 :: v11 :: v12 :: .ref aa_ :: v14 :: .int (nI (m_answerLength + 1)) :: v16 :: v17 :: v18 :: v19 :: v20 :: v21 :: v22 :: v23 :: v24 :: v25 :: v26 :: v27 :: v28 :: v29 :: v30 :: v31 :: v32 :: v33 :: v34 :: v35 :: v36 :: v37 :: v38 :: [])), (aa_, .inl (gB g, 512, .inl (upd fa m_answerLength v.toInt8.toInt32.toInt8.toInt32)))]) hx hb hr hlocks hQ hAe hK (hP.sub [0, 1] rfl) (hD.sub [0, 1] (by decide) rfl) hS (by omega) (by omega) dX9_code_21 ?_
  exact ⟨upd fa m_answerLength v.toInt8.toInt32.toInt8.toInt32, m_answerLength + 1, rfl, rfl, by rw [List.length_append, hla]; rfl, by subst hla; exact hasL_snoc hlf (fun j hj => pk_un (by omega)) (pk_us.trans (by rw [b8b8]; exact hv))⟩

set_option maxHeartbeats 4000000 in
set_option maxRecDepth 100000 in
theorem c_mSay (l : Launch) (g : GT) (mm : Nat) (v0 : Value) (v1 : Value) (v2 : Value) (v3 : Value) (v4 : Value) (v5 : Value) (v6 : Value) (v7 : Value) (v8 : Value) (v9 : Value) (v10 : Value) (v11 : Value) (v12 : Value) (aa_ : Nat) (v14 : Value) (m_answerLength : Nat) (v16 : Value) (v17 : Value) (v18 : Value) (v19 : Value) (v20 : Value) (v21 : Value) (v22 : Value) (v23 : Value) (v24 : Value) (v25 : Value) (v26 : Value) (v27 : Value) (v28 : Value) (v29 : Value) (v30 : Value) (v31 : Value) (v32 : Value) (v33 : Value) (v34 : Value) (v35 : Value) (v36 : Value) (v37 : Value) (v38 : Value) (fa : Nat → Int32) (l0 : List Int32) (k : Nat) (kc : Nat) (hla : m_answerLength = l0.length) (hlf : hasL fa 0 l0) (hlb : l0.length + slen k ≤ 512) (hk : k < 84) (he : sL k = sL kc) : CT l g yX9_say wsX9_say ({ frames := 4, cells := 0, slots := 0, locals := 85 } : Room) [.ref mm, .ref (gK g k)] [(mm, .inr (7, v0 :: v1 :: v2 :: v3 :: v4 :: v5 :: v6 :: v7 :: v8 :: v9 :: v10 :: v11 :: v12 :: .ref aa_ :: v14 :: .int (nI m_answerLength) :: v16 :: v17 :: v18 :: v19 :: v20 :: v21 :: v22 :: v23 :: v24 :: v25 :: v26 :: v27 :: v28 :: v29 :: v30 :: v31 :: v32 :: v33 :: v34 :: v35 :: v36 :: v37 :: v38 :: [])), (aa_, .inl (gB g, 512, .inl fa))] (fun r w => (∃ (f1 : Nat → Int32) (s1 : Nat), r = none ∧ w = [(mm, .inr (7, v0 :: v1 :: v2 :: v3 :: v4 :: v5 :: v6 :: v7 :: v8 :: v9 :: v10 :: v11 :: v12 :: .ref aa_ :: v14 :: .int (nI s1) :: v16 :: v17 :: v18 :: v19 :: v20 :: v21 :: v22 :: v23 :: v24 :: v25 :: v26 :: v27 :: v28 :: v29 :: v30 :: v31 :: v32 :: v33 :: v34 :: v35 :: v36 :: v37 :: v38 :: [])), (aa_, .inl (gB g, 512, .inl f1))] ∧ (s1 = (l0 ++ sL kc).length) ∧ (hasL f1 0 (l0 ++ sL kc)))) (0) (0) := by
  refine ct_of (cc := cX9_say) (maxL := 3) (ret := none) (by decide) rfl (Nat.le_of_ble_eq_true rfl) ?_
  intro p e s m args below meth c A Q hx hb hr hml hown hts hlocks hnam hAe hQ hA hG hK hP hD hS ls hl
  have hl : lv_has ls 3 [(0, .ref mm), (1, .ref (gK g k))] := hl
  have hown : s.vm.findClass RX9 = some m.cls := hown
  have hsl := slen_le k hk
  refine lv_iconst (v := nI 0) hx hb dX9_say_0 (by decide) ?_
  refine lv_istore_n (lv' := [(2, .int (nI 0)), (0, .ref mm), (1, .ref (gK g k))]) hx hb dX9_say_1 rfl hl (by decide) rfl (fun ls hl => ?_)
  have K2 : ∀ (N_ : Nat) (i : Nat) (f1 : Nat → Int32) (s1 : Nat), (i ≤ slen k) → (s1 = l0.length + i) → (hasL f1 0 (l0 ++ (sL k).take i)) → (slen k - i) < N_ → ∀ (H : Heap) (locs : List Loc) (ls : Array Slot), va_P (gD g) vwCl [(mm, .inr (7, v0 :: v1 :: v2 :: v3 :: v4 :: v5 :: v6 :: v7 :: v8 :: v9 :: v10 :: v11 :: v12 :: .ref aa_ :: v14 :: .int (nI s1) :: v16 :: v17 :: v18 :: v19 :: v20 :: v21 :: v22 :: v23 :: v24 :: v25 :: v26 :: v27 :: v28 :: v29 :: v30 :: v31 :: v32 :: v33 :: v34 :: v35 :: v36 :: v37 :: v38 :: [])), (aa_, .inl (gB g, 512, .inl f1))] H → va_D A [(mm, .inr (7, v0 :: v1 :: v2 :: v3 :: v4 :: v5 :: v6 :: v7 :: v8 :: v9 :: v10 :: v11 :: v12 :: .ref aa_ :: v14 :: .int (nI s1) :: v16 :: v17 :: v18 :: v19 :: v20 :: v21 :: v22 :: v23 :: v24 :: v25 :: v26 :: v27 :: v28 :: v29 :: v30 :: v31 :: v32 :: v33 :: v34 :: v35 :: v36 :: v37 :: v38 :: [])), (aa_, .inl (gB g, 512, .inl f1))] → va_S A s.heap H locs → lv_has ls 3 [(0, .ref mm), (1, .ref (gK g k)), (2, .int (nI i))] → W p l e ({ frames := 4, cells := 0, slots := 0, locals := 85 } : Room) s m args below meth c H locs (0) (0) Q (F0 m 2 ls []) := by
    intro N_
    induction N_ with
    | zero => intro i f1 s1 hi es el hm_; exact absurd hm_ (Nat.not_lt_zero _)
    | succ N_ ih_K2 =>
      intro i f1 s1 hi es el hm_ H locs ls hP hD hS hl
      refine lv_iload_n hx hb dX9_say_2 rfl (lv_at hl 2 rfl) ?_
      refine lv_aload_n hx hb dX9_say_3 rfl (lv_at hl 1 rfl) ?_
      refine ct_callV (wr := [(mm, .inr (7, v0 :: v1 :: v2 :: v3 :: v4 :: v5 :: v6 :: v7 :: v8 :: v9 :: v10 :: v11 :: v12 :: .ref aa_ :: v14 :: .int (nI s1) :: v16 :: v17 :: v18 :: v19 :: v20 :: v21 :: v22 :: v23 :: v24 :: v25 :: v26 :: v27 :: v28 :: v29 :: v30 :: v31 :: v32 :: v33 :: v34 :: v35 :: v36 :: v37 :: v38 :: [])), (aa_, .inl (gB g, 512, .inl f1))]) hx hb hml hown hts hK hP hD hS hA hG hl.1 (c_slen l g k (by first | assumption | decide)) (cwV 0 hts gX9_say_J0_length_8abf5 rfl rfl rfl (by decide +kernel) ⟨Nat.le_of_ble_eq_true rfl, Nat.le_of_ble_eq_true rfl⟩) (st_recv hG (k := k) (by assumption) hS) rfl rfl (Nat.le_of_ble_eq_true rfl) dX9_say_4 ⟨show 0 + 0 ≤ 0 by omega, show 0 + 0 ≤ 0 by omega⟩ [] [0, 1] rfl rfl (by decide) (by decide) (by decide) (fun r_ w_ H locs hp_ hP hD hS => ?_)
      obtain ⟨rfl, rfl⟩ := hp_
      have hP : va_P (gD g) vwCl [(mm, .inr (7, v0 :: v1 :: v2 :: v3 :: v4 :: v5 :: v6 :: v7 :: v8 :: v9 :: v10 :: v11 :: v12 :: .ref aa_ :: v14 :: .int (nI s1) :: v16 :: v17 :: v18 :: v19 :: v20 :: v21 :: v22 :: v23 :: v24 :: v25 :: v26 :: v27 :: v28 :: v29 :: v30 :: v31 :: v32 :: v33 :: v34 :: v35 :: v36 :: v37 :: v38 :: [])), (aa_, .inl (gB g, 512, .inl f1))] H := hP
      have hD : va_D A [(mm, .inr (7, v0 :: v1 :: v2 :: v3 :: v4 :: v5 :: v6 :: v7 :: v8 :: v9 :: v10 :: v11 :: v12 :: .ref aa_ :: v14 :: .int (nI s1) :: v16 :: v17 :: v18 :: v19 :: v20 :: v21 :: v22 :: v23 :: v24 :: v25 :: v26 :: v27 :: v28 :: v29 :: v30 :: v31 :: v32 :: v33 :: v34 :: v35 :: v36 :: v37 :: v38 :: [])), (aa_, .inl (gB g, 512, .inl f1))] := hD
      refine W.eq (g2 := F0 m 7 ls [.int (nI (slen k)), .int (nI i)]) rfl ?_
      refine lv_icmp_ge (tgt := 25) hx hb dX9_say_7 (by decide) (fun c7 => ?_) (fun c7 => ?_)
      · skip
        have c7 : slen k ≤ i := (nI_leI (a := slen k) (b := i) (by omega) (by omega)).mp c7
        have ei : i = (sL k).length := by show i = slen k; omega
        refine ct_vret (w := [(mm, .inr (7, v0 :: v1 :: v2 :: v3 :: v4 :: v5 :: v6 :: v7 :: v8 :: v9 :: v10 :: v11 :: v12 :: .ref aa_ :: v14 :: .int (nI s1) :: v16 :: v17 :: v18 :: v19 :: v20 :: v21 :: v22 :: v23 :: v24 :: v25 :: v26 :: v27 :: v28 :: v29 :: v30 :: v31 :: v32 :: v33 :: v34 :: v35 :: v36 :: v37 :: v38 :: [])), (aa_, .inl (gB g, 512, .inl f1))]) hx hb hr hlocks hQ hAe hK (hP.sub [0, 1] rfl) (hD.sub [0, 1] (by decide) rfl) hS (by omega) (by omega) dX9_say_25 ?_
        exact ⟨f1, s1, rfl, rfl, by rw [← he, List.length_append, es, ei], by rw [← he]; rw [ei, List.take_length] at el; exact el⟩
      · skip
        have c7 : ¬ (slen k ≤ i) := fun z => c7 ((nI_leI (a := slen k) (b := i) (by omega) (by omega)).mpr z)
        have c7i : i < (sL k).length := by show i < slen k; omega
        have htl : (l0 ++ (sL k).take i).length = l0.length + i := by rw [List.length_append, List.length_take]; omega
        refine lv_aload_n hx hb dX9_say_10 rfl (lv_at hl 0 rfl) ?_
        refine lv_aload_n hx hb dX9_say_11 rfl (lv_at hl 1 rfl) ?_
        refine lv_iload_n hx hb dX9_say_12 rfl (lv_at hl 2 rfl) ?_
        refine ct_callV (wr := [(mm, .inr (7, v0 :: v1 :: v2 :: v3 :: v4 :: v5 :: v6 :: v7 :: v8 :: v9 :: v10 :: v11 :: v12 :: .ref aa_ :: v14 :: .int (nI s1) :: v16 :: v17 :: v18 :: v19 :: v20 :: v21 :: v22 :: v23 :: v24 :: v25 :: v26 :: v27 :: v28 :: v29 :: v30 :: v31 :: v32 :: v33 :: v34 :: v35 :: v36 :: v37 :: v38 :: [])), (aa_, .inl (gB g, 512, .inl f1))]) hx hb hml hown hts hK hP hD hS hA hG hl.1 (c_charAt l g k i (by first | assumption | decide) (by omega)) (cwV 1 hts gX9_say_J0_charAt_5068e rfl rfl rfl (by decide +kernel) ⟨Nat.le_of_ble_eq_true rfl, Nat.le_of_ble_eq_true rfl⟩) (st_recv hG (k := k) (by assumption) hS) rfl rfl (Nat.le_of_ble_eq_true rfl) dX9_say_13 ⟨show 0 + 0 ≤ 0 by omega, show 0 + 0 ≤ 0 by omega⟩ [] [0, 1] rfl rfl (by decide) (by decide) (by decide) (fun r_ w_ H locs hp_ hP hD hS => ?_)
        obtain ⟨rfl, rfl⟩ := hp_
        have hP : va_P (gD g) vwCl [(mm, .inr (7, v0 :: v1 :: v2 :: v3 :: v4 :: v5 :: v6 :: v7 :: v8 :: v9 :: v10 :: v11 :: v12 :: .ref aa_ :: v14 :: .int (nI s1) :: v16 :: v17 :: v18 :: v19 :: v20 :: v21 :: v22 :: v23 :: v24 :: v25 :: v26 :: v27 :: v28 :: v29 :: v30 :: v31 :: v32 :: v33 :: v34 :: v35 :: v36 :: v37 :: v38 :: [])), (aa_, .inl (gB g, 512, .inl f1))] H := hP
        have hD : va_D A [(mm, .inr (7, v0 :: v1 :: v2 :: v3 :: v4 :: v5 :: v6 :: v7 :: v8 :: v9 :: v10 :: v11 :: v12 :: .ref aa_ :: v14 :: .int (nI s1) :: v16 :: v17 :: v18 :: v19 :: v20 :: v21 :: v22 :: v23 :: v24 :: v25 :: v26 :: v27 :: v28 :: v29 :: v30 :: v31 :: v32 :: v33 :: v34 :: v35 :: v36 :: v37 :: v38 :: [])), (aa_, .inl (gB g, 512, .inl f1))] := hD
        refine W.eq (g2 := F0 m 16 ls [.int (sbyt k i &&& 255), .ref mm]) rfl ?_
        refine ct_callV (wr := []) hx hb hml hown hts hK hP hD hS hA hG hl.1 (c_mCode l g mm ((v0 : Value)) ((v1 : Value)) ((v2 : Value)) ((v3 : Value)) ((v4 : Value)) ((v5 : Value)) ((v6 : Value)) ((v7 : Value)) ((v8 : Value)) ((v9 : Value)) ((v10 : Value)) ((v11 : Value)) ((v12 : Value)) aa_ ((v14 : Value)) s1 ((v16 : Value)) ((v17 : Value)) ((v18 : Value)) ((v19 : Value)) ((v20 : Value)) ((v21 : Value)) ((v22 : Value)) ((v23 : Value)) ((v24 : Value)) ((v25 : Value)) ((v26 : Value)) ((v27 : Value)) ((v28 : Value)) ((v29 : Value)) ((v30 : Value)) ((v31 : Value)) ((v32 : Value)) ((v33 : Value)) ((v34 : Value)) ((v35 : Value)) ((v36 : Value)) ((v37 : Value)) ((v38 : Value)) f1 (l0 ++ (sL k).take i) (sbyt k i &&& 255) (sbyt k i) (by omega) (by exact el) (by omega) (by exact (sb7 k hk i (by omega)).2.1)) (cwV 1 hts gX9_say_X9_code rfl rfl rfl (by decide +kernel) ⟨Nat.le_of_ble_eq_true rfl, Nat.le_of_ble_eq_true rfl⟩) (va_recv hK hP (ci := 7) (q0 := 0) rfl rfl) rfl rfl (Nat.le_of_ble_eq_true rfl) dX9_say_16 ⟨show 0 + 0 ≤ 0 by omega, show 0 + 0 ≤ 0 by omega⟩ [0, 1] [] rfl rfl (by decide) (by decide) (by decide) (fun r_ w_ H locs hp_ hP hD hS => ?_)
        obtain ⟨f1_16, s1_16, rfl, rfl, es_16, el_16⟩ := hp_
        have hP : va_P (gD g) vwCl [(mm, .inr (7, v0 :: v1 :: v2 :: v3 :: v4 :: v5 :: v6 :: v7 :: v8 :: v9 :: v10 :: v11 :: v12 :: .ref aa_ :: v14 :: .int (nI s1_16) :: v16 :: v17 :: v18 :: v19 :: v20 :: v21 :: v22 :: v23 :: v24 :: v25 :: v26 :: v27 :: v28 :: v29 :: v30 :: v31 :: v32 :: v33 :: v34 :: v35 :: v36 :: v37 :: v38 :: [])), (aa_, .inl (gB g, 512, .inl f1_16))] H := hP
        have hD : va_D A [(mm, .inr (7, v0 :: v1 :: v2 :: v3 :: v4 :: v5 :: v6 :: v7 :: v8 :: v9 :: v10 :: v11 :: v12 :: .ref aa_ :: v14 :: .int (nI s1_16) :: v16 :: v17 :: v18 :: v19 :: v20 :: v21 :: v22 :: v23 :: v24 :: v25 :: v26 :: v27 :: v28 :: v29 :: v30 :: v31 :: v32 :: v33 :: v34 :: v35 :: v36 :: v37 :: v38 :: [])), (aa_, .inl (gB g, 512, .inl f1_16))] := hD
        have es_16 : s1_16 = ((l0 ++ (sL k).take i) ++ [(sbyt k i)]).length := es_16
        have el_16 : hasL f1_16 0 ((l0 ++ (sL k).take i) ++ [(sbyt k i)]) := el_16
        refine W.eq (g2 := F0 m 19 ls []) rfl ?_
        have es_16 : s1_16 = l0.length + (i + 1) := by rw [es_16, List.length_append, htl]; rfl
        refine lv_iinc (v := nI (i + 1)) (lv' := [(2, .int (nI (i + 1))), (0, .ref mm), (1, .ref (gK g k))]) hx hb dX9_say_19 hl (k := 2) rfl (nI_inc i 1) (by decide) rfl (fun ls hl => ?_)
        refine lv_goto (tgt := 2) hx hb dX9_say_22 (by decide) ?_
        exact ih_K2 (i + 1) f1_16 s1_16 (by omega) (by omega) (by rw [take_s (by exact c7i), ← List.append_assoc]; exact el_16) (by omega) _ _ _ (hP.sub [0, 1] rfl) (hD.sub [0, 1] (by decide) rfl) hS (lv_sub hl [1, 2, 0] rfl)
  exact K2 ((slen k - 0) + 1) 0 fa m_answerLength (by omega) (by omega) (by simpa using hlf) (Nat.lt_succ_self _) _ _ _ (hP.sub [0, 1] rfl) (hD.sub [0, 1] (by decide) rfl) hS (lv_sub hl [1, 2, 0] rfl)

set_option maxHeartbeats 4000000 in
set_option maxRecDepth 100000 in
theorem c_mLine (l : Launch) (g : GT) (mm : Nat) (v0 : Value) (v1 : Value) (v2 : Value) (v3 : Value) (v4 : Value) (v5 : Value) (v6 : Value) (v7 : Value) (v8 : Value) (v9 : Value) (v10 : Value) (v11 : Value) (v12 : Value) (aa_ : Nat) (v14 : Value) (m_answerLength : Nat) (v16 : Value) (v17 : Value) (v18 : Value) (v19 : Value) (v20 : Value) (v21 : Value) (v22 : Value) (v23 : Value) (v24 : Value) (v25 : Value) (v26 : Value) (v27 : Value) (v28 : Value) (v29 : Value) (v30 : Value) (v31 : Value) (v32 : Value) (v33 : Value) (v34 : Value) (v35 : Value) (v36 : Value) (v37 : Value) (v38 : Value) (fa : Nat → Int32) (l0 : List Int32) (hla : m_answerLength = l0.length) (hlf : hasL fa 0 l0) (hlb : l0.length + 2 ≤ 512) : CT l g yX9_line wsX9_line ({ frames := 1, cells := 0, slots := 0, locals := 21 } : Room) [.ref mm] [(mm, .inr (7, v0 :: v1 :: v2 :: v3 :: v4 :: v5 :: v6 :: v7 :: v8 :: v9 :: v10 :: v11 :: v12 :: .ref aa_ :: v14 :: .int (nI m_answerLength) :: v16 :: v17 :: v18 :: v19 :: v20 :: v21 :: v22 :: v23 :: v24 :: v25 :: v26 :: v27 :: v28 :: v29 :: v30 :: v31 :: v32 :: v33 :: v34 :: v35 :: v36 :: v37 :: v38 :: [])), (aa_, .inl (gB g, 512, .inl fa))] (fun r w => (∃ (f1 : Nat → Int32) (s1 : Nat), r = none ∧ w = [(mm, .inr (7, v0 :: v1 :: v2 :: v3 :: v4 :: v5 :: v6 :: v7 :: v8 :: v9 :: v10 :: v11 :: v12 :: .ref aa_ :: v14 :: .int (nI s1) :: v16 :: v17 :: v18 :: v19 :: v20 :: v21 :: v22 :: v23 :: v24 :: v25 :: v26 :: v27 :: v28 :: v29 :: v30 :: v31 :: v32 :: v33 :: v34 :: v35 :: v36 :: v37 :: v38 :: [])), (aa_, .inl (gB g, 512, .inl f1))] ∧ (s1 = (l0 ++ sL 29).length) ∧ (hasL f1 0 (l0 ++ sL 29)))) (0) (0) := by
  refine ct_of (cc := cX9_line) (maxL := 1) (ret := none) (by decide) rfl (Nat.le_of_ble_eq_true rfl) ?_
  intro p e s m args below meth c A Q hx hb hr hml hown hts hlocks hnam hAe hQ hA hG hK hP hD hS ls hl
  have hl : lv_has ls 1 [(0, .ref mm)] := hl
  have hown : s.vm.findClass RX9 = some m.cls := hown
  refine lv_aload_n hx hb dX9_line_0 rfl (lv_at hl 0 rfl) ?_
  refine lv_bipush (v := nI 13) hx hb dX9_line_1 (by decide) ?_
  refine ct_callV (wr := []) hx hb hml hown hts hK hP hD hS hA hG hl.1 (c_mCode l g mm ((v0 : Value)) ((v1 : Value)) ((v2 : Value)) ((v3 : Value)) ((v4 : Value)) ((v5 : Value)) ((v6 : Value)) ((v7 : Value)) ((v8 : Value)) ((v9 : Value)) ((v10 : Value)) ((v11 : Value)) ((v12 : Value)) aa_ ((v14 : Value)) m_answerLength ((v16 : Value)) ((v17 : Value)) ((v18 : Value)) ((v19 : Value)) ((v20 : Value)) ((v21 : Value)) ((v22 : Value)) ((v23 : Value)) ((v24 : Value)) ((v25 : Value)) ((v26 : Value)) ((v27 : Value)) ((v28 : Value)) ((v29 : Value)) ((v30 : Value)) ((v31 : Value)) ((v32 : Value)) ((v33 : Value)) ((v34 : Value)) ((v35 : Value)) ((v36 : Value)) ((v37 : Value)) ((v38 : Value)) fa l0 (nI 13) (nI 13) (by first | omega | assumption) (by assumption) (by omega) (by decide)) (cwV 1 hts gX9_line_X9_code rfl rfl rfl (by decide +kernel) ⟨Nat.le_of_ble_eq_true rfl, Nat.le_of_ble_eq_true rfl⟩) (va_recv hK hP (ci := 7) (q0 := 0) rfl rfl) rfl rfl (Nat.le_of_ble_eq_true rfl) dX9_line_3 ⟨show 0 + 0 ≤ 0 by omega, show 0 + 0 ≤ 0 by omega⟩ [0, 1] [] rfl rfl (by decide) (by decide) (by decide) (fun r_ w_ H locs hp_ hP hD hS => ?_)
  obtain ⟨f1_3, s1_3, rfl, rfl, es_3, el_3⟩ := hp_
  have hP : va_P (gD g) vwCl [(mm, .inr (7, v0 :: v1 :: v2 :: v3 :: v4 :: v5 :: v6 :: v7 :: v8 :: v9 :: v10 :: v11 :: v12 :: .ref aa_ :: v14 :: .int (nI s1_3) :: v16 :: v17 :: v18 :: v19 :: v20 :: v21 :: v22 :: v23 :: v24 :: v25 :: v26 :: v27 :: v28 :: v29 :: v30 :: v31 :: v32 :: v33 :: v34 :: v35 :: v36 :: v37 :: v38 :: [])), (aa_, .inl (gB g, 512, .inl f1_3))] H := hP
  have hD : va_D A [(mm, .inr (7, v0 :: v1 :: v2 :: v3 :: v4 :: v5 :: v6 :: v7 :: v8 :: v9 :: v10 :: v11 :: v12 :: .ref aa_ :: v14 :: .int (nI s1_3) :: v16 :: v17 :: v18 :: v19 :: v20 :: v21 :: v22 :: v23 :: v24 :: v25 :: v26 :: v27 :: v28 :: v29 :: v30 :: v31 :: v32 :: v33 :: v34 :: v35 :: v36 :: v37 :: v38 :: [])), (aa_, .inl (gB g, 512, .inl f1_3))] := hD
  have es_3 : s1_3 = (l0 ++ [(nI 13)]).length := es_3
  have el_3 : hasL f1_3 0 (l0 ++ [(nI 13)]) := el_3
  refine W.eq (g2 := F0 m 6 ls []) rfl ?_
  have hz_3 : (l0 ++ [nI 13]).length = l0.length + 1 := by rw [List.length_append]; rfl
  refine lv_aload_n hx hb dX9_line_6 rfl (lv_at hl 0 rfl) ?_
  refine lv_bipush (v := nI 10) hx hb dX9_line_7 (by decide) ?_
  refine ct_callV (wr := []) hx hb hml hown hts hK hP hD hS hA hG hl.1 (c_mCode l g mm ((v0 : Value)) ((v1 : Value)) ((v2 : Value)) ((v3 : Value)) ((v4 : Value)) ((v5 : Value)) ((v6 : Value)) ((v7 : Value)) ((v8 : Value)) ((v9 : Value)) ((v10 : Value)) ((v11 : Value)) ((v12 : Value)) aa_ ((v14 : Value)) s1_3 ((v16 : Value)) ((v17 : Value)) ((v18 : Value)) ((v19 : Value)) ((v20 : Value)) ((v21 : Value)) ((v22 : Value)) ((v23 : Value)) ((v24 : Value)) ((v25 : Value)) ((v26 : Value)) ((v27 : Value)) ((v28 : Value)) ((v29 : Value)) ((v30 : Value)) ((v31 : Value)) ((v32 : Value)) ((v33 : Value)) ((v34 : Value)) ((v35 : Value)) ((v36 : Value)) ((v37 : Value)) ((v38 : Value)) f1_3 (l0 ++ [nI 13]) (nI 10) (nI 10) (by exact es_3) (by exact el_3) (by omega) (by decide)) (cwV 1 hts gX9_line_X9_code rfl rfl rfl (by decide +kernel) ⟨Nat.le_of_ble_eq_true rfl, Nat.le_of_ble_eq_true rfl⟩) (va_recv hK hP (ci := 7) (q0 := 0) rfl rfl) rfl rfl (Nat.le_of_ble_eq_true rfl) dX9_line_9 ⟨show 0 + 0 ≤ 0 by omega, show 0 + 0 ≤ 0 by omega⟩ [0, 1] [] rfl rfl (by decide) (by decide) (by decide) (fun r_ w_ H locs hp_ hP hD hS => ?_)
  obtain ⟨f1_9, s1_9, rfl, rfl, es_9, el_9⟩ := hp_
  have hP : va_P (gD g) vwCl [(mm, .inr (7, v0 :: v1 :: v2 :: v3 :: v4 :: v5 :: v6 :: v7 :: v8 :: v9 :: v10 :: v11 :: v12 :: .ref aa_ :: v14 :: .int (nI s1_9) :: v16 :: v17 :: v18 :: v19 :: v20 :: v21 :: v22 :: v23 :: v24 :: v25 :: v26 :: v27 :: v28 :: v29 :: v30 :: v31 :: v32 :: v33 :: v34 :: v35 :: v36 :: v37 :: v38 :: [])), (aa_, .inl (gB g, 512, .inl f1_9))] H := hP
  have hD : va_D A [(mm, .inr (7, v0 :: v1 :: v2 :: v3 :: v4 :: v5 :: v6 :: v7 :: v8 :: v9 :: v10 :: v11 :: v12 :: .ref aa_ :: v14 :: .int (nI s1_9) :: v16 :: v17 :: v18 :: v19 :: v20 :: v21 :: v22 :: v23 :: v24 :: v25 :: v26 :: v27 :: v28 :: v29 :: v30 :: v31 :: v32 :: v33 :: v34 :: v35 :: v36 :: v37 :: v38 :: [])), (aa_, .inl (gB g, 512, .inl f1_9))] := hD
  have es_9 : s1_9 = ((l0 ++ [nI 13]) ++ [(nI 10)]).length := es_9
  have el_9 : hasL f1_9 0 ((l0 ++ [nI 13]) ++ [(nI 10)]) := el_9
  refine W.eq (g2 := F0 m 12 ls []) rfl ?_
  refine ct_vret (w := [(mm, .inr (7, v0 :: v1 :: v2 :: v3 :: v4 :: v5 :: v6 :: v7 :: v8 :: v9 :: v10 :: v11 :: v12 :: .ref aa_ :: v14 :: .int (nI s1_9) :: v16 :: v17 :: v18 :: v19 :: v20 :: v21 :: v22 :: v23 :: v24 :: v25 :: v26 :: v27 :: v28 :: v29 :: v30 :: v31 :: v32 :: v33 :: v34 :: v35 :: v36 :: v37 :: v38 :: [])), (aa_, .inl (gB g, 512, .inl f1_9))]) hx hb hr hlocks hQ hAe hK (hP.sub [0, 1] rfl) (hD.sub [0, 1] (by decide) rfl) hS (by omega) (by omega) dX9_line_12 ?_
  exact ⟨f1_9, s1_9, rfl, rfl, by rw [es_9, List.append_assoc]; rfl, by (have h_ := el_9; rw [List.append_assoc] at h_; exact h_)⟩

set_option maxHeartbeats 4000000 in
set_option maxRecDepth 100000 in
theorem c_mNum (l : Launch) (g : GT) (mm : Nat) (v0 : Value) (v1 : Value) (v2 : Value) (v3 : Value) (v4 : Value) (v5 : Value) (v6 : Value) (v7 : Value) (v8 : Value) (v9 : Value) (v10 : Value) (v11 : Value) (v12 : Value) (aa_ : Nat) (v14 : Value) (m_answerLength : Nat) (v16 : Value) (v17 : Value) (v18 : Value) (v19 : Value) (v20 : Value) (v21 : Value) (v22 : Value) (v23 : Value) (v24 : Value) (v25 : Value) (v26 : Value) (v27 : Value) (v28 : Value) (v29 : Value) (v30 : Value) (v31 : Value) (v32 : Value) (v33 : Value) (v34 : Value) (v35 : Value) (v36 : Value) (v37 : Value) (v38 : Value) (fa : Nat → Int32) (l0 : List Int32) (v : Nat) (hla : m_answerLength = l0.length) (hlf : hasL fa 0 l0) (hlb : l0.length + 5 ≤ 512) (hv : v < 100000) : CT l g yX9_sayNumber wsX9_sayNumber ({ frames := 1, cells := 0, slots := 0, locals := 21 } : Room) [.ref mm, .int (nI v)] [(mm, .inr (7, v0 :: v1 :: v2 :: v3 :: v4 :: v5 :: v6 :: v7 :: v8 :: v9 :: v10 :: v11 :: v12 :: .ref aa_ :: v14 :: .int (nI m_answerLength) :: v16 :: v17 :: v18 :: v19 :: v20 :: v21 :: v22 :: v23 :: v24 :: v25 :: v26 :: v27 :: v28 :: v29 :: v30 :: v31 :: v32 :: v33 :: v34 :: v35 :: v36 :: v37 :: v38 :: [])), (aa_, .inl (gB g, 512, .inl fa))] (fun r w => (∃ (f1 : Nat → Int32) (s1 : Nat), r = none ∧ w = [(mm, .inr (7, v0 :: v1 :: v2 :: v3 :: v4 :: v5 :: v6 :: v7 :: v8 :: v9 :: v10 :: v11 :: v12 :: .ref aa_ :: v14 :: .int (nI s1) :: v16 :: v17 :: v18 :: v19 :: v20 :: v21 :: v22 :: v23 :: v24 :: v25 :: v26 :: v27 :: v28 :: v29 :: v30 :: v31 :: v32 :: v33 :: v34 :: v35 :: v36 :: v37 :: v38 :: [])), (aa_, .inl (gB g, 512, .inl f1))] ∧ (s1 = (l0 ++ digL v).length) ∧ (hasL f1 0 (l0 ++ digL v)))) (0) (0) := by
  refine ct_of (cc := cX9_sayNumber) (maxL := 4) (ret := none) (by decide) rfl (Nat.le_of_ble_eq_true rfl) ?_
  intro p e s m args below meth c A Q hx hb hr hml hown hts hlocks hnam hAe hQ hA hG hK hP hD hS ls hl
  have hl : lv_has ls 4 [(0, .ref mm), (1, .int (nI v))] := hl
  have hown : s.vm.findClass RX9 = some m.cls := hown
  have hd4 := dgM_le v
  have hdl := digL_len v
  refine lv_iconst (v := nI 1) hx hb dX9_sayNumber_0 (by decide) ?_
  refine lv_istore_n (lv' := [(2, .int (nI 1)), (0, .ref mm), (1, .int (nI v))]) hx hb dX9_sayNumber_1 rfl hl (by decide) rfl (fun ls hl => ?_)
  have K2 : ∀ (N_ : Nat) (i : Nat) (u : Nat), (i ≤ dgM v) → (u = 10 ^ i) → (0 < u) → (u ≤ 100000) → (9 - i) < N_ → ∀ (H : Heap) (locs : List Loc) (ls : Array Slot), va_P (gD g) vwCl [(mm, .inr (7, v0 :: v1 :: v2 :: v3 :: v4 :: v5 :: v6 :: v7 :: v8 :: v9 :: v10 :: v11 :: v12 :: .ref aa_ :: v14 :: .int (nI m_answerLength) :: v16 :: v17 :: v18 :: v19 :: v20 :: v21 :: v22 :: v23 :: v24 :: v25 :: v26 :: v27 :: v28 :: v29 :: v30 :: v31 :: v32 :: v33 :: v34 :: v35 :: v36 :: v37 :: v38 :: [])), (aa_, .inl (gB g, 512, .inl fa))] H → va_D A [(mm, .inr (7, v0 :: v1 :: v2 :: v3 :: v4 :: v5 :: v6 :: v7 :: v8 :: v9 :: v10 :: v11 :: v12 :: .ref aa_ :: v14 :: .int (nI m_answerLength) :: v16 :: v17 :: v18 :: v19 :: v20 :: v21 :: v22 :: v23 :: v24 :: v25 :: v26 :: v27 :: v28 :: v29 :: v30 :: v31 :: v32 :: v33 :: v34 :: v35 :: v36 :: v37 :: v38 :: [])), (aa_, .inl (gB g, 512, .inl fa))] → va_S A s.heap H locs → lv_has ls 4 [(0, .ref mm), (1, .int (nI v)), (2, .int (nI u))] → W p l e ({ frames := 1, cells := 0, slots := 0, locals := 21 } : Room) s m args below meth c H locs (0) (0) Q (F0 m 2 ls []) := by
    intro N_
    induction N_ with
    | zero => intro i u hi hu hu0 hub hm_; exact absurd hm_ (Nat.not_lt_zero _)
    | succ N_ ih_K2 =>
      intro i u hi hu hu0 hub hm_ H locs ls hP hD hS hl
      refine lv_iload_n hx hb dX9_sayNumber_2 rfl (lv_at hl 1 rfl) ?_
      refine lv_iload_n hx hb dX9_sayNumber_3 rfl (lv_at hl 2 rfl) ?_
      have hvu0 := Nat.div_le_self v u
      refine q_idiv (v := nI (v / u)) hx hb dX9_sayNumber_4 (by exact nI_ne0 (by omega) (by omega)) (pk_div (by omega) (by omega) (by omega)) ?_
      refine lv_bipush (v := nI 10) hx hb dX9_sayNumber_5 (by decide) ?_
      refine lv_icmp_lt (tgt := 18) hx hb dX9_sayNumber_7 (by decide) (fun c7 => ?_) (fun c7 => ?_)
      · skip
        have c7 : v / u < 10 := (nI_ltI (a := v / u) (b := 10) (by omega) (by omega)).mp c7
        have em : i = dgM v := by rcases Nat.lt_or_ge i (dgM v) with z | z <;> first | exact absurd ((dg_m hu0).mpr (by rw [hu]; exact (dg_lt hv hi).mpr z)) (by omega) | omega
        refine lv_iload_n hx hb dX9_sayNumber_18 rfl (lv_at hl 2 rfl) ?_
        refine lv_istore_n (lv' := [(3, .int (nI u)), (0, .ref mm), (1, .int (nI v)), (2, .int (nI u))]) hx hb dX9_sayNumber_19 rfl hl (by decide) rfl (fun ls hl => ?_)
        have K20 : ∀ (N_ : Nat) (t : Nat) (u2 : Nat) (f1 : Nat → Int32) (s1 : Nat), ((t ≤ dgM v ∧ u2 = 10 ^ (dgM v - t)) ∨ (t = dgM v + 1 ∧ u2 = 0)) → (u2 < 2 ^ 30) → (s1 = l0.length + t) → (hasL f1 0 (l0 ++ (digL v).take t)) → (dgM v + 1 - t) < N_ → ∀ (H : Heap) (locs : List Loc) (ls : Array Slot), va_P (gD g) vwCl [(mm, .inr (7, v0 :: v1 :: v2 :: v3 :: v4 :: v5 :: v6 :: v7 :: v8 :: v9 :: v10 :: v11 :: v12 :: .ref aa_ :: v14 :: .int (nI s1) :: v16 :: v17 :: v18 :: v19 :: v20 :: v21 :: v22 :: v23 :: v24 :: v25 :: v26 :: v27 :: v28 :: v29 :: v30 :: v31 :: v32 :: v33 :: v34 :: v35 :: v36 :: v37 :: v38 :: [])), (aa_, .inl (gB g, 512, .inl f1))] H → va_D A [(mm, .inr (7, v0 :: v1 :: v2 :: v3 :: v4 :: v5 :: v6 :: v7 :: v8 :: v9 :: v10 :: v11 :: v12 :: .ref aa_ :: v14 :: .int (nI s1) :: v16 :: v17 :: v18 :: v19 :: v20 :: v21 :: v22 :: v23 :: v24 :: v25 :: v26 :: v27 :: v28 :: v29 :: v30 :: v31 :: v32 :: v33 :: v34 :: v35 :: v36 :: v37 :: v38 :: [])), (aa_, .inl (gB g, 512, .inl f1))] → va_S A s.heap H locs → lv_has ls 4 [(0, .ref mm), (1, .int (nI v)), (2, .int (nI u)), (3, .int (nI u2))] → W p l e ({ frames := 1, cells := 0, slots := 0, locals := 21 } : Room) s m args below meth c H locs (0) (0) Q (F0 m 20 ls []) := by
          intro N_
          induction N_ with
          | zero => intro t u2 f1 s1 hu2 hu3 es el hm_; exact absurd hm_ (Nat.not_lt_zero _)
          | succ N_ ih_K20 =>
            intro t u2 f1 s1 hu2 hu3 es el hm_ H locs ls hP hD hS hl
            refine lv_iload_n hx hb dX9_sayNumber_20 rfl (lv_at hl 3 rfl) ?_
            refine lv_if_le (tgt := 45) hx hb dX9_sayNumber_21 (by decide) (fun c21 => ?_) (fun c21 => ?_)
            · skip
              have c21 : u2 ≤ 0 := (nI_leI (a := u2) (b := 0) (by omega) (by omega)).mp c21
              have ht : t = (digL v).length := by rcases hu2 with z | z <;> first | omega | exact absurd (p10pos (dgM v - t)) (by rw [← z.2]; omega)
              refine ct_vret (w := [(mm, .inr (7, v0 :: v1 :: v2 :: v3 :: v4 :: v5 :: v6 :: v7 :: v8 :: v9 :: v10 :: v11 :: v12 :: .ref aa_ :: v14 :: .int (nI s1) :: v16 :: v17 :: v18 :: v19 :: v20 :: v21 :: v22 :: v23 :: v24 :: v25 :: v26 :: v27 :: v28 :: v29 :: v30 :: v31 :: v32 :: v33 :: v34 :: v35 :: v36 :: v37 :: v38 :: [])), (aa_, .inl (gB g, 512, .inl f1))]) hx hb hr hlocks hQ hAe hK (hP.sub [0, 1] rfl) (hD.sub [0, 1] (by decide) rfl) hS (by omega) (by omega) dX9_sayNumber_45 ?_
              exact ⟨f1, s1, rfl, rfl, by rw [List.length_append, es, ht], by (rw [ht, List.take_length] at el; exact el)⟩
            · skip
              have c21 : ¬ (u2 ≤ 0) := fun z => c21 ((nI_leI (a := u2) (b := 0) (by omega) (by omega)).mpr z)
              have hvu := Nat.div_le_self v u2
              have ht : t ≤ dgM v ∧ u2 = 10 ^ (dgM v - t) := hu2.resolve_right (fun z => by omega)
              have ee : 10 ^ (dgM v - t) = u2 := ht.2.symm
              have ht1 := ht.1
              have htl : (l0 ++ (digL v).take t).length = l0.length + t := by rw [List.length_append, List.length_take]; omega
              refine lv_aload_n hx hb dX9_sayNumber_24 rfl (lv_at hl 0 rfl) ?_
              refine lv_bipush (v := nI 48) hx hb dX9_sayNumber_25 (by decide) ?_
              refine lv_iload_n hx hb dX9_sayNumber_27 rfl (lv_at hl 1 rfl) ?_
              refine lv_iload_n hx hb dX9_sayNumber_28 rfl (lv_at hl 3 rfl) ?_
              refine q_idiv (v := nI (v / u2)) hx hb dX9_sayNumber_29 (by exact nI_ne0 (by omega) (by omega)) (pk_div (by omega) (by omega) (by omega)) ?_
              refine lv_bipush (v := nI 10) hx hb dX9_sayNumber_30 (by decide) ?_
              refine q_irem (v := nI (v / u2 % 10)) hx hb dX9_sayNumber_32 (by decide) (pk_rem (by omega) (by omega) (by omega)) ?_
              refine q_iadd (v := nI (48 + (v / u2 % 10))) hx hb dX9_sayNumber_33 (nI_add 48 (v / u2 % 10)) ?_
              refine ct_callV (wr := []) hx hb hml hown hts hK hP hD hS hA hG hl.1 (c_mCode l g mm ((v0 : Value)) ((v1 : Value)) ((v2 : Value)) ((v3 : Value)) ((v4 : Value)) ((v5 : Value)) ((v6 : Value)) ((v7 : Value)) ((v8 : Value)) ((v9 : Value)) ((v10 : Value)) ((v11 : Value)) ((v12 : Value)) aa_ ((v14 : Value)) s1 ((v16 : Value)) ((v17 : Value)) ((v18 : Value)) ((v19 : Value)) ((v20 : Value)) ((v21 : Value)) ((v22 : Value)) ((v23 : Value)) ((v24 : Value)) ((v25 : Value)) ((v26 : Value)) ((v27 : Value)) ((v28 : Value)) ((v29 : Value)) ((v30 : Value)) ((v31 : Value)) ((v32 : Value)) ((v33 : Value)) ((v34 : Value)) ((v35 : Value)) ((v36 : Value)) ((v37 : Value)) ((v38 : Value)) f1 (l0 ++ (digL v).take t) (nI (48 + (v / u2 % 10))) (nI (48 + v / u2 % 10)) (by omega) (by exact el) (by omega) (by exact b7N _ (by omega))) (cwV 1 hts gX9_sayNumber_X9_code rfl rfl rfl (by decide +kernel) ⟨Nat.le_of_ble_eq_true rfl, Nat.le_of_ble_eq_true rfl⟩) (va_recv hK hP (ci := 7) (q0 := 0) rfl rfl) rfl rfl (Nat.le_of_ble_eq_true rfl) dX9_sayNumber_34 ⟨show 0 + 0 ≤ 0 by omega, show 0 + 0 ≤ 0 by omega⟩ [0, 1] [] rfl rfl (by decide) (by decide) (by decide) (fun r_ w_ H locs hp_ hP hD hS => ?_)
              obtain ⟨f1_34, s1_34, rfl, rfl, es_34, el_34⟩ := hp_
              have hP : va_P (gD g) vwCl [(mm, .inr (7, v0 :: v1 :: v2 :: v3 :: v4 :: v5 :: v6 :: v7 :: v8 :: v9 :: v10 :: v11 :: v12 :: .ref aa_ :: v14 :: .int (nI s1_34) :: v16 :: v17 :: v18 :: v19 :: v20 :: v21 :: v22 :: v23 :: v24 :: v25 :: v26 :: v27 :: v28 :: v29 :: v30 :: v31 :: v32 :: v33 :: v34 :: v35 :: v36 :: v37 :: v38 :: [])), (aa_, .inl (gB g, 512, .inl f1_34))] H := hP
              have hD : va_D A [(mm, .inr (7, v0 :: v1 :: v2 :: v3 :: v4 :: v5 :: v6 :: v7 :: v8 :: v9 :: v10 :: v11 :: v12 :: .ref aa_ :: v14 :: .int (nI s1_34) :: v16 :: v17 :: v18 :: v19 :: v20 :: v21 :: v22 :: v23 :: v24 :: v25 :: v26 :: v27 :: v28 :: v29 :: v30 :: v31 :: v32 :: v33 :: v34 :: v35 :: v36 :: v37 :: v38 :: [])), (aa_, .inl (gB g, 512, .inl f1_34))] := hD
              have es_34 : s1_34 = ((l0 ++ (digL v).take t) ++ [(nI (48 + v / u2 % 10))]).length := es_34
              have el_34 : hasL f1_34 0 ((l0 ++ (digL v).take t) ++ [(nI (48 + v / u2 % 10))]) := el_34
              refine W.eq (g2 := F0 m 37 ls []) rfl ?_
              have es_34 : s1_34 = l0.length + (t + 1) := by rw [es_34, List.length_append, htl]; rfl
              refine lv_iload_n hx hb dX9_sayNumber_37 rfl (lv_at hl 3 rfl) ?_
              refine lv_bipush (v := nI 10) hx hb dX9_sayNumber_38 (by decide) ?_
              refine q_idiv (v := nI (u2 / 10)) hx hb dX9_sayNumber_40 (by decide) (pk_div (by omega) (by omega) (by omega)) ?_
              refine lv_istore_n (lv' := [(3, .int (nI (u2 / 10))), (0, .ref mm), (1, .int (nI v)), (2, .int (nI u))]) hx hb dX9_sayNumber_41 rfl hl (by decide) rfl (fun ls hl => ?_)
              refine lv_goto (tgt := 20) hx hb dX9_sayNumber_42 (by decide) ?_
              exact ih_K20 (t + 1) (u2 / 10) f1_34 s1_34 (by rcases hu2 with ⟨z1, z2⟩ | ⟨z1, z2⟩ <;> first | exact absurd z2 (by omega) | (rcases Nat.lt_or_ge t (dgM v) with z | z <;> first | exact Or.inl ⟨by omega, by rw [z2]; exact p10 _ _ z⟩ | exact Or.inr ⟨by omega, by rw [z2, show dgM v - t = 0 by omega]⟩)) (by have h_ := Nat.div_le_self u2 10; omega) (by omega) (by rw [take_s (by omega), ← List.append_assoc, digL_get v t (by omega), ee]; exact el_34) (by omega) _ _ _ (hP.sub [0, 1] rfl) (hD.sub [0, 1] (by decide) rfl) hS (lv_sub hl [1, 2, 3, 0] rfl)
        exact K20 ((dgM v + 1 - 0) + 1) 0 u fa m_answerLength (by exact Or.inl ⟨Nat.zero_le _, by rw [Nat.sub_zero, ← em]; exact hu⟩) (by omega) (by omega) (by simpa using hlf) (Nat.lt_succ_self _) _ _ _ (hP.sub [0, 1] rfl) (hD.sub [0, 1] (by decide) rfl) hS (lv_sub hl [1, 2, 3, 0] rfl)
      · skip
        have c7 : ¬ (v / u < 10) := fun z => c7 ((nI_ltI (a := v / u) (b := 10) (by omega) (by omega)).mpr z)
        refine lv_iload_n hx hb dX9_sayNumber_10 rfl (lv_at hl 2 rfl) ?_
        refine lv_bipush (v := nI 10) hx hb dX9_sayNumber_11 (by decide) ?_
        refine q_imul (v := nI (u * 10)) hx hb dX9_sayNumber_13 (pk_mul u 10) ?_
        refine lv_istore_n (lv' := [(2, .int (nI (u * 10))), (0, .ref mm), (1, .int (nI v))]) hx hb dX9_sayNumber_14 rfl hl (by decide) rfl (fun ls hl => ?_)
        refine lv_goto (tgt := 2) hx hb dX9_sayNumber_15 (by decide) ?_
        exact ih_K2 (i + 1) (u * 10) (by have h_ := (dg_lt hv hi).mp (by rw [← hu]; exact (dg_m (by omega)).mp (by omega)); omega) (by rw [hu, Nat.pow_succ]) (by omega) (by have h_ := (dg_m hu0).mp (by omega : 10 ≤ v / u); omega) (by omega) _ _ _ (hP.sub [0, 1] rfl) (hD.sub [0, 1] (by decide) rfl) hS (lv_sub hl [1, 2, 0] rfl)
  exact K2 ((9 - 0) + 1) 0 1 (by omega) (by rfl) (by omega) (by omega) (Nat.lt_succ_self _) _ _ _ (hP.sub [0, 1] rfl) (hD.sub [0, 1] (by decide) rfl) hS (lv_sub hl [1, 2, 0] rfl)

set_option maxHeartbeats 4000000 in
set_option maxRecDepth 100000 in
theorem c_mPhrase (l : Launch) (g : GT) (k : Nat) (hk9 : k < 9) : CT l g yX9_phrase wsX9_phrase ({ frames := 0, cells := 0, slots := 0, locals := 0 } : Room) [.int (nI (stN k))] [] (fun r w => (∃ (q : Nat), r = some (.ref (gK g q)) ∧ w = [] ∧ (q < 84) ∧ (sL q = sL (stPh.getD k 0)))) (0) (0) := by
  refine ct_of (cc := cX9_phrase) (maxL := 1) (ret := (some (.object "java/lang/String"))) (by decide) rfl (Nat.le_of_ble_eq_true rfl) ?_
  intro p e s m args below meth c A Q hx hb hr hml hown hts hlocks hnam hAe hQ hA hG hK hP hD hS ls hl
  have hl : lv_has ls 1 [(0, .int (nI (stN k)))] := hl
  have hown : s.vm.findClass RX9 = some m.cls := hown
  rcases (show k = 0 ∨ k = 1 ∨ k = 2 ∨ k = 3 ∨ k = 4 ∨ k = 5 ∨ k = 6 ∨ k = 7 ∨ k = 8 by omega) with rfl | rfl | rfl | rfl | rfl | rfl | rfl | rfl | rfl
  · skip
    refine lv_iload_n hx hb dX9_phrase_0 rfl (lv_at hl 0 rfl) ?_
    refine lv_lookup (off := 75) (tgt := 76) hx hb dX9_phrase_1 (by decide) (by decide) (by decide) ?_
    refine q_ldcwS hx hb hown ((hG.1 50 (by decide)).2.2.2.2) dX9_phrase_76 ?_
    refine ct_aret (w := []) hx hb hr (Or.inl ⟨_, rfl⟩) hlocks hQ hAe hK (hP.sub [] rfl) (hD.sub [] (by decide) rfl) hS (by omega) (by omega) dX9_phrase_79 ?_
    exact ⟨50, rfl, rfl, by decide, by rfl⟩
  · skip
    refine lv_iload_n hx hb dX9_phrase_0 rfl (lv_at hl 0 rfl) ?_
    refine lv_lookup (off := 79) (tgt := 80) hx hb dX9_phrase_1 (by decide) (by decide) (by decide) ?_
    refine q_ldcwS hx hb hown ((hG.1 51 (by decide)).2.2.2.2) dX9_phrase_80 ?_
    refine ct_aret (w := []) hx hb hr (Or.inl ⟨_, rfl⟩) hlocks hQ hAe hK (hP.sub [] rfl) (hD.sub [] (by decide) rfl) hS (by omega) (by omega) dX9_phrase_83 ?_
    exact ⟨51, rfl, rfl, by decide, by rfl⟩
  · skip
    refine lv_iload_n hx hb dX9_phrase_0 rfl (lv_at hl 0 rfl) ?_
    refine lv_lookup (off := 83) (tgt := 84) hx hb dX9_phrase_1 (by decide) (by decide) (by decide) ?_
    refine q_ldcwS hx hb hown ((hG.1 52 (by decide)).2.2.2.2) dX9_phrase_84 ?_
    refine ct_aret (w := []) hx hb hr (Or.inl ⟨_, rfl⟩) hlocks hQ hAe hK (hP.sub [] rfl) (hD.sub [] (by decide) rfl) hS (by omega) (by omega) dX9_phrase_87 ?_
    exact ⟨52, rfl, rfl, by decide, by rfl⟩
  · skip
    refine lv_iload_n hx hb dX9_phrase_0 rfl (lv_at hl 0 rfl) ?_
    refine lv_lookup (off := 87) (tgt := 88) hx hb dX9_phrase_1 (by decide) (by decide) (by decide) ?_
    refine q_ldcwS hx hb hown ((hG.1 53 (by decide)).2.2.2.2) dX9_phrase_88 ?_
    refine ct_aret (w := []) hx hb hr (Or.inl ⟨_, rfl⟩) hlocks hQ hAe hK (hP.sub [] rfl) (hD.sub [] (by decide) rfl) hS (by omega) (by omega) dX9_phrase_91 ?_
    exact ⟨53, rfl, rfl, by decide, by rfl⟩
  · skip
    refine lv_iload_n hx hb dX9_phrase_0 rfl (lv_at hl 0 rfl) ?_
    refine lv_lookup (off := 91) (tgt := 92) hx hb dX9_phrase_1 (by decide) (by decide) (by decide) ?_
    refine q_ldcwS hx hb hown ((hG.1 54 (by decide)).2.2.2.2) dX9_phrase_92 ?_
    refine ct_aret (w := []) hx hb hr (Or.inl ⟨_, rfl⟩) hlocks hQ hAe hK (hP.sub [] rfl) (hD.sub [] (by decide) rfl) hS (by omega) (by omega) dX9_phrase_95 ?_
    exact ⟨54, rfl, rfl, by decide, by rfl⟩
  · skip
    refine lv_iload_n hx hb dX9_phrase_0 rfl (lv_at hl 0 rfl) ?_
    refine lv_lookup (off := 95) (tgt := 96) hx hb dX9_phrase_1 (by decide) (by decide) (by decide) ?_
    refine q_ldcwS hx hb hown ((hG.1 55 (by decide)).2.2.2.2) dX9_phrase_96 ?_
    refine ct_aret (w := []) hx hb hr (Or.inl ⟨_, rfl⟩) hlocks hQ hAe hK (hP.sub [] rfl) (hD.sub [] (by decide) rfl) hS (by omega) (by omega) dX9_phrase_99 ?_
    exact ⟨55, rfl, rfl, by decide, by rfl⟩
  · skip
    refine lv_iload_n hx hb dX9_phrase_0 rfl (lv_at hl 0 rfl) ?_
    refine lv_lookup (off := 99) (tgt := 100) hx hb dX9_phrase_1 (by decide) (by decide) (by decide) ?_
    refine q_ldcwS hx hb hown ((hG.1 56 (by decide)).2.2.2.2) dX9_phrase_100 ?_
    refine ct_aret (w := []) hx hb hr (Or.inl ⟨_, rfl⟩) hlocks hQ hAe hK (hP.sub [] rfl) (hD.sub [] (by decide) rfl) hS (by omega) (by omega) dX9_phrase_103 ?_
    exact ⟨56, rfl, rfl, by decide, by rfl⟩
  · skip
    refine lv_iload_n hx hb dX9_phrase_0 rfl (lv_at hl 0 rfl) ?_
    refine lv_lookup (off := 103) (tgt := 104) hx hb dX9_phrase_1 (by decide) (by decide) (by decide) ?_
    refine q_ldcwS hx hb hown ((hG.1 57 (by decide)).2.2.2.2) dX9_phrase_104 ?_
    refine ct_aret (w := []) hx hb hr (Or.inl ⟨_, rfl⟩) hlocks hQ hAe hK (hP.sub [] rfl) (hD.sub [] (by decide) rfl) hS (by omega) (by omega) dX9_phrase_107 ?_
    exact ⟨57, rfl, rfl, by decide, by rfl⟩
  · skip
    refine lv_iload_n hx hb dX9_phrase_0 rfl (lv_at hl 0 rfl) ?_
    refine lv_lookup (off := 107) (tgt := 108) hx hb dX9_phrase_1 (by decide) (by decide) (by decide) ?_
    refine q_ldcwS hx hb hown ((hG.1 58 (by decide)).2.2.2.2) dX9_phrase_108 ?_
    refine ct_aret (w := []) hx hb hr (Or.inl ⟨_, rfl⟩) hlocks hQ hAe hK (hP.sub [] rfl) (hD.sub [] (by decide) rfl) hS (by omega) (by omega) dX9_phrase_111 ?_
    exact ⟨58, rfl, rfl, by decide, by rfl⟩
