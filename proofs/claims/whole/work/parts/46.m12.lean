
set_option maxHeartbeats 4000000 in
set_option maxRecDepth 100000 in
theorem c_mEnds (l : Launch) (g : GT) (mm : Nat) (v0 : Value) (v1 : Value) (v2 : Value) (v3 : Value) (v4 : Value) (v5 : Value) (am_ : Nat) (v7 : Value) (v8 : Value) (v9 : Value) (v10 : Value) (v11 : Value) (v12 : Value) (v13 : Value) (v14 : Value) (v15 : Value) (v16 : Value) (v17 : Value) (v18 : Value) (v19 : Value) (v20 : Value) (v21 : Value) (v22 : Value) (v23 : Value) (v24 : Value) (v25 : Value) (v26 : Value) (v27 : Value) (v28 : Value) (v29 : Value) (v30 : Value) (v31 : Value) (v32 : Value) (v33 : Value) (v34 : Value) (v35 : Value) (v36 : Value) (v37 : Value) (v38 : Value) (fm : Nat → Int32) (fe : Nat → Int32) (c0 : Nat) (t : Nat) (Nl : List Int32) (k : Nat) (kc : Nat) (hc0 : c0 ≤ 64) (hNM : ∀ t, t < c0 → ∀ j, j < 48 → fm (48 * t + j) = fe (t * 64 + j)) (hfe : sb_Fit fe) (ht : t < c0) (hnm : nmD fe t Nl) (hNv : ∀ j, j < Nl.length → pVis (Nl.getD j 0)) (hk : k < 84) (he : sL k = sL kc) : CT l g yX9_endsWith wsX9_endsWith ({ frames := 4, cells := 0, slots := 0, locals := 85 } : Room) [.ref mm, .int (nI t), .ref (gK g k)] [(mm, .inr (7, v0 :: v1 :: v2 :: v3 :: v4 :: v5 :: .ref am_ :: v7 :: v8 :: v9 :: v10 :: v11 :: v12 :: v13 :: v14 :: v15 :: v16 :: v17 :: v18 :: v19 :: v20 :: v21 :: v22 :: v23 :: v24 :: v25 :: v26 :: v27 :: v28 :: v29 :: v30 :: v31 :: v32 :: v33 :: v34 :: v35 :: v36 :: v37 :: v38 :: [])), (am_, .inl (gB g, 3072, .inl fm))] (fun r w => (r = some (.int (nI 1)) ∧ w = [(mm, .inr (7, v0 :: v1 :: v2 :: v3 :: v4 :: v5 :: .ref am_ :: v7 :: v8 :: v9 :: v10 :: v11 :: v12 :: v13 :: v14 :: v15 :: v16 :: v17 :: v18 :: v19 :: v20 :: v21 :: v22 :: v23 :: v24 :: v25 :: v26 :: v27 :: v28 :: v29 :: v30 :: v31 :: v32 :: v33 :: v34 :: v35 :: v36 :: v37 :: v38 :: [])), (am_, .inl (gB g, 3072, .inl fm))] ∧ (endL Nl kc)) ∨ (r = some (.int (nI 0)) ∧ w = [(mm, .inr (7, v0 :: v1 :: v2 :: v3 :: v4 :: v5 :: .ref am_ :: v7 :: v8 :: v9 :: v10 :: v11 :: v12 :: v13 :: v14 :: v15 :: v16 :: v17 :: v18 :: v19 :: v20 :: v21 :: v22 :: v23 :: v24 :: v25 :: v26 :: v27 :: v28 :: v29 :: v30 :: v31 :: v32 :: v33 :: v34 :: v35 :: v36 :: v37 :: v38 :: [])), (am_, .inl (gB g, 3072, .inl fm))] ∧ (¬ (endL Nl kc)))) (0) (0) := by
  refine ct_of (cc := cX9_endsWith) (maxL := 5) (ret := (some .boolean)) (by decide) rfl (Nat.le_of_ble_eq_true rfl) ?_
  intro p e s m args below meth c A Q hx hb hr hml hown hts hlocks hnam hAe hQ hA hG hK hP hD hS ls hl
  have hl : lv_has ls 5 [(0, .ref mm), (1, .int (nI t)), (2, .ref (gK g k))] := hl
  have hown : s.vm.findClass RX9 = some m.cls := hown
  have hinX9 : ∀ w ∈ u_ws RX9 TX9 39, w ∈ wsX9_endsWith := by decide +kernel
  have hf18 := hts (.fieldLink RX9 18 "RequestReaderModel" "names" "[B") (by decide +kernel)
  have hsl := slen_le k hk
  have h48 := hnm.1
  refine lv_iconst (v := nI 0) hx hb dX9_endsWith_0 (by decide) ?_
  refine lv_istore_n (lv' := [(3, .int (nI 0)), (0, .ref mm), (1, .int (nI t)), (2, .ref (gK g k))]) hx hb dX9_endsWith_1 rfl hl (by decide) rfl (fun ls hl => ?_)
  have K2 : ∀ (N_ : Nat) (ln : Nat), (ln ≤ Nl.length) → (48 - ln) < N_ → ∀ (H : Heap) (locs : List Loc) (ls : Array Slot), va_P (gD g) vwCl [(mm, .inr (7, v0 :: v1 :: v2 :: v3 :: v4 :: v5 :: .ref am_ :: v7 :: v8 :: v9 :: v10 :: v11 :: v12 :: v13 :: v14 :: v15 :: v16 :: v17 :: v18 :: v19 :: v20 :: v21 :: v22 :: v23 :: v24 :: v25 :: v26 :: v27 :: v28 :: v29 :: v30 :: v31 :: v32 :: v33 :: v34 :: v35 :: v36 :: v37 :: v38 :: [])), (am_, .inl (gB g, 3072, .inl fm))] H → va_D A [(mm, .inr (7, v0 :: v1 :: v2 :: v3 :: v4 :: v5 :: .ref am_ :: v7 :: v8 :: v9 :: v10 :: v11 :: v12 :: v13 :: v14 :: v15 :: v16 :: v17 :: v18 :: v19 :: v20 :: v21 :: v22 :: v23 :: v24 :: v25 :: v26 :: v27 :: v28 :: v29 :: v30 :: v31 :: v32 :: v33 :: v34 :: v35 :: v36 :: v37 :: v38 :: [])), (am_, .inl (gB g, 3072, .inl fm))] → va_S A s.heap H locs → lv_has ls 5 [(0, .ref mm), (1, .int (nI t)), (2, .ref (gK g k)), (3, .int (nI ln))] → W p l e ({ frames := 4, cells := 0, slots := 0, locals := 85 } : Room) s m args below meth c H locs (0) (0) Q (F0 m 2 ls []) := by
    intro N_
    induction N_ with
    | zero => intro ln hln hm_; exact absurd hm_ (Nat.not_lt_zero _)
    | succ N_ ih_K2 =>
      intro ln hln hm_ H locs ls hP hD hS hl
      have J28 : (ln = Nl.length) → ∀ (H : Heap) (locs : List Loc) (ls : Array Slot), va_P (gD g) vwCl [(mm, .inr (7, v0 :: v1 :: v2 :: v3 :: v4 :: v5 :: .ref am_ :: v7 :: v8 :: v9 :: v10 :: v11 :: v12 :: v13 :: v14 :: v15 :: v16 :: v17 :: v18 :: v19 :: v20 :: v21 :: v22 :: v23 :: v24 :: v25 :: v26 :: v27 :: v28 :: v29 :: v30 :: v31 :: v32 :: v33 :: v34 :: v35 :: v36 :: v37 :: v38 :: [])), (am_, .inl (gB g, 3072, .inl fm))] H → va_D A [(mm, .inr (7, v0 :: v1 :: v2 :: v3 :: v4 :: v5 :: .ref am_ :: v7 :: v8 :: v9 :: v10 :: v11 :: v12 :: v13 :: v14 :: v15 :: v16 :: v17 :: v18 :: v19 :: v20 :: v21 :: v22 :: v23 :: v24 :: v25 :: v26 :: v27 :: v28 :: v29 :: v30 :: v31 :: v32 :: v33 :: v34 :: v35 :: v36 :: v37 :: v38 :: [])), (am_, .inl (gB g, 3072, .inl fm))] → va_S A s.heap H locs → lv_has ls 5 [(0, .ref mm), (1, .int (nI t)), (2, .ref (gK g k)), (3, .int (nI ln))] → W p l e ({ frames := 4, cells := 0, slots := 0, locals := 85 } : Room) s m args below meth c H locs (0) (0) Q (F0 m 28 ls []) := by
        intro  hle H locs ls hP hD hS hl
        refine lv_iload_n hx hb dX9_endsWith_28 rfl (lv_at hl 3 rfl) ?_
        refine lv_aload_n hx hb dX9_endsWith_29 rfl (lv_at hl 2 rfl) ?_
        refine ct_callV (wr := [(mm, .inr (7, v0 :: v1 :: v2 :: v3 :: v4 :: v5 :: .ref am_ :: v7 :: v8 :: v9 :: v10 :: v11 :: v12 :: v13 :: v14 :: v15 :: v16 :: v17 :: v18 :: v19 :: v20 :: v21 :: v22 :: v23 :: v24 :: v25 :: v26 :: v27 :: v28 :: v29 :: v30 :: v31 :: v32 :: v33 :: v34 :: v35 :: v36 :: v37 :: v38 :: [])), (am_, .inl (gB g, 3072, .inl fm))]) hx hb hml hown hts hK hP hD hS hA hG hl.1 (c_slen l g k (by first | assumption | decide)) (cwV 0 hts gX9_endsWith_J0_length_8abf5 rfl rfl rfl (by decide +kernel) ⟨Nat.le_of_ble_eq_true rfl, Nat.le_of_ble_eq_true rfl⟩) (st_recv hG (k := k) (by assumption) hS) rfl rfl (Nat.le_of_ble_eq_true rfl) dX9_endsWith_30 ⟨show 0 + 0 ≤ 0 by omega, show 0 + 0 ≤ 0 by omega⟩ [] [0, 1] rfl rfl (by decide) (by decide) (by decide) (fun r_ w_ H locs hp_ hP hD hS => ?_)
        obtain ⟨rfl, rfl⟩ := hp_
        have hP : va_P (gD g) vwCl [(mm, .inr (7, v0 :: v1 :: v2 :: v3 :: v4 :: v5 :: .ref am_ :: v7 :: v8 :: v9 :: v10 :: v11 :: v12 :: v13 :: v14 :: v15 :: v16 :: v17 :: v18 :: v19 :: v20 :: v21 :: v22 :: v23 :: v24 :: v25 :: v26 :: v27 :: v28 :: v29 :: v30 :: v31 :: v32 :: v33 :: v34 :: v35 :: v36 :: v37 :: v38 :: [])), (am_, .inl (gB g, 3072, .inl fm))] H := hP
        have hD : va_D A [(mm, .inr (7, v0 :: v1 :: v2 :: v3 :: v4 :: v5 :: .ref am_ :: v7 :: v8 :: v9 :: v10 :: v11 :: v12 :: v13 :: v14 :: v15 :: v16 :: v17 :: v18 :: v19 :: v20 :: v21 :: v22 :: v23 :: v24 :: v25 :: v26 :: v27 :: v28 :: v29 :: v30 :: v31 :: v32 :: v33 :: v34 :: v35 :: v36 :: v37 :: v38 :: [])), (am_, .inl (gB g, 3072, .inl fm))] := hD
        refine W.eq (g2 := F0 m 33 ls [.int (nI (slen k)), .int (nI ln)]) rfl ?_
        refine lv_icmp_ge (tgt := 38) hx hb dX9_endsWith_33 (by decide) (fun c33 => ?_) (fun c33 => ?_)
        · skip
          have c33 : slen k ≤ ln := (nI_leI (a := slen k) (b := ln) (by omega) (by omega)).mp c33
          refine lv_iconst (v := nI 0) hx hb dX9_endsWith_38 (by decide) ?_
          refine lv_istore (lv' := [(4, .int (nI 0)), (0, .ref mm), (1, .int (nI t)), (2, .ref (gK g k)), (3, .int (nI ln))]) hx hb dX9_endsWith_39 hl (by decide) rfl (fun ls hl => ?_)
          have K41 : ∀ (N_ : Nat) (i : Nat), (i ≤ slen k) → (∀ j, j < i → Nl.getD (Nl.length - slen k + j) 0 &&& 255 = sbyt k j &&& 255) → (slen k - i) < N_ → ∀ (H : Heap) (locs : List Loc) (ls : Array Slot), va_P (gD g) vwCl [(mm, .inr (7, v0 :: v1 :: v2 :: v3 :: v4 :: v5 :: .ref am_ :: v7 :: v8 :: v9 :: v10 :: v11 :: v12 :: v13 :: v14 :: v15 :: v16 :: v17 :: v18 :: v19 :: v20 :: v21 :: v22 :: v23 :: v24 :: v25 :: v26 :: v27 :: v28 :: v29 :: v30 :: v31 :: v32 :: v33 :: v34 :: v35 :: v36 :: v37 :: v38 :: [])), (am_, .inl (gB g, 3072, .inl fm))] H → va_D A [(mm, .inr (7, v0 :: v1 :: v2 :: v3 :: v4 :: v5 :: .ref am_ :: v7 :: v8 :: v9 :: v10 :: v11 :: v12 :: v13 :: v14 :: v15 :: v16 :: v17 :: v18 :: v19 :: v20 :: v21 :: v22 :: v23 :: v24 :: v25 :: v26 :: v27 :: v28 :: v29 :: v30 :: v31 :: v32 :: v33 :: v34 :: v35 :: v36 :: v37 :: v38 :: [])), (am_, .inl (gB g, 3072, .inl fm))] → va_S A s.heap H locs → lv_has ls 5 [(0, .ref mm), (1, .int (nI t)), (2, .ref (gK g k)), (3, .int (nI ln)), (4, .int (nI i))] → W p l e ({ frames := 4, cells := 0, slots := 0, locals := 85 } : Room) s m args below meth c H locs (0) (0) Q (F0 m 41 ls []) := by
            intro N_
            induction N_ with
            | zero => intro i hi hall hm_; exact absurd hm_ (Nat.not_lt_zero _)
            | succ N_ ih_K41 =>
              intro i hi hall hm_ H locs ls hP hD hS hl
              refine lv_iload hx hb dX9_endsWith_41 (lv_at hl 4 rfl) ?_
              refine lv_aload_n hx hb dX9_endsWith_43 rfl (lv_at hl 2 rfl) ?_
              refine ct_callV (wr := [(mm, .inr (7, v0 :: v1 :: v2 :: v3 :: v4 :: v5 :: .ref am_ :: v7 :: v8 :: v9 :: v10 :: v11 :: v12 :: v13 :: v14 :: v15 :: v16 :: v17 :: v18 :: v19 :: v20 :: v21 :: v22 :: v23 :: v24 :: v25 :: v26 :: v27 :: v28 :: v29 :: v30 :: v31 :: v32 :: v33 :: v34 :: v35 :: v36 :: v37 :: v38 :: [])), (am_, .inl (gB g, 3072, .inl fm))]) hx hb hml hown hts hK hP hD hS hA hG hl.1 (c_slen l g k (by first | assumption | decide)) (cwV 0 hts gX9_endsWith_J0_length_8abf5 rfl rfl rfl (by decide +kernel) ⟨Nat.le_of_ble_eq_true rfl, Nat.le_of_ble_eq_true rfl⟩) (st_recv hG (k := k) (by assumption) hS) rfl rfl (Nat.le_of_ble_eq_true rfl) dX9_endsWith_44 ⟨show 0 + 0 ≤ 0 by omega, show 0 + 0 ≤ 0 by omega⟩ [] [0, 1] rfl rfl (by decide) (by decide) (by decide) (fun r_ w_ H locs hp_ hP hD hS => ?_)
              obtain ⟨rfl, rfl⟩ := hp_
              have hP : va_P (gD g) vwCl [(mm, .inr (7, v0 :: v1 :: v2 :: v3 :: v4 :: v5 :: .ref am_ :: v7 :: v8 :: v9 :: v10 :: v11 :: v12 :: v13 :: v14 :: v15 :: v16 :: v17 :: v18 :: v19 :: v20 :: v21 :: v22 :: v23 :: v24 :: v25 :: v26 :: v27 :: v28 :: v29 :: v30 :: v31 :: v32 :: v33 :: v34 :: v35 :: v36 :: v37 :: v38 :: [])), (am_, .inl (gB g, 3072, .inl fm))] H := hP
              have hD : va_D A [(mm, .inr (7, v0 :: v1 :: v2 :: v3 :: v4 :: v5 :: .ref am_ :: v7 :: v8 :: v9 :: v10 :: v11 :: v12 :: v13 :: v14 :: v15 :: v16 :: v17 :: v18 :: v19 :: v20 :: v21 :: v22 :: v23 :: v24 :: v25 :: v26 :: v27 :: v28 :: v29 :: v30 :: v31 :: v32 :: v33 :: v34 :: v35 :: v36 :: v37 :: v38 :: [])), (am_, .inl (gB g, 3072, .inl fm))] := hD
              refine W.eq (g2 := F0 m 47 ls [.int (nI (slen k)), .int (nI i)]) rfl ?_
              refine lv_icmp_ge (tgt := 86) hx hb dX9_endsWith_47 (by decide) (fun c47 => ?_) (fun c47 => ?_)
              · skip
                have c47 : slen k ≤ i := (nI_leI (a := slen k) (b := i) (by omega) (by omega)).mp c47
                refine lv_iconst (v := nI 1) hx hb dX9_endsWith_86 (by decide) ?_
                refine ct_iret (w := [(mm, .inr (7, v0 :: v1 :: v2 :: v3 :: v4 :: v5 :: .ref am_ :: v7 :: v8 :: v9 :: v10 :: v11 :: v12 :: v13 :: v14 :: v15 :: v16 :: v17 :: v18 :: v19 :: v20 :: v21 :: v22 :: v23 :: v24 :: v25 :: v26 :: v27 :: v28 :: v29 :: v30 :: v31 :: v32 :: v33 :: v34 :: v35 :: v36 :: v37 :: v38 :: [])), (am_, .inl (gB g, 3072, .inl fm))]) hx hb hr rfl hlocks hQ hAe hK (hP.sub [0, 1] rfl) (hD.sub [0, 1] (by decide) rfl) hS (by omega) (by omega) dX9_endsWith_87 ?_
                refine Or.inl (?_)
                exact ⟨rfl, rfl, by rw [← endL_e he]; exact ⟨by omega, fun j hj => hall j (by omega)⟩⟩
              · skip
                have c47 : ¬ (slen k ≤ i) := fun z => c47 ((nI_leI (a := slen k) (b := i) (by omega) (by omega)).mpr z)
                refine lv_aload_n hx hb dX9_endsWith_50 rfl (lv_at hl 0 rfl) ?_
                refine va_get (D := gD g) (ci := 7) (v := .ref am_) (C := RX9) (T := TX9) (N := 39) hx hb hts hinX9 hown hK hP 0 rfl rfl 6 (by decide) hf18 (fun _ h9 => h9) rfl dX9_endsWith_51 ?_
                refine lv_bipush (v := nI 48) hx hb dX9_endsWith_54 (by decide) ?_
                refine lv_iload_n hx hb dX9_endsWith_56 rfl (lv_at hl 1 rfl) ?_
                refine q_imul (v := nI (48 * t)) hx hb dX9_endsWith_57 (pk_mul 48 t) ?_
                refine lv_iload_n hx hb dX9_endsWith_58 rfl (lv_at hl 3 rfl) ?_
                refine q_iadd (v := nI (48 * t + ln)) hx hb dX9_endsWith_59 (nI_add (48 * t) ln) ?_
                refine lv_aload_n hx hb dX9_endsWith_60 rfl (lv_at hl 2 rfl) ?_
                refine ct_callV (wr := [(mm, .inr (7, v0 :: v1 :: v2 :: v3 :: v4 :: v5 :: .ref am_ :: v7 :: v8 :: v9 :: v10 :: v11 :: v12 :: v13 :: v14 :: v15 :: v16 :: v17 :: v18 :: v19 :: v20 :: v21 :: v22 :: v23 :: v24 :: v25 :: v26 :: v27 :: v28 :: v29 :: v30 :: v31 :: v32 :: v33 :: v34 :: v35 :: v36 :: v37 :: v38 :: [])), (am_, .inl (gB g, 3072, .inl fm))]) hx hb hml hown hts hK hP hD hS hA hG hl.1 (c_slen l g k (by first | assumption | decide)) (cwV 0 hts gX9_endsWith_J0_length_8abf5 rfl rfl rfl (by decide +kernel) ⟨Nat.le_of_ble_eq_true rfl, Nat.le_of_ble_eq_true rfl⟩) (st_recv hG (k := k) (by assumption) hS) rfl rfl (Nat.le_of_ble_eq_true rfl) dX9_endsWith_61 ⟨show 0 + 0 ≤ 0 by omega, show 0 + 0 ≤ 0 by omega⟩ [] [0, 1] rfl rfl (by decide) (by decide) (by decide) (fun r_ w_ H locs hp_ hP hD hS => ?_)
                obtain ⟨rfl, rfl⟩ := hp_
                have hP : va_P (gD g) vwCl [(mm, .inr (7, v0 :: v1 :: v2 :: v3 :: v4 :: v5 :: .ref am_ :: v7 :: v8 :: v9 :: v10 :: v11 :: v12 :: v13 :: v14 :: v15 :: v16 :: v17 :: v18 :: v19 :: v20 :: v21 :: v22 :: v23 :: v24 :: v25 :: v26 :: v27 :: v28 :: v29 :: v30 :: v31 :: v32 :: v33 :: v34 :: v35 :: v36 :: v37 :: v38 :: [])), (am_, .inl (gB g, 3072, .inl fm))] H := hP
                have hD : va_D A [(mm, .inr (7, v0 :: v1 :: v2 :: v3 :: v4 :: v5 :: .ref am_ :: v7 :: v8 :: v9 :: v10 :: v11 :: v12 :: v13 :: v14 :: v15 :: v16 :: v17 :: v18 :: v19 :: v20 :: v21 :: v22 :: v23 :: v24 :: v25 :: v26 :: v27 :: v28 :: v29 :: v30 :: v31 :: v32 :: v33 :: v34 :: v35 :: v36 :: v37 :: v38 :: [])), (am_, .inl (gB g, 3072, .inl fm))] := hD
                refine W.eq (g2 := F0 m 64 ls [.int (nI (slen k)), .int (nI (48 * t + ln)), .ref am_]) rfl ?_
                refine q_isub (v := nI ((48 * t + ln) - (slen k))) hx hb dX9_endsWith_64 (pk_sub (a := 48 * t + ln) (b := slen k) (by omega)) ?_
                refine lv_iload hx hb dX9_endsWith_65 (lv_at hl 4 rfl) ?_
                refine q_iadd (v := nI ((48 * t + ln) - (slen k) + i)) hx hb dX9_endsWith_67 (nI_add ((48 * t + ln) - (slen k)) i) ?_
                refine q_bald hx hb hK hP 1 rfl ((48 * t + ln) - (slen k) + i) rfl (by omega) (by omega) dX9_endsWith_68 ?_
                refine q_top (v := Nl.getD (Nl.length - slen k + i) 0) (by rw [show (48 * t + ln) - (slen k) + i = 48 * t + (Nl.length - slen k + i) by omega, hNM t ht (Nl.length - slen k + i) (by omega)]; exact nm_raw hfe hnm hNv (by omega)) ?_
                refine lv_aload_n hx hb dX9_endsWith_69 rfl (lv_at hl 2 rfl) ?_
                refine lv_iload hx hb dX9_endsWith_70 (lv_at hl 4 rfl) ?_
                refine ct_callV (wr := [(mm, .inr (7, v0 :: v1 :: v2 :: v3 :: v4 :: v5 :: .ref am_ :: v7 :: v8 :: v9 :: v10 :: v11 :: v12 :: v13 :: v14 :: v15 :: v16 :: v17 :: v18 :: v19 :: v20 :: v21 :: v22 :: v23 :: v24 :: v25 :: v26 :: v27 :: v28 :: v29 :: v30 :: v31 :: v32 :: v33 :: v34 :: v35 :: v36 :: v37 :: v38 :: [])), (am_, .inl (gB g, 3072, .inl fm))]) hx hb hml hown hts hK hP hD hS hA hG hl.1 (c_charAt l g k i (by first | assumption | decide) (by omega)) (cwV 1 hts gX9_endsWith_J0_charAt_5068e rfl rfl rfl (by decide +kernel) ⟨Nat.le_of_ble_eq_true rfl, Nat.le_of_ble_eq_true rfl⟩) (st_recv hG (k := k) (by assumption) hS) rfl rfl (Nat.le_of_ble_eq_true rfl) dX9_endsWith_72 ⟨show 0 + 0 ≤ 0 by omega, show 0 + 0 ≤ 0 by omega⟩ [] [0, 1] rfl rfl (by decide) (by decide) (by decide) (fun r_ w_ H locs hp_ hP hD hS => ?_)
                obtain ⟨rfl, rfl⟩ := hp_
                have hP : va_P (gD g) vwCl [(mm, .inr (7, v0 :: v1 :: v2 :: v3 :: v4 :: v5 :: .ref am_ :: v7 :: v8 :: v9 :: v10 :: v11 :: v12 :: v13 :: v14 :: v15 :: v16 :: v17 :: v18 :: v19 :: v20 :: v21 :: v22 :: v23 :: v24 :: v25 :: v26 :: v27 :: v28 :: v29 :: v30 :: v31 :: v32 :: v33 :: v34 :: v35 :: v36 :: v37 :: v38 :: [])), (am_, .inl (gB g, 3072, .inl fm))] H := hP
                have hD : va_D A [(mm, .inr (7, v0 :: v1 :: v2 :: v3 :: v4 :: v5 :: .ref am_ :: v7 :: v8 :: v9 :: v10 :: v11 :: v12 :: v13 :: v14 :: v15 :: v16 :: v17 :: v18 :: v19 :: v20 :: v21 :: v22 :: v23 :: v24 :: v25 :: v26 :: v27 :: v28 :: v29 :: v30 :: v31 :: v32 :: v33 :: v34 :: v35 :: v36 :: v37 :: v38 :: [])), (am_, .inl (gB g, 3072, .inl fm))] := hD
                refine W.eq (g2 := F0 m 75 ls [.int (sbyt k i &&& 255), .int (Nl.getD (Nl.length - slen k + i) 0)]) rfl ?_
                refine lv_icmp_eq (tgt := 80) hx hb dX9_endsWith_75 (by decide) (fun c75 => ?_) (fun c75 => ?_)
                · skip
                  refine lv_iinc (v := nI (i + 1)) (lv' := [(4, .int (nI (i + 1))), (0, .ref mm), (1, .int (nI t)), (2, .ref (gK g k)), (3, .int (nI ln))]) hx hb dX9_endsWith_80 hl (k := 4) rfl (nI_inc i 1) (by decide) rfl (fun ls hl => ?_)
                  refine lv_goto (tgt := 41) hx hb dX9_endsWith_83 (by decide) ?_
                  exact ih_K41 (i + 1) (by omega) (by exact lt_s hall ((vis_and (hNv _ (by omega))).trans c75)) (by omega) _ _ _ (hP.sub [0, 1] rfl) (hD.sub [0, 1] (by decide) rfl) hS (lv_sub hl [1, 2, 3, 4, 0] rfl)
                · skip
                  refine lv_iconst (v := nI 0) hx hb dX9_endsWith_78 (by decide) ?_
                  refine ct_iret (w := [(mm, .inr (7, v0 :: v1 :: v2 :: v3 :: v4 :: v5 :: .ref am_ :: v7 :: v8 :: v9 :: v10 :: v11 :: v12 :: v13 :: v14 :: v15 :: v16 :: v17 :: v18 :: v19 :: v20 :: v21 :: v22 :: v23 :: v24 :: v25 :: v26 :: v27 :: v28 :: v29 :: v30 :: v31 :: v32 :: v33 :: v34 :: v35 :: v36 :: v37 :: v38 :: [])), (am_, .inl (gB g, 3072, .inl fm))]) hx hb hr rfl hlocks hQ hAe hK (hP.sub [0, 1] rfl) (hD.sub [0, 1] (by decide) rfl) hS (by omega) (by omega) dX9_endsWith_79 ?_
                  refine Or.inr ((?_))
                  exact ⟨rfl, rfl, by rw [← endL_e he]; first | exact fun z => absurd z.1 (by omega) | exact fun z => c75 ((vis_and (hNv _ (by omega))).symm.trans (z.2 i (by omega)))⟩
          exact K41 ((slen k - 0) + 1) 0 (by omega) (by intro j h1; omega) (Nat.lt_succ_self _) _ _ _ (hP.sub [0, 1] rfl) (hD.sub [0, 1] (by decide) rfl) hS (lv_sub hl [1, 2, 3, 4, 0] rfl)
        · skip
          have c33 : ¬ (slen k ≤ ln) := fun z => c33 ((nI_leI (a := slen k) (b := ln) (by omega) (by omega)).mpr z)
          refine lv_iconst (v := nI 0) hx hb dX9_endsWith_36 (by decide) ?_
          refine ct_iret (w := [(mm, .inr (7, v0 :: v1 :: v2 :: v3 :: v4 :: v5 :: .ref am_ :: v7 :: v8 :: v9 :: v10 :: v11 :: v12 :: v13 :: v14 :: v15 :: v16 :: v17 :: v18 :: v19 :: v20 :: v21 :: v22 :: v23 :: v24 :: v25 :: v26 :: v27 :: v28 :: v29 :: v30 :: v31 :: v32 :: v33 :: v34 :: v35 :: v36 :: v37 :: v38 :: [])), (am_, .inl (gB g, 3072, .inl fm))]) hx hb hr rfl hlocks hQ hAe hK (hP.sub [0, 1] rfl) (hD.sub [0, 1] (by decide) rfl) hS (by omega) (by omega) dX9_endsWith_37 ?_
          refine Or.inr ((?_))
          exact ⟨rfl, rfl, by rw [← endL_e he]; first | exact fun z => absurd z.1 (by omega) | exact fun z => c75 ((vis_and (hNv _ (by omega))).symm.trans (z.2 i (by omega)))⟩
      refine lv_iload_n hx hb dX9_endsWith_2 rfl (lv_at hl 3 rfl) ?_
      refine lv_bipush (v := nI 48) hx hb dX9_endsWith_3 (by decide) ?_
      refine lv_icmp_ge (tgt := 28) hx hb dX9_endsWith_5 (by decide) (fun c5 => ?_) (fun c5 => ?_)
      · skip
        have c5 : 48 ≤ ln := (nI_leI (a := 48) (b := ln) (by omega) (by omega)).mp c5
        exact absurd c5 (by omega)
      · skip
        have c5 : ¬ (48 ≤ ln) := fun z => c5 ((nI_leI (a := 48) (b := ln) (by omega) (by omega)).mpr z)
        refine lv_aload_n hx hb dX9_endsWith_8 rfl (lv_at hl 0 rfl) ?_
        refine va_get (D := gD g) (ci := 7) (v := .ref am_) (C := RX9) (T := TX9) (N := 39) hx hb hts hinX9 hown hK hP 0 rfl rfl 6 (by decide) hf18 (fun _ h9 => h9) rfl dX9_endsWith_9 ?_
        refine lv_bipush (v := nI 48) hx hb dX9_endsWith_12 (by decide) ?_
        refine lv_iload_n hx hb dX9_endsWith_14 rfl (lv_at hl 1 rfl) ?_
        refine q_imul (v := nI (48 * t)) hx hb dX9_endsWith_15 (pk_mul 48 t) ?_
        refine lv_iload_n hx hb dX9_endsWith_16 rfl (lv_at hl 3 rfl) ?_
        refine q_iadd (v := nI (48 * t + ln)) hx hb dX9_endsWith_17 (nI_add (48 * t) ln) ?_
        refine q_bald hx hb hK hP 1 rfl (48 * t + ln) rfl (by omega) (by omega) dX9_endsWith_18 ?_
        refine q_top (v := fe (t * 64 + ln)) (hNM t (by omega) ln (by omega)) ?_
        refine lv_if_eq (tgt := 28) hx hb dX9_endsWith_19 (by decide) (fun c19 => ?_) (fun c19 => ?_)
        · skip
          exact J28  (by exact (if z : ln < Nl.length then absurd ((nm_raw hfe hnm hNv z).symm.trans c19) (vis_n0 (hNv _ z)) else by omega)) _ _ _ (hP.sub [0, 1] rfl) (hD.sub [0, 1] (by decide) rfl) hS (lv_sub hl [0, 1, 2, 3] rfl)
        · skip
          refine lv_iinc (v := nI (ln + 1)) (lv' := [(3, .int (nI (ln + 1))), (0, .ref mm), (1, .int (nI t)), (2, .ref (gK g k))]) hx hb dX9_endsWith_22 hl (k := 3) rfl (nI_inc ln 1) (by decide) rfl (fun ls hl => ?_)
          refine lv_goto (tgt := 2) hx hb dX9_endsWith_25 (by decide) ?_
          exact ih_K2 (ln + 1) (by exact (if z : ln < Nl.length then (by omega) else absurd (nm_zero hfe hnm (by omega) (by omega)) c19)) (by omega) _ _ _ (hP.sub [0, 1] rfl) (hD.sub [0, 1] (by decide) rfl) hS (lv_sub hl [1, 2, 3, 0] rfl)
  exact K2 ((48 - 0) + 1) 0 (by omega) (Nat.lt_succ_self _) _ _ _ (hP.sub [0, 1] rfl) (hD.sub [0, 1] (by decide) rfl) hS (lv_sub hl [1, 2, 3, 0] rfl)

set_option maxHeartbeats 4000000 in
set_option maxRecDepth 100000 in
theorem c_mType (l : Launch) (g : GT) (mm : Nat) (v0 : Value) (v1 : Value) (v2 : Value) (v3 : Value) (v4 : Value) (v5 : Value) (am_ : Nat) (v7 : Value) (v8 : Value) (v9 : Value) (v10 : Value) (v11 : Value) (v12 : Value) (v13 : Value) (v14 : Value) (v15 : Value) (v16 : Value) (v17 : Value) (v18 : Value) (v19 : Value) (v20 : Value) (v21 : Value) (v22 : Value) (v23 : Value) (v24 : Value) (v25 : Value) (v26 : Value) (v27 : Value) (v28 : Value) (v29 : Value) (v30 : Value) (v31 : Value) (v32 : Value) (v33 : Value) (v34 : Value) (v35 : Value) (v36 : Value) (v37 : Value) (v38 : Value) (fm : Nat → Int32) (fe : Nat → Int32) (c0 : Nat) (t : Nat) (Nl : List Int32) (hc0 : c0 ≤ 64) (hNM : ∀ t, t < c0 → ∀ j, j < 48 → fm (48 * t + j) = fe (t * 64 + j)) (hfe : sb_Fit fe) (ht : t < c0) (hnm : nmD fe t Nl) (hNv : ∀ j, j < Nl.length → pVis (Nl.getD j 0)) : CT l g yX9_type wsX9_type ({ frames := 5, cells := 0, slots := 0, locals := 109 } : Room) [.ref mm, .int (nI t)] [(mm, .inr (7, v0 :: v1 :: v2 :: v3 :: v4 :: v5 :: .ref am_ :: v7 :: v8 :: v9 :: v10 :: v11 :: v12 :: v13 :: v14 :: v15 :: v16 :: v17 :: v18 :: v19 :: v20 :: v21 :: v22 :: v23 :: v24 :: v25 :: v26 :: v27 :: v28 :: v29 :: v30 :: v31 :: v32 :: v33 :: v34 :: v35 :: v36 :: v37 :: v38 :: [])), (am_, .inl (gB g, 3072, .inl fm))] (fun r w => (∃ (q : Nat), r = some (.ref (gK g q)) ∧ w = [(mm, .inr (7, v0 :: v1 :: v2 :: v3 :: v4 :: v5 :: .ref am_ :: v7 :: v8 :: v9 :: v10 :: v11 :: v12 :: v13 :: v14 :: v15 :: v16 :: v17 :: v18 :: v19 :: v20 :: v21 :: v22 :: v23 :: v24 :: v25 :: v26 :: v27 :: v28 :: v29 :: v30 :: v31 :: v32 :: v33 :: v34 :: v35 :: v36 :: v37 :: v38 :: [])), (am_, .inl (gB g, 3072, .inl fm))] ∧ (q < 84) ∧ (sL q = sL (typL Nl)))) (0) (0) := by
  refine ct_of (cc := cX9_type) (maxL := 2) (ret := (some (.object "java/lang/String"))) (by decide) rfl (Nat.le_of_ble_eq_true rfl) ?_
  intro p e s m args below meth c A Q hx hb hr hml hown hts hlocks hnam hAe hQ hA hG hK hP hD hS ls hl
  have hl : lv_has ls 2 [(0, .ref mm), (1, .int (nI t))] := hl
  have hown : s.vm.findClass RX9 = some m.cls := hown
  refine lv_iload_n hx hb dX9_type_0 rfl (lv_at hl 1 rfl) ?_
  refine lv_if_lt (tgt := 15) hx hb dX9_type_1 (by decide) (fun c1 => ?_) (fun c1 => ?_)
  · skip
    have c1 : t < 0 := (nI_ltI (a := t) (b := 0) (by omega) (by omega)).mp c1
    exact absurd c1 (by omega)
  · skip
    have c1 : ¬ (t < 0) := fun z => c1 ((nI_ltI (a := t) (b := 0) (by omega) (by omega)).mpr z)
    refine lv_aload_n hx hb dX9_type_4 rfl (lv_at hl 0 rfl) ?_
    refine lv_iload_n hx hb dX9_type_5 rfl (lv_at hl 1 rfl) ?_
    refine q_ldcwS hx hb hown ((hG.1 61 (by decide)).2.2.2.2) dX9_type_6 ?_
    refine ct_callV (wr := []) hx hb hml hown hts hK hP hD hS hA hG hl.1 (c_mEnds l g mm ((v0 : Value)) ((v1 : Value)) ((v2 : Value)) ((v3 : Value)) ((v4 : Value)) ((v5 : Value)) am_ ((v7 : Value)) ((v8 : Value)) ((v9 : Value)) ((v10 : Value)) ((v11 : Value)) ((v12 : Value)) ((v13 : Value)) ((v14 : Value)) ((v15 : Value)) ((v16 : Value)) ((v17 : Value)) ((v18 : Value)) ((v19 : Value)) ((v20 : Value)) ((v21 : Value)) ((v22 : Value)) ((v23 : Value)) ((v24 : Value)) ((v25 : Value)) ((v26 : Value)) ((v27 : Value)) ((v28 : Value)) ((v29 : Value)) ((v30 : Value)) ((v31 : Value)) ((v32 : Value)) ((v33 : Value)) ((v34 : Value)) ((v35 : Value)) ((v36 : Value)) ((v37 : Value)) ((v38 : Value)) fm fe c0 t Nl 61 23 (by omega) (by assumption) (by assumption) (by omega) (by assumption) (by assumption) (by first | assumption | decide) (by first | assumption | rfl)) (cwV 2 hts gX9_type_X9_endsWith rfl rfl rfl (by decide +kernel) ⟨Nat.le_of_ble_eq_true rfl, Nat.le_of_ble_eq_true rfl⟩) (va_recv hK hP (ci := 7) (q0 := 0) rfl rfl) rfl rfl (Nat.le_of_ble_eq_true rfl) dX9_type_9 ⟨show 0 + 0 ≤ 0 by omega, show 0 + 0 ≤ 0 by omega⟩ [0, 1] [] rfl rfl (by decide) (by decide) (by decide) (fun r_ w_ H locs hp_ hP hD hS => ?_)
    rcases hp_ with ⟨rfl, rfl, hT_9⟩ | ⟨rfl, rfl, hF_9⟩
    · skip
      have hP : va_P (gD g) vwCl [(mm, .inr (7, v0 :: v1 :: v2 :: v3 :: v4 :: v5 :: .ref am_ :: v7 :: v8 :: v9 :: v10 :: v11 :: v12 :: v13 :: v14 :: v15 :: v16 :: v17 :: v18 :: v19 :: v20 :: v21 :: v22 :: v23 :: v24 :: v25 :: v26 :: v27 :: v28 :: v29 :: v30 :: v31 :: v32 :: v33 :: v34 :: v35 :: v36 :: v37 :: v38 :: [])), (am_, .inl (gB g, 3072, .inl fm))] H := hP
      have hD : va_D A [(mm, .inr (7, v0 :: v1 :: v2 :: v3 :: v4 :: v5 :: .ref am_ :: v7 :: v8 :: v9 :: v10 :: v11 :: v12 :: v13 :: v14 :: v15 :: v16 :: v17 :: v18 :: v19 :: v20 :: v21 :: v22 :: v23 :: v24 :: v25 :: v26 :: v27 :: v28 :: v29 :: v30 :: v31 :: v32 :: v33 :: v34 :: v35 :: v36 :: v37 :: v38 :: [])), (am_, .inl (gB g, 3072, .inl fm))] := hD
      have hT_9 : endL Nl 23 := hT_9
      refine W.eq (g2 := F0 m 12 ls [.int (nI 1)]) rfl ?_
      refine lv_if_eq (tgt := 19) hx hb dX9_type_12 (by decide) (fun c12 => absurd c12 (by decide)) (fun _ => ?_)
      refine q_ldcwS hx hb hown ((hG.1 62 (by decide)).2.2.2.2) dX9_type_15 ?_
      refine ct_aret (w := [(mm, .inr (7, v0 :: v1 :: v2 :: v3 :: v4 :: v5 :: .ref am_ :: v7 :: v8 :: v9 :: v10 :: v11 :: v12 :: v13 :: v14 :: v15 :: v16 :: v17 :: v18 :: v19 :: v20 :: v21 :: v22 :: v23 :: v24 :: v25 :: v26 :: v27 :: v28 :: v29 :: v30 :: v31 :: v32 :: v33 :: v34 :: v35 :: v36 :: v37 :: v38 :: [])), (am_, .inl (gB g, 3072, .inl fm))]) hx hb hr (Or.inl ⟨_, rfl⟩) hlocks hQ hAe hK (hP.sub [0, 1] rfl) (hD.sub [0, 1] (by decide) rfl) hS (by omega) (by omega) dX9_type_18 ?_
      exact ⟨62, rfl, rfl, by decide, by rw [show typL Nl = _ from (iteC_n (endL_ne hT_9 (by decide) (by decide) (by decide))).trans ((iteC_n (endL_ne hT_9 (by decide) (by decide) (by decide))).trans ((iteC_n (endL_ne hT_9 (by decide) (by decide) (by decide))).trans (iteC_p hT_9)))]; rfl⟩
    · skip
      have hP : va_P (gD g) vwCl [(mm, .inr (7, v0 :: v1 :: v2 :: v3 :: v4 :: v5 :: .ref am_ :: v7 :: v8 :: v9 :: v10 :: v11 :: v12 :: v13 :: v14 :: v15 :: v16 :: v17 :: v18 :: v19 :: v20 :: v21 :: v22 :: v23 :: v24 :: v25 :: v26 :: v27 :: v28 :: v29 :: v30 :: v31 :: v32 :: v33 :: v34 :: v35 :: v36 :: v37 :: v38 :: [])), (am_, .inl (gB g, 3072, .inl fm))] H := hP
      have hD : va_D A [(mm, .inr (7, v0 :: v1 :: v2 :: v3 :: v4 :: v5 :: .ref am_ :: v7 :: v8 :: v9 :: v10 :: v11 :: v12 :: v13 :: v14 :: v15 :: v16 :: v17 :: v18 :: v19 :: v20 :: v21 :: v22 :: v23 :: v24 :: v25 :: v26 :: v27 :: v28 :: v29 :: v30 :: v31 :: v32 :: v33 :: v34 :: v35 :: v36 :: v37 :: v38 :: [])), (am_, .inl (gB g, 3072, .inl fm))] := hD
      have hF_9 : ¬ (endL Nl 23) := hF_9
      refine W.eq (g2 := F0 m 12 ls [.int (nI 0)]) rfl ?_
      refine lv_if_eq (tgt := 19) hx hb dX9_type_12 (by decide) (fun _ => ?_) (fun c12 => absurd (by decide) c12)
      refine lv_aload_n hx hb dX9_type_19 rfl (lv_at hl 0 rfl) ?_
      refine lv_iload_n hx hb dX9_type_20 rfl (lv_at hl 1 rfl) ?_
      refine q_ldcwS hx hb hown ((hG.1 63 (by decide)).2.2.2.2) dX9_type_21 ?_
      refine ct_callV (wr := []) hx hb hml hown hts hK hP hD hS hA hG hl.1 (c_mEnds l g mm ((v0 : Value)) ((v1 : Value)) ((v2 : Value)) ((v3 : Value)) ((v4 : Value)) ((v5 : Value)) am_ ((v7 : Value)) ((v8 : Value)) ((v9 : Value)) ((v10 : Value)) ((v11 : Value)) ((v12 : Value)) ((v13 : Value)) ((v14 : Value)) ((v15 : Value)) ((v16 : Value)) ((v17 : Value)) ((v18 : Value)) ((v19 : Value)) ((v20 : Value)) ((v21 : Value)) ((v22 : Value)) ((v23 : Value)) ((v24 : Value)) ((v25 : Value)) ((v26 : Value)) ((v27 : Value)) ((v28 : Value)) ((v29 : Value)) ((v30 : Value)) ((v31 : Value)) ((v32 : Value)) ((v33 : Value)) ((v34 : Value)) ((v35 : Value)) ((v36 : Value)) ((v37 : Value)) ((v38 : Value)) fm fe c0 t Nl 63 17 (by omega) (by assumption) (by assumption) (by omega) (by assumption) (by assumption) (by first | assumption | decide) (by first | assumption | rfl)) (cwV 2 hts gX9_type_X9_endsWith rfl rfl rfl (by decide +kernel) ⟨Nat.le_of_ble_eq_true rfl, Nat.le_of_ble_eq_true rfl⟩) (va_recv hK hP (ci := 7) (q0 := 0) rfl rfl) rfl rfl (Nat.le_of_ble_eq_true rfl) dX9_type_24 ⟨show 0 + 0 ≤ 0 by omega, show 0 + 0 ≤ 0 by omega⟩ [0, 1] [] rfl rfl (by decide) (by decide) (by decide) (fun r_ w_ H locs hp_ hP hD hS => ?_)
      rcases hp_ with ⟨rfl, rfl, hT_24⟩ | ⟨rfl, rfl, hF_24⟩
      · skip
        have hP : va_P (gD g) vwCl [(mm, .inr (7, v0 :: v1 :: v2 :: v3 :: v4 :: v5 :: .ref am_ :: v7 :: v8 :: v9 :: v10 :: v11 :: v12 :: v13 :: v14 :: v15 :: v16 :: v17 :: v18 :: v19 :: v20 :: v21 :: v22 :: v23 :: v24 :: v25 :: v26 :: v27 :: v28 :: v29 :: v30 :: v31 :: v32 :: v33 :: v34 :: v35 :: v36 :: v37 :: v38 :: [])), (am_, .inl (gB g, 3072, .inl fm))] H := hP
        have hD : va_D A [(mm, .inr (7, v0 :: v1 :: v2 :: v3 :: v4 :: v5 :: .ref am_ :: v7 :: v8 :: v9 :: v10 :: v11 :: v12 :: v13 :: v14 :: v15 :: v16 :: v17 :: v18 :: v19 :: v20 :: v21 :: v22 :: v23 :: v24 :: v25 :: v26 :: v27 :: v28 :: v29 :: v30 :: v31 :: v32 :: v33 :: v34 :: v35 :: v36 :: v37 :: v38 :: [])), (am_, .inl (gB g, 3072, .inl fm))] := hD
        have hT_24 : endL Nl 17 := hT_24
        refine W.eq (g2 := F0 m 27 ls [.int (nI 1)]) rfl ?_
        refine lv_if_eq (tgt := 34) hx hb dX9_type_27 (by decide) (fun c27 => absurd c27 (by decide)) (fun _ => ?_)
        refine q_ldcwS hx hb hown ((hG.1 64 (by decide)).2.2.2.2) dX9_type_30 ?_
        refine ct_aret (w := [(mm, .inr (7, v0 :: v1 :: v2 :: v3 :: v4 :: v5 :: .ref am_ :: v7 :: v8 :: v9 :: v10 :: v11 :: v12 :: v13 :: v14 :: v15 :: v16 :: v17 :: v18 :: v19 :: v20 :: v21 :: v22 :: v23 :: v24 :: v25 :: v26 :: v27 :: v28 :: v29 :: v30 :: v31 :: v32 :: v33 :: v34 :: v35 :: v36 :: v37 :: v38 :: [])), (am_, .inl (gB g, 3072, .inl fm))]) hx hb hr (Or.inl ⟨_, rfl⟩) hlocks hQ hAe hK (hP.sub [0, 1] rfl) (hD.sub [0, 1] (by decide) rfl) hS (by omega) (by omega) dX9_type_33 ?_
        exact ⟨64, rfl, rfl, by decide, by rw [show typL Nl = _ from iteC_p hT_24]; rfl⟩
      · skip
        have hP : va_P (gD g) vwCl [(mm, .inr (7, v0 :: v1 :: v2 :: v3 :: v4 :: v5 :: .ref am_ :: v7 :: v8 :: v9 :: v10 :: v11 :: v12 :: v13 :: v14 :: v15 :: v16 :: v17 :: v18 :: v19 :: v20 :: v21 :: v22 :: v23 :: v24 :: v25 :: v26 :: v27 :: v28 :: v29 :: v30 :: v31 :: v32 :: v33 :: v34 :: v35 :: v36 :: v37 :: v38 :: [])), (am_, .inl (gB g, 3072, .inl fm))] H := hP
        have hD : va_D A [(mm, .inr (7, v0 :: v1 :: v2 :: v3 :: v4 :: v5 :: .ref am_ :: v7 :: v8 :: v9 :: v10 :: v11 :: v12 :: v13 :: v14 :: v15 :: v16 :: v17 :: v18 :: v19 :: v20 :: v21 :: v22 :: v23 :: v24 :: v25 :: v26 :: v27 :: v28 :: v29 :: v30 :: v31 :: v32 :: v33 :: v34 :: v35 :: v36 :: v37 :: v38 :: [])), (am_, .inl (gB g, 3072, .inl fm))] := hD
        have hF_24 : ¬ (endL Nl 17) := hF_24
        refine W.eq (g2 := F0 m 27 ls [.int (nI 0)]) rfl ?_
        refine lv_if_eq (tgt := 34) hx hb dX9_type_27 (by decide) (fun _ => ?_) (fun c27 => absurd (by decide) c27)
        refine lv_aload_n hx hb dX9_type_34 rfl (lv_at hl 0 rfl) ?_
        refine lv_iload_n hx hb dX9_type_35 rfl (lv_at hl 1 rfl) ?_
        refine q_ldcwS hx hb hown ((hG.1 65 (by decide)).2.2.2.2) dX9_type_36 ?_
        refine ct_callV (wr := []) hx hb hml hown hts hK hP hD hS hA hG hl.1 (c_mEnds l g mm ((v0 : Value)) ((v1 : Value)) ((v2 : Value)) ((v3 : Value)) ((v4 : Value)) ((v5 : Value)) am_ ((v7 : Value)) ((v8 : Value)) ((v9 : Value)) ((v10 : Value)) ((v11 : Value)) ((v12 : Value)) ((v13 : Value)) ((v14 : Value)) ((v15 : Value)) ((v16 : Value)) ((v17 : Value)) ((v18 : Value)) ((v19 : Value)) ((v20 : Value)) ((v21 : Value)) ((v22 : Value)) ((v23 : Value)) ((v24 : Value)) ((v25 : Value)) ((v26 : Value)) ((v27 : Value)) ((v28 : Value)) ((v29 : Value)) ((v30 : Value)) ((v31 : Value)) ((v32 : Value)) ((v33 : Value)) ((v34 : Value)) ((v35 : Value)) ((v36 : Value)) ((v37 : Value)) ((v38 : Value)) fm fe c0 t Nl 65 19 (by omega) (by assumption) (by assumption) (by omega) (by assumption) (by assumption) (by first | assumption | decide) (by first | assumption | rfl)) (cwV 2 hts gX9_type_X9_endsWith rfl rfl rfl (by decide +kernel) ⟨Nat.le_of_ble_eq_true rfl, Nat.le_of_ble_eq_true rfl⟩) (va_recv hK hP (ci := 7) (q0 := 0) rfl rfl) rfl rfl (Nat.le_of_ble_eq_true rfl) dX9_type_39 ⟨show 0 + 0 ≤ 0 by omega, show 0 + 0 ≤ 0 by omega⟩ [0, 1] [] rfl rfl (by decide) (by decide) (by decide) (fun r_ w_ H locs hp_ hP hD hS => ?_)
        rcases hp_ with ⟨rfl, rfl, hT_39⟩ | ⟨rfl, rfl, hF_39⟩
        · skip
          have hP : va_P (gD g) vwCl [(mm, .inr (7, v0 :: v1 :: v2 :: v3 :: v4 :: v5 :: .ref am_ :: v7 :: v8 :: v9 :: v10 :: v11 :: v12 :: v13 :: v14 :: v15 :: v16 :: v17 :: v18 :: v19 :: v20 :: v21 :: v22 :: v23 :: v24 :: v25 :: v26 :: v27 :: v28 :: v29 :: v30 :: v31 :: v32 :: v33 :: v34 :: v35 :: v36 :: v37 :: v38 :: [])), (am_, .inl (gB g, 3072, .inl fm))] H := hP
          have hD : va_D A [(mm, .inr (7, v0 :: v1 :: v2 :: v3 :: v4 :: v5 :: .ref am_ :: v7 :: v8 :: v9 :: v10 :: v11 :: v12 :: v13 :: v14 :: v15 :: v16 :: v17 :: v18 :: v19 :: v20 :: v21 :: v22 :: v23 :: v24 :: v25 :: v26 :: v27 :: v28 :: v29 :: v30 :: v31 :: v32 :: v33 :: v34 :: v35 :: v36 :: v37 :: v38 :: [])), (am_, .inl (gB g, 3072, .inl fm))] := hD
          have hT_39 : endL Nl 19 := hT_39
          refine W.eq (g2 := F0 m 42 ls [.int (nI 1)]) rfl ?_
          refine lv_if_eq (tgt := 49) hx hb dX9_type_42 (by decide) (fun c42 => absurd c42 (by decide)) (fun _ => ?_)
          refine q_ldcwS hx hb hown ((hG.1 66 (by decide)).2.2.2.2) dX9_type_45 ?_
          refine ct_aret (w := [(mm, .inr (7, v0 :: v1 :: v2 :: v3 :: v4 :: v5 :: .ref am_ :: v7 :: v8 :: v9 :: v10 :: v11 :: v12 :: v13 :: v14 :: v15 :: v16 :: v17 :: v18 :: v19 :: v20 :: v21 :: v22 :: v23 :: v24 :: v25 :: v26 :: v27 :: v28 :: v29 :: v30 :: v31 :: v32 :: v33 :: v34 :: v35 :: v36 :: v37 :: v38 :: [])), (am_, .inl (gB g, 3072, .inl fm))]) hx hb hr (Or.inl ⟨_, rfl⟩) hlocks hQ hAe hK (hP.sub [0, 1] rfl) (hD.sub [0, 1] (by decide) rfl) hS (by omega) (by omega) dX9_type_48 ?_
          exact ⟨66, rfl, rfl, by decide, by rw [show typL Nl = _ from (iteC_n (hF_24)).trans (iteC_p hT_39)]; rfl⟩
        · skip
          have hP : va_P (gD g) vwCl [(mm, .inr (7, v0 :: v1 :: v2 :: v3 :: v4 :: v5 :: .ref am_ :: v7 :: v8 :: v9 :: v10 :: v11 :: v12 :: v13 :: v14 :: v15 :: v16 :: v17 :: v18 :: v19 :: v20 :: v21 :: v22 :: v23 :: v24 :: v25 :: v26 :: v27 :: v28 :: v29 :: v30 :: v31 :: v32 :: v33 :: v34 :: v35 :: v36 :: v37 :: v38 :: [])), (am_, .inl (gB g, 3072, .inl fm))] H := hP
          have hD : va_D A [(mm, .inr (7, v0 :: v1 :: v2 :: v3 :: v4 :: v5 :: .ref am_ :: v7 :: v8 :: v9 :: v10 :: v11 :: v12 :: v13 :: v14 :: v15 :: v16 :: v17 :: v18 :: v19 :: v20 :: v21 :: v22 :: v23 :: v24 :: v25 :: v26 :: v27 :: v28 :: v29 :: v30 :: v31 :: v32 :: v33 :: v34 :: v35 :: v36 :: v37 :: v38 :: [])), (am_, .inl (gB g, 3072, .inl fm))] := hD
          have hF_39 : ¬ (endL Nl 19) := hF_39
          refine W.eq (g2 := F0 m 42 ls [.int (nI 0)]) rfl ?_
          refine lv_if_eq (tgt := 49) hx hb dX9_type_42 (by decide) (fun _ => ?_) (fun c42 => absurd (by decide) c42)
          refine lv_aload_n hx hb dX9_type_49 rfl (lv_at hl 0 rfl) ?_
          refine lv_iload_n hx hb dX9_type_50 rfl (lv_at hl 1 rfl) ?_
          refine q_ldcwS hx hb hown ((hG.1 67 (by decide)).2.2.2.2) dX9_type_51 ?_
          refine ct_callV (wr := []) hx hb hml hown hts hK hP hD hS hA hG hl.1 (c_mEnds l g mm ((v0 : Value)) ((v1 : Value)) ((v2 : Value)) ((v3 : Value)) ((v4 : Value)) ((v5 : Value)) am_ ((v7 : Value)) ((v8 : Value)) ((v9 : Value)) ((v10 : Value)) ((v11 : Value)) ((v12 : Value)) ((v13 : Value)) ((v14 : Value)) ((v15 : Value)) ((v16 : Value)) ((v17 : Value)) ((v18 : Value)) ((v19 : Value)) ((v20 : Value)) ((v21 : Value)) ((v22 : Value)) ((v23 : Value)) ((v24 : Value)) ((v25 : Value)) ((v26 : Value)) ((v27 : Value)) ((v28 : Value)) ((v29 : Value)) ((v30 : Value)) ((v31 : Value)) ((v32 : Value)) ((v33 : Value)) ((v34 : Value)) ((v35 : Value)) ((v36 : Value)) ((v37 : Value)) ((v38 : Value)) fm fe c0 t Nl 67 21 (by omega) (by assumption) (by assumption) (by omega) (by assumption) (by assumption) (by first | assumption | decide) (by first | assumption | rfl)) (cwV 2 hts gX9_type_X9_endsWith rfl rfl rfl (by decide +kernel) ⟨Nat.le_of_ble_eq_true rfl, Nat.le_of_ble_eq_true rfl⟩) (va_recv hK hP (ci := 7) (q0 := 0) rfl rfl) rfl rfl (Nat.le_of_ble_eq_true rfl) dX9_type_54 ⟨show 0 + 0 ≤ 0 by omega, show 0 + 0 ≤ 0 by omega⟩ [0, 1] [] rfl rfl (by decide) (by decide) (by decide) (fun r_ w_ H locs hp_ hP hD hS => ?_)
          rcases hp_ with ⟨rfl, rfl, hT_54⟩ | ⟨rfl, rfl, hF_54⟩
          · skip
            have hP : va_P (gD g) vwCl [(mm, .inr (7, v0 :: v1 :: v2 :: v3 :: v4 :: v5 :: .ref am_ :: v7 :: v8 :: v9 :: v10 :: v11 :: v12 :: v13 :: v14 :: v15 :: v16 :: v17 :: v18 :: v19 :: v20 :: v21 :: v22 :: v23 :: v24 :: v25 :: v26 :: v27 :: v28 :: v29 :: v30 :: v31 :: v32 :: v33 :: v34 :: v35 :: v36 :: v37 :: v38 :: [])), (am_, .inl (gB g, 3072, .inl fm))] H := hP
            have hD : va_D A [(mm, .inr (7, v0 :: v1 :: v2 :: v3 :: v4 :: v5 :: .ref am_ :: v7 :: v8 :: v9 :: v10 :: v11 :: v12 :: v13 :: v14 :: v15 :: v16 :: v17 :: v18 :: v19 :: v20 :: v21 :: v22 :: v23 :: v24 :: v25 :: v26 :: v27 :: v28 :: v29 :: v30 :: v31 :: v32 :: v33 :: v34 :: v35 :: v36 :: v37 :: v38 :: [])), (am_, .inl (gB g, 3072, .inl fm))] := hD
            have hT_54 : endL Nl 21 := hT_54
            refine W.eq (g2 := F0 m 57 ls [.int (nI 1)]) rfl ?_
            refine lv_if_eq (tgt := 64) hx hb dX9_type_57 (by decide) (fun c57 => absurd c57 (by decide)) (fun _ => ?_)
            refine q_ldcwS hx hb hown ((hG.1 68 (by decide)).2.2.2.2) dX9_type_60 ?_
            refine ct_aret (w := [(mm, .inr (7, v0 :: v1 :: v2 :: v3 :: v4 :: v5 :: .ref am_ :: v7 :: v8 :: v9 :: v10 :: v11 :: v12 :: v13 :: v14 :: v15 :: v16 :: v17 :: v18 :: v19 :: v20 :: v21 :: v22 :: v23 :: v24 :: v25 :: v26 :: v27 :: v28 :: v29 :: v30 :: v31 :: v32 :: v33 :: v34 :: v35 :: v36 :: v37 :: v38 :: [])), (am_, .inl (gB g, 3072, .inl fm))]) hx hb hr (Or.inl ⟨_, rfl⟩) hlocks hQ hAe hK (hP.sub [0, 1] rfl) (hD.sub [0, 1] (by decide) rfl) hS (by omega) (by omega) dX9_type_63 ?_
            exact ⟨68, rfl, rfl, by decide, by rw [show typL Nl = _ from (iteC_n (hF_24)).trans ((iteC_n (hF_39)).trans (iteC_p hT_54))]; rfl⟩
          · skip
            have hP : va_P (gD g) vwCl [(mm, .inr (7, v0 :: v1 :: v2 :: v3 :: v4 :: v5 :: .ref am_ :: v7 :: v8 :: v9 :: v10 :: v11 :: v12 :: v13 :: v14 :: v15 :: v16 :: v17 :: v18 :: v19 :: v20 :: v21 :: v22 :: v23 :: v24 :: v25 :: v26 :: v27 :: v28 :: v29 :: v30 :: v31 :: v32 :: v33 :: v34 :: v35 :: v36 :: v37 :: v38 :: [])), (am_, .inl (gB g, 3072, .inl fm))] H := hP
            have hD : va_D A [(mm, .inr (7, v0 :: v1 :: v2 :: v3 :: v4 :: v5 :: .ref am_ :: v7 :: v8 :: v9 :: v10 :: v11 :: v12 :: v13 :: v14 :: v15 :: v16 :: v17 :: v18 :: v19 :: v20 :: v21 :: v22 :: v23 :: v24 :: v25 :: v26 :: v27 :: v28 :: v29 :: v30 :: v31 :: v32 :: v33 :: v34 :: v35 :: v36 :: v37 :: v38 :: [])), (am_, .inl (gB g, 3072, .inl fm))] := hD
            have hF_54 : ¬ (endL Nl 21) := hF_54
            refine W.eq (g2 := F0 m 57 ls [.int (nI 0)]) rfl ?_
            refine lv_if_eq (tgt := 64) hx hb dX9_type_57 (by decide) (fun _ => ?_) (fun c57 => absurd (by decide) c57)
            refine lv_aload_n hx hb dX9_type_64 rfl (lv_at hl 0 rfl) ?_
            refine lv_iload_n hx hb dX9_type_65 rfl (lv_at hl 1 rfl) ?_
            refine q_ldcwS hx hb hown ((hG.1 69 (by decide)).2.2.2.2) dX9_type_66 ?_
            refine ct_callV (wr := []) hx hb hml hown hts hK hP hD hS hA hG hl.1 (c_mEnds l g mm ((v0 : Value)) ((v1 : Value)) ((v2 : Value)) ((v3 : Value)) ((v4 : Value)) ((v5 : Value)) am_ ((v7 : Value)) ((v8 : Value)) ((v9 : Value)) ((v10 : Value)) ((v11 : Value)) ((v12 : Value)) ((v13 : Value)) ((v14 : Value)) ((v15 : Value)) ((v16 : Value)) ((v17 : Value)) ((v18 : Value)) ((v19 : Value)) ((v20 : Value)) ((v21 : Value)) ((v22 : Value)) ((v23 : Value)) ((v24 : Value)) ((v25 : Value)) ((v26 : Value)) ((v27 : Value)) ((v28 : Value)) ((v29 : Value)) ((v30 : Value)) ((v31 : Value)) ((v32 : Value)) ((v33 : Value)) ((v34 : Value)) ((v35 : Value)) ((v36 : Value)) ((v37 : Value)) ((v38 : Value)) fm fe c0 t Nl 69 25 (by omega) (by assumption) (by assumption) (by omega) (by assumption) (by assumption) (by first | assumption | decide) (by first | assumption | rfl)) (cwV 2 hts gX9_type_X9_endsWith rfl rfl rfl (by decide +kernel) ⟨Nat.le_of_ble_eq_true rfl, Nat.le_of_ble_eq_true rfl⟩) (va_recv hK hP (ci := 7) (q0 := 0) rfl rfl) rfl rfl (Nat.le_of_ble_eq_true rfl) dX9_type_69 ⟨show 0 + 0 ≤ 0 by omega, show 0 + 0 ≤ 0 by omega⟩ [0, 1] [] rfl rfl (by decide) (by decide) (by decide) (fun r_ w_ H locs hp_ hP hD hS => ?_)
            rcases hp_ with ⟨rfl, rfl, hT_69⟩ | ⟨rfl, rfl, hF_69⟩
            · skip
              have hP : va_P (gD g) vwCl [(mm, .inr (7, v0 :: v1 :: v2 :: v3 :: v4 :: v5 :: .ref am_ :: v7 :: v8 :: v9 :: v10 :: v11 :: v12 :: v13 :: v14 :: v15 :: v16 :: v17 :: v18 :: v19 :: v20 :: v21 :: v22 :: v23 :: v24 :: v25 :: v26 :: v27 :: v28 :: v29 :: v30 :: v31 :: v32 :: v33 :: v34 :: v35 :: v36 :: v37 :: v38 :: [])), (am_, .inl (gB g, 3072, .inl fm))] H := hP
              have hD : va_D A [(mm, .inr (7, v0 :: v1 :: v2 :: v3 :: v4 :: v5 :: .ref am_ :: v7 :: v8 :: v9 :: v10 :: v11 :: v12 :: v13 :: v14 :: v15 :: v16 :: v17 :: v18 :: v19 :: v20 :: v21 :: v22 :: v23 :: v24 :: v25 :: v26 :: v27 :: v28 :: v29 :: v30 :: v31 :: v32 :: v33 :: v34 :: v35 :: v36 :: v37 :: v38 :: [])), (am_, .inl (gB g, 3072, .inl fm))] := hD
              have hT_69 : endL Nl 25 := hT_69
              refine W.eq (g2 := F0 m 72 ls [.int (nI 1)]) rfl ?_
              refine lv_if_eq (tgt := 81) hx hb dX9_type_72 (by decide) (fun c72 => absurd c72 (by decide)) (fun _ => ?_)
              refine q_ldcwS hx hb hown ((hG.1 70 (by decide)).2.2.2.2) dX9_type_75 ?_
              refine lv_goto (tgt := 84) hx hb dX9_type_78 (by decide) ?_
              refine ct_aret (w := [(mm, .inr (7, v0 :: v1 :: v2 :: v3 :: v4 :: v5 :: .ref am_ :: v7 :: v8 :: v9 :: v10 :: v11 :: v12 :: v13 :: v14 :: v15 :: v16 :: v17 :: v18 :: v19 :: v20 :: v21 :: v22 :: v23 :: v24 :: v25 :: v26 :: v27 :: v28 :: v29 :: v30 :: v31 :: v32 :: v33 :: v34 :: v35 :: v36 :: v37 :: v38 :: [])), (am_, .inl (gB g, 3072, .inl fm))]) hx hb hr (Or.inl ⟨_, rfl⟩) hlocks hQ hAe hK (hP.sub [0, 1] rfl) (hD.sub [0, 1] (by decide) rfl) hS (by omega) (by omega) dX9_type_84 ?_
              exact ⟨70, rfl, rfl, by decide, by rw [show typL Nl = _ from (iteC_n (hF_24)).trans ((iteC_n (hF_39)).trans ((iteC_n (hF_54)).trans ((iteC_n (hF_9)).trans (iteC_p hT_69))))]; rfl⟩
            · skip
              have hP : va_P (gD g) vwCl [(mm, .inr (7, v0 :: v1 :: v2 :: v3 :: v4 :: v5 :: .ref am_ :: v7 :: v8 :: v9 :: v10 :: v11 :: v12 :: v13 :: v14 :: v15 :: v16 :: v17 :: v18 :: v19 :: v20 :: v21 :: v22 :: v23 :: v24 :: v25 :: v26 :: v27 :: v28 :: v29 :: v30 :: v31 :: v32 :: v33 :: v34 :: v35 :: v36 :: v37 :: v38 :: [])), (am_, .inl (gB g, 3072, .inl fm))] H := hP
              have hD : va_D A [(mm, .inr (7, v0 :: v1 :: v2 :: v3 :: v4 :: v5 :: .ref am_ :: v7 :: v8 :: v9 :: v10 :: v11 :: v12 :: v13 :: v14 :: v15 :: v16 :: v17 :: v18 :: v19 :: v20 :: v21 :: v22 :: v23 :: v24 :: v25 :: v26 :: v27 :: v28 :: v29 :: v30 :: v31 :: v32 :: v33 :: v34 :: v35 :: v36 :: v37 :: v38 :: [])), (am_, .inl (gB g, 3072, .inl fm))] := hD
              have hF_69 : ¬ (endL Nl 25) := hF_69
              refine W.eq (g2 := F0 m 72 ls [.int (nI 0)]) rfl ?_
              refine lv_if_eq (tgt := 81) hx hb dX9_type_72 (by decide) (fun _ => ?_) (fun c72 => absurd (by decide) c72)
              refine q_ldcwS hx hb hown ((hG.1 71 (by decide)).2.2.2.2) dX9_type_81 ?_
              refine ct_aret (w := [(mm, .inr (7, v0 :: v1 :: v2 :: v3 :: v4 :: v5 :: .ref am_ :: v7 :: v8 :: v9 :: v10 :: v11 :: v12 :: v13 :: v14 :: v15 :: v16 :: v17 :: v18 :: v19 :: v20 :: v21 :: v22 :: v23 :: v24 :: v25 :: v26 :: v27 :: v28 :: v29 :: v30 :: v31 :: v32 :: v33 :: v34 :: v35 :: v36 :: v37 :: v38 :: [])), (am_, .inl (gB g, 3072, .inl fm))]) hx hb hr (Or.inl ⟨_, rfl⟩) hlocks hQ hAe hK (hP.sub [0, 1] rfl) (hD.sub [0, 1] (by decide) rfl) hS (by omega) (by omega) dX9_type_84 ?_
              exact ⟨71, rfl, rfl, by decide, by rw [show typL Nl = _ from (iteC_n hF_24).trans ((iteC_n hF_39).trans ((iteC_n hF_54).trans ((iteC_n hF_9).trans (iteC_n hF_69))))]; rfl⟩

set_option maxHeartbeats 4000000 in
set_option maxRecDepth 100000 in
theorem c_mTypeN (l : Launch) (g : GT) (mm : Nat) (v0 : Value) (v1 : Value) (v2 : Value) (v3 : Value) (v4 : Value) (v5 : Value) (am_ : Nat) (v7 : Value) (v8 : Value) (v9 : Value) (v10 : Value) (v11 : Value) (v12 : Value) (v13 : Value) (v14 : Value) (v15 : Value) (v16 : Value) (v17 : Value) (v18 : Value) (v19 : Value) (v20 : Value) (v21 : Value) (v22 : Value) (v23 : Value) (v24 : Value) (v25 : Value) (v26 : Value) (v27 : Value) (v28 : Value) (v29 : Value) (v30 : Value) (v31 : Value) (v32 : Value) (v33 : Value) (v34 : Value) (v35 : Value) (v36 : Value) (v37 : Value) (v38 : Value) (fm : Nat → Int32)  : CT l g yX9_type wsX9_type ({ frames := 5, cells := 0, slots := 0, locals := 109 } : Room) [.ref mm, .int (-1)] [(mm, .inr (7, v0 :: v1 :: v2 :: v3 :: v4 :: v5 :: .ref am_ :: v7 :: v8 :: v9 :: v10 :: v11 :: v12 :: v13 :: v14 :: v15 :: v16 :: v17 :: v18 :: v19 :: v20 :: v21 :: v22 :: v23 :: v24 :: v25 :: v26 :: v27 :: v28 :: v29 :: v30 :: v31 :: v32 :: v33 :: v34 :: v35 :: v36 :: v37 :: v38 :: [])), (am_, .inl (gB g, 3072, .inl fm))] (fun r w => (∃ (q : Nat), r = some (.ref (gK g q)) ∧ w = [(mm, .inr (7, v0 :: v1 :: v2 :: v3 :: v4 :: v5 :: .ref am_ :: v7 :: v8 :: v9 :: v10 :: v11 :: v12 :: v13 :: v14 :: v15 :: v16 :: v17 :: v18 :: v19 :: v20 :: v21 :: v22 :: v23 :: v24 :: v25 :: v26 :: v27 :: v28 :: v29 :: v30 :: v31 :: v32 :: v33 :: v34 :: v35 :: v36 :: v37 :: v38 :: [])), (am_, .inl (gB g, 3072, .inl fm))] ∧ (q < 84) ∧ (sL q = sL 32))) (0) (0) := by
  refine ct_of (cc := cX9_type) (maxL := 2) (ret := (some (.object "java/lang/String"))) (by decide) rfl (Nat.le_of_ble_eq_true rfl) ?_
  intro p e s m args below meth c A Q hx hb hr hml hown hts hlocks hnam hAe hQ hA hG hK hP hD hS ls hl
  have hl : lv_has ls 2 [(0, .ref mm), (1, .int (-1))] := hl
  have hown : s.vm.findClass RX9 = some m.cls := hown
  refine lv_iload_n hx hb dX9_type_0 rfl (lv_at hl 1 rfl) ?_
  refine lv_if_lt (tgt := 15) hx hb dX9_type_1 (by decide) (fun _ => ?_) (fun c1 => absurd (by decide) c1)
  refine q_ldcwS hx hb hown ((hG.1 62 (by decide)).2.2.2.2) dX9_type_15 ?_
  refine ct_aret (w := [(mm, .inr (7, v0 :: v1 :: v2 :: v3 :: v4 :: v5 :: .ref am_ :: v7 :: v8 :: v9 :: v10 :: v11 :: v12 :: v13 :: v14 :: v15 :: v16 :: v17 :: v18 :: v19 :: v20 :: v21 :: v22 :: v23 :: v24 :: v25 :: v26 :: v27 :: v28 :: v29 :: v30 :: v31 :: v32 :: v33 :: v34 :: v35 :: v36 :: v37 :: v38 :: [])), (am_, .inl (gB g, 3072, .inl fm))]) hx hb hr (Or.inl ⟨_, rfl⟩) hlocks hQ hAe hK (hP.sub [0, 1] rfl) (hD.sub [0, 1] (by decide) rfl) hS (by omega) (by omega) dX9_type_18 ?_
  exact ⟨62, rfl, rfl, by decide, by rfl⟩
