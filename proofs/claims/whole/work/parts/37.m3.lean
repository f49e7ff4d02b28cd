theorem slen_e {k k' : Nat} (h : sL k = sL k') : slen k = slen k' := congrArg List.length h
theorem sbyt_e {k k' : Nat} (h : sL k = sL k') (j : Nat) : sbyt k j = sbyt k' j := congrArg (fun l => List.getD l j 0) h
theorem pText_e {f : Nat → Int32} {a b k k' : Nat} (h : sL k = sL k') : pText f a b k = pText f a b k' := by
  unfold pText
  rw [slen_e h]
  simp only [sbyt_e h]
theorem pWord_e {f : Nat → Int32} {a b k k' : Nat} (h : sL k = sL k') : pWord f a b k = pWord f a b k' := by
  unfold pWord
  rw [slen_e h]
  simp only [sbyt_e h]
theorem ra {f : Nat → Int32} (h : sb_Fit f) {i n : Nat} (hn : n < 128) : f i = nI n ↔ f i &&& 255 = nI n := raw_eq (h i) hn

set_option maxHeartbeats 4000000 in
set_option maxRecDepth 100000 in
theorem c_mCome (l : Launch) (g : GT) (mm : Nat) (at_ : Nat) (m_trayed : Nat) (v2 : Value) (v3 : Value) (m_opened : Nat) (v5 : Value) (v6 : Value) (v7 : Value) (v8 : Value) (v9 : Value) (as_ : Nat) (m_heldBytes : Nat) (v12 : Value) (v13 : Value) (v14 : Value) (v15 : Value) (v16 : Value) (v17 : Value) (v18 : Value) (v19 : Value) (v20 : Value) (v21 : Value) (v22 : Value) (v23 : Value) (v24 : Value) (v25 : Value) (v26 : Value) (v27 : Value) (v28 : Value) (v29 : Value) (v30 : Value) (v31 : Value) (v32 : Value) (v33 : Value) (v34 : Value) (v35 : Value) (v36 : Value) (v37 : Value) (v38 : Value) (ft : Nat → Int32) (fs : Nat → Int32) (f : Nat → Int32) (hb1 : m_trayed ≤ 65540) (hb2 : m_heldBytes ≤ 4096) (hop : m_opened ≤ 1) (hM : ∀ j, j < m_trayed → ft j = f j) (hfit : sb_Fit f) : CT l g yX9_come wsX9_come ({ frames := 0, cells := 0, slots := 0, locals := 0 } : Room) [.ref mm] [(mm, .inr (7, .ref at_ :: .int (nI m_trayed) :: v2 :: v3 :: .int (nI m_opened) :: v5 :: v6 :: v7 :: v8 :: v9 :: .ref as_ :: .int (nI m_heldBytes) :: v12 :: v13 :: v14 :: v15 :: v16 :: v17 :: v18 :: v19 :: v20 :: v21 :: v22 :: v23 :: v24 :: v25 :: v26 :: v27 :: v28 :: v29 :: v30 :: v31 :: v32 :: v33 :: v34 :: v35 :: v36 :: v37 :: v38 :: [])), (as_, .inl (gB g, 4096, .inl fs)), (at_, .inl (gB g, 65540, .inl ft))] (fun r w => (r = some (.int (-1)) ∧ w = [(mm, .inr (7, .ref at_ :: .int (nI m_trayed) :: v2 :: v3 :: .int (nI m_opened) :: v5 :: v6 :: v7 :: v8 :: v9 :: .ref as_ :: .int (nI m_heldBytes) :: v12 :: v13 :: v14 :: v15 :: v16 :: v17 :: v18 :: v19 :: v20 :: v21 :: v22 :: v23 :: v24 :: v25 :: v26 :: v27 :: v28 :: v29 :: v30 :: v31 :: v32 :: v33 :: v34 :: v35 :: v36 :: v37 :: v38 :: [])), (as_, .inl (gB g, 4096, .inl fs)), (at_, .inl (gB g, 65540, .inl ft))] ∧ (m_opened = 0 ∨ 4096 < m_heldBytes + m_trayed)) ∨ (∃ (f1 : Nat → Int32), r = some (.int (nI (m_heldBytes + m_trayed))) ∧ w = [(mm, .inr (7, .ref at_ :: .int (nI 0) :: v2 :: v3 :: .int (nI m_opened) :: v5 :: v6 :: v7 :: v8 :: v9 :: .ref as_ :: .int (nI (m_heldBytes + m_trayed)) :: v12 :: v13 :: v14 :: v15 :: v16 :: v17 :: v18 :: v19 :: v20 :: v21 :: v22 :: v23 :: v24 :: v25 :: v26 :: v27 :: v28 :: v29 :: v30 :: v31 :: v32 :: v33 :: v34 :: v35 :: v36 :: v37 :: v38 :: [])), (as_, .inl (gB g, 4096, .inl f1)), (at_, .inl (gB g, 65540, .inl ft))] ∧ (m_opened = 1 ∧ m_heldBytes + m_trayed ≤ 4096) ∧ (∀ j, j < m_heldBytes → f1 j = fs j) ∧ (∀ j, j < m_trayed → f1 (m_heldBytes + j) = f j))) (0) (0) := by
  refine ct_of (cc := cX9_come) (maxL := 2) (ret := (some .int)) (by decide) rfl (Nat.le_of_ble_eq_true rfl) ?_
  intro p e s m args below meth c A Q hx hb hr hml hown hts hlocks hnam hAe hQ hA hG hK hP hD hS ls hl
  have hl : lv_has ls 2 [(0, .ref mm)] := hl
  have hown : s.vm.findClass RX9 = some m.cls := hown
  have hinX9 : ∀ w ∈ u_ws RX9 TX9 39, w ∈ wsX9_come := by decide +kernel
  have hf10 := hts (.fieldLink RX9 10 "RequestReaderModel" "tray" "[B") (by decide +kernel)
  have hf31 := hts (.fieldLink RX9 31 "RequestReaderModel" "stream" "[B") (by decide +kernel)
  have hf46 := hts (.fieldLink RX9 46 "RequestReaderModel" "trayed" "I") (by decide +kernel)
  have hf57 := hts (.fieldLink RX9 57 "RequestReaderModel" "opened" "Z") (by decide +kernel)
  have hf61 := hts (.fieldLink RX9 61 "RequestReaderModel" "heldBytes" "I") (by decide +kernel)
  refine lv_aload_n hx hb dX9_come_0 rfl (lv_at hl 0 rfl) ?_
  refine va_get (D := gD g) (ci := 7) (v := .int (nI m_opened)) (C := RX9) (T := TX9) (N := 39) hx hb hts hinX9 hown hK hP 0 rfl rfl 4 (by decide) hf57 (fun _ h9 => h9) rfl dX9_come_1 ?_
  refine lv_if_eq (tgt := 22) hx hb dX9_come_4 (by decide) (fun c4 => ?_) (fun c4 => ?_)
  · skip
    have c4 : m_opened = 0 := (nI_eq (a := m_opened) (b := 0) (by omega) (by omega)).mp c4
    refine lv_iconst (v := (-1)) hx hb dX9_come_22 (by decide) ?_
    refine ct_iret (w := [(mm, .inr (7, .ref at_ :: .int (nI m_trayed) :: v2 :: v3 :: .int (nI m_opened) :: v5 :: v6 :: v7 :: v8 :: v9 :: .ref as_ :: .int (nI m_heldBytes) :: v12 :: v13 :: v14 :: v15 :: v16 :: v17 :: v18 :: v19 :: v20 :: v21 :: v22 :: v23 :: v24 :: v25 :: v26 :: v27 :: v28 :: v29 :: v30 :: v31 :: v32 :: v33 :: v34 :: v35 :: v36 :: v37 :: v38 :: [])), (as_, .inl (gB g, 4096, .inl fs)), (at_, .inl (gB g, 65540, .inl ft))]) hx hb hr rfl hlocks hQ hAe hK (hP.sub [0, 1, 2] rfl) (hD.sub [0, 1, 2] (by decide) rfl) hS (by omega) (by omega) dX9_come_23 ?_
    refine Or.inl (?_)
    exact ⟨rfl, rfl, by omega⟩
  · skip
    have c4 : ¬ (m_opened = 0) := fun z => c4 ((nI_eq (a := m_opened) (b := 0) (by omega) (by omega)).mpr z)
    refine lv_aload_n hx hb dX9_come_7 rfl (lv_at hl 0 rfl) ?_
    refine va_get (D := gD g) (ci := 7) (v := .int (nI m_heldBytes)) (C := RX9) (T := TX9) (N := 39) hx hb hts hinX9 hown hK hP 0 rfl rfl 11 (by decide) hf61 (fun _ h9 => h9) rfl dX9_come_8 ?_
    refine lv_aload_n hx hb dX9_come_11 rfl (lv_at hl 0 rfl) ?_
    refine va_get (D := gD g) (ci := 7) (v := .int (nI m_trayed)) (C := RX9) (T := TX9) (N := 39) hx hb hts hinX9 hown hK hP 0 rfl rfl 1 (by decide) hf46 (fun _ h9 => h9) rfl dX9_come_12 ?_
    refine q_iadd (v := nI (m_heldBytes + m_trayed)) hx hb dX9_come_15 (nI_add m_heldBytes m_trayed) ?_
    refine lv_sipush (v := nI 4096) hx hb dX9_come_16 (by decide) ?_
    refine lv_icmp_le (tgt := 24) hx hb dX9_come_19 (by decide) (fun c19 => ?_) (fun c19 => ?_)
    · skip
      have c19 : m_heldBytes + m_trayed ≤ 4096 := (nI_leI (a := m_heldBytes + m_trayed) (b := 4096) (by omega) (by omega)).mp c19
      refine lv_iconst (v := nI 0) hx hb dX9_come_24 (by decide) ?_
      refine lv_istore_n (lv' := [(1, .int (nI 0)), (0, .ref mm)]) hx hb dX9_come_25 rfl hl (by decide) rfl (fun ls hl => ?_)
      have K26 : ∀ (N_ : Nat) (i : Nat) (f1 : Nat → Int32), (i ≤ m_trayed) → (∀ j, j < m_heldBytes → f1 j = fs j) → (∀ j, j < i → f1 (m_heldBytes + j) = f j) → (m_trayed - i) < N_ → ∀ (H : Heap) (locs : List Loc) (ls : Array Slot), va_P (gD g) vwCl [(mm, .inr (7, .ref at_ :: .int (nI m_trayed) :: v2 :: v3 :: .int (nI m_opened) :: v5 :: v6 :: v7 :: v8 :: v9 :: .ref as_ :: .int (nI m_heldBytes) :: v12 :: v13 :: v14 :: v15 :: v16 :: v17 :: v18 :: v19 :: v20 :: v21 :: v22 :: v23 :: v24 :: v25 :: v26 :: v27 :: v28 :: v29 :: v30 :: v31 :: v32 :: v33 :: v34 :: v35 :: v36 :: v37 :: v38 :: [])), (as_, .inl (gB g, 4096, .inl f1)), (at_, .inl (gB g, 65540, .inl ft))] H → va_D A [(mm, .inr (7, .ref at_ :: .int (nI m_trayed) :: v2 :: v3 :: .int (nI m_opened) :: v5 :: v6 :: v7 :: v8 :: v9 :: .ref as_ :: .int (nI m_heldBytes) :: v12 :: v13 :: v14 :: v15 :: v16 :: v17 :: v18 :: v19 :: v20 :: v21 :: v22 :: v23 :: v24 :: v25 :: v26 :: v27 :: v28 :: v29 :: v30 :: v31 :: v32 :: v33 :: v34 :: v35 :: v36 :: v37 :: v38 :: [])), (as_, .inl (gB g, 4096, .inl f1)), (at_, .inl (gB g, 65540, .inl ft))] → va_S A s.heap H locs → lv_has ls 2 [(0, .ref mm), (1, .int (nI i))] → W p l e ({ frames := 0, cells := 0, slots := 0, locals := 0 } : Room) s m args below meth c H locs (0) (0) Q (F0 m 26 ls []) := by
        intro N_
        induction N_ with
        | zero => intro i f1 hi ef ec hm_; exact absurd hm_ (Nat.not_lt_zero _)
        | succ N_ ih_K26 =>
          intro i f1 hi ef ec hm_ H locs ls hP hD hS hl
          refine lv_iload_n hx hb dX9_come_26 rfl (lv_at hl 1 rfl) ?_
          refine lv_aload_n hx hb dX9_come_27 rfl (lv_at hl 0 rfl) ?_
          refine va_get (D := gD g) (ci := 7) (v := .int (nI m_trayed)) (C := RX9) (T := TX9) (N := 39) hx hb hts hinX9 hown hK hP 0 rfl rfl 1 (by decide) hf46 (fun _ h9 => h9) rfl dX9_come_28 ?_
          refine lv_icmp_ge (tgt := 57) hx hb dX9_come_31 (by decide) (fun c31 => ?_) (fun c31 => ?_)
          · skip
            have c31 : m_trayed ≤ i := (nI_leI (a := m_trayed) (b := i) (by omega) (by omega)).mp c31
            refine lv_aload_n hx hb dX9_come_57 rfl (lv_at hl 0 rfl) ?_
            refine lv_aload_n hx hb dX9_come_58 rfl (lv_at hl 0 rfl) ?_
            refine va_get (D := gD g) (ci := 7) (v := .int (nI m_heldBytes)) (C := RX9) (T := TX9) (N := 39) hx hb hts hinX9 hown hK hP 0 rfl rfl 11 (by decide) hf61 (fun _ h9 => h9) rfl dX9_come_59 ?_
            refine lv_aload_n hx hb dX9_come_62 rfl (lv_at hl 0 rfl) ?_
            refine va_get (D := gD g) (ci := 7) (v := .int (nI m_trayed)) (C := RX9) (T := TX9) (N := 39) hx hb hts hinX9 hown hK hP 0 rfl rfl 1 (by decide) hf46 (fun _ h9 => h9) rfl dX9_come_63 ?_
            refine q_iadd (v := nI (m_heldBytes + m_trayed)) hx hb dX9_come_66 (nI_add m_heldBytes m_trayed) ?_
            refine va_put (D := gD g) (ci := 7) (v := .int (nI (m_heldBytes + m_trayed))) (ty := .int) (C := RX9) (T := TX9) (N := 39) hx hb hts hinX9 tyX9 tyX9_ok nmX9 hown hK hP hD hS 0 rfl rfl 11 (by decide) hf61 (fun _ h9 => h9) rfl (by decide +kernel) rfl rfl (Nat.le_of_ble_eq_true rfl) dX9_come_67 (fun H locs hP hD hS => ?_)
            have hP : va_P (gD g) vwCl [(mm, .inr (7, .ref at_ :: .int (nI m_trayed) :: v2 :: v3 :: .int (nI m_opened) :: v5 :: v6 :: v7 :: v8 :: v9 :: .ref as_ :: .int (nI (m_heldBytes + m_trayed)) :: v12 :: v13 :: v14 :: v15 :: v16 :: v17 :: v18 :: v19 :: v20 :: v21 :: v22 :: v23 :: v24 :: v25 :: v26 :: v27 :: v28 :: v29 :: v30 :: v31 :: v32 :: v33 :: v34 :: v35 :: v36 :: v37 :: v38 :: [])), (as_, .inl (gB g, 4096, .inl f1)), (at_, .inl (gB g, 65540, .inl ft))] H := hP
            have hD : va_D A [(mm, .inr (7, .ref at_ :: .int (nI m_trayed) :: v2 :: v3 :: .int (nI m_opened) :: v5 :: v6 :: v7 :: v8 :: v9 :: .ref as_ :: .int (nI (m_heldBytes + m_trayed)) :: v12 :: v13 :: v14 :: v15 :: v16 :: v17 :: v18 :: v19 :: v20 :: v21 :: v22 :: v23 :: v24 :: v25 :: v26 :: v27 :: v28 :: v29 :: v30 :: v31 :: v32 :: v33 :: v34 :: v35 :: v36 :: v37 :: v38 :: [])), (as_, .inl (gB g, 4096, .inl f1)), (at_, .inl (gB g, 65540, .inl ft))] := hD
            refine lv_aload_n hx hb dX9_come_70 rfl (lv_at hl 0 rfl) ?_
            refine lv_iconst (v := nI 0) hx hb dX9_come_71 (by decide) ?_
            refine va_put (D := gD g) (ci := 7) (v := .int (nI 0)) (ty := .int) (C := RX9) (T := TX9) (N := 39) hx hb hts hinX9 tyX9 tyX9_ok nmX9 hown hK hP hD hS 0 rfl rfl 1 (by decide) hf46 (fun _ h9 => h9) rfl (by decide +kernel) rfl rfl (Nat.le_of_ble_eq_true rfl) dX9_come_72 (fun H locs hP hD hS => ?_)
            have hP : va_P (gD g) vwCl [(mm, .inr (7, .ref at_ :: .int (nI 0) :: v2 :: v3 :: .int (nI m_opened) :: v5 :: v6 :: v7 :: v8 :: v9 :: .ref as_ :: .int (nI (m_heldBytes + m_trayed)) :: v12 :: v13 :: v14 :: v15 :: v16 :: v17 :: v18 :: v19 :: v20 :: v21 :: v22 :: v23 :: v24 :: v25 :: v26 :: v27 :: v28 :: v29 :: v30 :: v31 :: v32 :: v33 :: v34 :: v35 :: v36 :: v37 :: v38 :: [])), (as_, .inl (gB g, 4096, .inl f1)), (at_, .inl (gB g, 65540, .inl ft))] H := hP
            have hD : va_D A [(mm, .inr (7, .ref at_ :: .int (nI 0) :: v2 :: v3 :: .int (nI m_opened) :: v5 :: v6 :: v7 :: v8 :: v9 :: .ref as_ :: .int (nI (m_heldBytes + m_trayed)) :: v12 :: v13 :: v14 :: v15 :: v16 :: v17 :: v18 :: v19 :: v20 :: v21 :: v22 :: v23 :: v24 :: v25 :: v26 :: v27 :: v28 :: v29 :: v30 :: v31 :: v32 :: v33 :: v34 :: v35 :: v36 :: v37 :: v38 :: [])), (as_, .inl (gB g, 4096, .inl f1)), (at_, .inl (gB g, 65540, .inl ft))] := hD
            refine lv_aload_n hx hb dX9_come_75 rfl (lv_at hl 0 rfl) ?_
            refine va_get (D := gD g) (ci := 7) (v := .int (nI (m_heldBytes + m_trayed))) (C := RX9) (T := TX9) (N := 39) hx hb hts hinX9 hown hK hP 0 rfl rfl 11 (by decide) hf61 (fun _ h9 => h9) rfl dX9_come_76 ?_
            refine ct_iret (w := [(mm, .inr (7, .ref at_ :: .int (nI 0) :: v2 :: v3 :: .int (nI m_opened) :: v5 :: v6 :: v7 :: v8 :: v9 :: .ref as_ :: .int (nI (m_heldBytes + m_trayed)) :: v12 :: v13 :: v14 :: v15 :: v16 :: v17 :: v18 :: v19 :: v20 :: v21 :: v22 :: v23 :: v24 :: v25 :: v26 :: v27 :: v28 :: v29 :: v30 :: v31 :: v32 :: v33 :: v34 :: v35 :: v36 :: v37 :: v38 :: [])), (as_, .inl (gB g, 4096, .inl f1)), (at_, .inl (gB g, 65540, .inl ft))]) hx hb hr rfl hlocks hQ hAe hK (hP.sub [0, 1, 2] rfl) (hD.sub [0, 1, 2] (by decide) rfl) hS (by omega) (by omega) dX9_come_79 ?_
            refine Or.inr ((?_))
            exact ⟨f1, rfl, rfl, by omega, by assumption, by exact fun j hj => ec j (by omega)⟩
          · skip
            have c31 : ¬ (m_trayed ≤ i) := fun z => c31 ((nI_leI (a := m_trayed) (b := i) (by omega) (by omega)).mpr z)
            refine lv_aload_n hx hb dX9_come_34 rfl (lv_at hl 0 rfl) ?_
            refine va_get (D := gD g) (ci := 7) (v := .ref as_) (C := RX9) (T := TX9) (N := 39) hx hb hts hinX9 hown hK hP 0 rfl rfl 10 (by decide) hf31 (fun _ h9 => h9) rfl dX9_come_35 ?_
            refine lv_aload_n hx hb dX9_come_38 rfl (lv_at hl 0 rfl) ?_
            refine va_get (D := gD g) (ci := 7) (v := .int (nI m_heldBytes)) (C := RX9) (T := TX9) (N := 39) hx hb hts hinX9 hown hK hP 0 rfl rfl 11 (by decide) hf61 (fun _ h9 => h9) rfl dX9_come_39 ?_
            refine lv_iload_n hx hb dX9_come_42 rfl (lv_at hl 1 rfl) ?_
            refine q_iadd (v := nI (m_heldBytes + i)) hx hb dX9_come_43 (nI_add m_heldBytes i) ?_
            refine lv_aload_n hx hb dX9_come_44 rfl (lv_at hl 0 rfl) ?_
            refine va_get (D := gD g) (ci := 7) (v := .ref at_) (C := RX9) (T := TX9) (N := 39) hx hb hts hinX9 hown hK hP 0 rfl rfl 0 (by decide) hf10 (fun _ h9 => h9) rfl dX9_come_45 ?_
            refine lv_iload_n hx hb dX9_come_48 rfl (lv_at hl 1 rfl) ?_
            refine q_bald hx hb hK hP 2 rfl (i) rfl (by omega) (by omega) dX9_come_49 ?_
            refine q_top (v := f i) (hM _ (by omega)) ?_
            refine q_bast hx hb hK hP hD hS 1 rfl (m_heldBytes + i) rfl (by omega) (by omega) dX9_come_50 (fun H locs hP hD hS => ?_)
            have hP : va_P (gD g) vwCl [(mm, .inr (7, .ref at_ :: .int (nI m_trayed) :: v2 :: v3 :: .int (nI m_opened) :: v5 :: v6 :: v7 :: v8 :: v9 :: .ref as_ :: .int (nI m_heldBytes) :: v12 :: v13 :: v14 :: v15 :: v16 :: v17 :: v18 :: v19 :: v20 :: v21 :: v22 :: v23 :: v24 :: v25 :: v26 :: v27 :: v28 :: v29 :: v30 :: v31 :: v32 :: v33 :: v34 :: v35 :: v36 :: v37 :: v38 :: [])), (as_, .inl (gB g, 4096, .inl (upd f1 (m_heldBytes + i) ((f i).toInt8.toInt32)))), (at_, .inl (gB g, 65540, .inl ft))] H := hP
            have hD : va_D A [(mm, .inr (7, .ref at_ :: .int (nI m_trayed) :: v2 :: v3 :: .int (nI m_opened) :: v5 :: v6 :: v7 :: v8 :: v9 :: .ref as_ :: .int (nI m_heldBytes) :: v12 :: v13 :: v14 :: v15 :: v16 :: v17 :: v18 :: v19 :: v20 :: v21 :: v22 :: v23 :: v24 :: v25 :: v26 :: v27 :: v28 :: v29 :: v30 :: v31 :: v32 :: v33 :: v34 :: v35 :: v36 :: v37 :: v38 :: [])), (as_, .inl (gB g, 4096, .inl (upd f1 (m_heldBytes + i) ((f i).toInt8.toInt32)))), (at_, .inl (gB g, 65540, .inl ft))] := hD
            refine lv_iinc (v := nI (i + 1)) (lv' := [(1, .int (nI (i + 1))), (0, .ref mm)]) hx hb dX9_come_51 hl (k := 1) rfl (nI_inc i 1) (by decide) rfl (fun ls hl => ?_)
            refine lv_goto (tgt := 26) hx hb dX9_come_54 (by decide) ?_
            exact ih_K26 (i + 1) (upd f1 (m_heldBytes + i) ((f i).toInt8.toInt32)) (by omega) (by exact fun j hj => (pk_un (by omega)).trans (ef j hj)) (by exact lt_s (fun j hj => (pk_un (by omega)).trans (ec j hj)) (pk_us.trans (fit8 hfit _))) (by omega) _ _ _ (hP.sub [0, 1, 2] rfl) (hD.sub [0, 1, 2] (by decide) rfl) hS (lv_sub hl [1, 0] rfl)
      exact K26 ((m_trayed - 0) + 1) 0 fs (by omega) (by exact fun j _ => rfl) (by intro j h1; omega) (Nat.lt_succ_self _) _ _ _ (hP.sub [0, 1, 2] rfl) (hD.sub [0, 1, 2] (by decide) rfl) hS (lv_sub hl [1, 0] rfl)
    · skip
      have c19 : ¬ (m_heldBytes + m_trayed ≤ 4096) := fun z => c19 ((nI_leI (a := m_heldBytes + m_trayed) (b := 4096) (by omega) (by omega)).mpr z)
      refine lv_iconst (v := (-1)) hx hb dX9_come_22 (by decide) ?_
      refine ct_iret (w := [(mm, .inr (7, .ref at_ :: .int (nI m_trayed) :: v2 :: v3 :: .int (nI m_opened) :: v5 :: v6 :: v7 :: v8 :: v9 :: .ref as_ :: .int (nI m_heldBytes) :: v12 :: v13 :: v14 :: v15 :: v16 :: v17 :: v18 :: v19 :: v20 :: v21 :: v22 :: v23 :: v24 :: v25 :: v26 :: v27 :: v28 :: v29 :: v30 :: v31 :: v32 :: v33 :: v34 :: v35 :: v36 :: v37 :: v38 :: [])), (as_, .inl (gB g, 4096, .inl fs)), (at_, .inl (gB g, 65540, .inl ft))]) hx hb hr rfl hlocks hQ hAe hK (hP.sub [0, 1, 2] rfl) (hD.sub [0, 1, 2] (by decide) rfl) hS (by omega) (by omega) dX9_come_23 ?_
      refine Or.inl (?_)
      exact ⟨rfl, rfl, by omega⟩

set_option maxHeartbeats 4000000 in
set_option maxRecDepth 100000 in
theorem c_mDrop (l : Launch) (g : GT) (mm : Nat) (v0 : Value) (v1 : Value) (v2 : Value) (v3 : Value) (v4 : Value) (v5 : Value) (v6 : Value) (v7 : Value) (v8 : Value) (v9 : Value) (as_ : Nat) (m_heldBytes : Nat) (v12 : Value) (v13 : Value) (v14 : Value) (v15 : Value) (v16 : Value) (v17 : Value) (v18 : Value) (v19 : Value) (v20 : Value) (v21 : Value) (v22 : Value) (v23 : Value) (v24 : Value) (v25 : Value) (v26 : Value) (v27 : Value) (v28 : Value) (v29 : Value) (v30 : Value) (v31 : Value) (v32 : Value) (v33 : Value) (v34 : Value) (v35 : Value) (v36 : Value) (v37 : Value) (v38 : Value) (fs : Nat → Int32) (f : Nat → Int32) (n : Nat) (hb2 : m_heldBytes ≤ 4096) (hM : ∀ j, j < m_heldBytes → fs j = f j) (hfit : sb_Fit f) (hn : n ≤ m_heldBytes) : CT l g yX9_drop wsX9_drop ({ frames := 0, cells := 0, slots := 0, locals := 0 } : Room) [.ref mm, .int (nI n)] [(mm, .inr (7, v0 :: v1 :: v2 :: v3 :: v4 :: v5 :: v6 :: v7 :: v8 :: v9 :: .ref as_ :: .int (nI m_heldBytes) :: v12 :: v13 :: v14 :: v15 :: v16 :: v17 :: v18 :: v19 :: v20 :: v21 :: v22 :: v23 :: v24 :: v25 :: v26 :: v27 :: v28 :: v29 :: v30 :: v31 :: v32 :: v33 :: v34 :: v35 :: v36 :: v37 :: v38 :: [])), (as_, .inl (gB g, 4096, .inl fs))] (fun r w => (∃ (f1 : Nat → Int32), r = none ∧ w = [(mm, .inr (7, v0 :: v1 :: v2 :: v3 :: v4 :: v5 :: v6 :: v7 :: v8 :: v9 :: .ref as_ :: .int (nI (m_heldBytes - n)) :: v12 :: v13 :: v14 :: v15 :: v16 :: v17 :: v18 :: v19 :: v20 :: v21 :: v22 :: v23 :: v24 :: v25 :: v26 :: v27 :: v28 :: v29 :: v30 :: v31 :: v32 :: v33 :: v34 :: v35 :: v36 :: v37 :: v38 :: [])), (as_, .inl (gB g, 4096, .inl f1))] ∧ (∀ j, j < m_heldBytes - n → f1 j = f (n + j)))) (0) (0) := by
  refine ct_of (cc := cX9_drop) (maxL := 3) (ret := none) (by decide) rfl (Nat.le_of_ble_eq_true rfl) ?_
  intro p e s m args below meth c A Q hx hb hr hml hown hts hlocks hnam hAe hQ hA hG hK hP hD hS ls hl
  have hl : lv_has ls 3 [(0, .ref mm), (1, .int (nI n))] := hl
  have hown : s.vm.findClass RX9 = some m.cls := hown
  have hinX9 : ∀ w ∈ u_ws RX9 TX9 39, w ∈ wsX9_drop := by decide +kernel
  have hf31 := hts (.fieldLink RX9 31 "RequestReaderModel" "stream" "[B") (by decide +kernel)
  have hf61 := hts (.fieldLink RX9 61 "RequestReaderModel" "heldBytes" "I") (by decide +kernel)
  refine lv_iload_n hx hb dX9_drop_0 rfl (lv_at hl 1 rfl) ?_
  refine lv_istore_n (lv' := [(2, .int (nI n)), (0, .ref mm), (1, .int (nI n))]) hx hb dX9_drop_1 rfl hl (by decide) rfl (fun ls hl => ?_)
  have K2 : ∀ (N_ : Nat) (i : Nat) (f1 : Nat → Int32), (n ≤ i) → (i ≤ m_heldBytes) → (∀ j, j < i - n → f1 j = f (n + j)) → (∀ j, i ≤ j → j < m_heldBytes → f1 j = f j) → (m_heldBytes - i) < N_ → ∀ (H : Heap) (locs : List Loc) (ls : Array Slot), va_P (gD g) vwCl [(mm, .inr (7, v0 :: v1 :: v2 :: v3 :: v4 :: v5 :: v6 :: v7 :: v8 :: v9 :: .ref as_ :: .int (nI m_heldBytes) :: v12 :: v13 :: v14 :: v15 :: v16 :: v17 :: v18 :: v19 :: v20 :: v21 :: v22 :: v23 :: v24 :: v25 :: v26 :: v27 :: v28 :: v29 :: v30 :: v31 :: v32 :: v33 :: v34 :: v35 :: v36 :: v37 :: v38 :: [])), (as_, .inl (gB g, 4096, .inl f1))] H → va_D A [(mm, .inr (7, v0 :: v1 :: v2 :: v3 :: v4 :: v5 :: v6 :: v7 :: v8 :: v9 :: .ref as_ :: .int (nI m_heldBytes) :: v12 :: v13 :: v14 :: v15 :: v16 :: v17 :: v18 :: v19 :: v20 :: v21 :: v22 :: v23 :: v24 :: v25 :: v26 :: v27 :: v28 :: v29 :: v30 :: v31 :: v32 :: v33 :: v34 :: v35 :: v36 :: v37 :: v38 :: [])), (as_, .inl (gB g, 4096, .inl f1))] → va_S A s.heap H locs → lv_has ls 3 [(0, .ref mm), (1, .int (nI n)), (2, .int (nI i))] → W p l e ({ frames := 0, cells := 0, slots := 0, locals := 0 } : Room) s m args below meth c H locs (0) (0) Q (F0 m 2 ls []) := by
    intro N_
    induction N_ with
    | zero => intro i f1 hi hi2 ec ek hm_; exact absurd hm_ (Nat.not_lt_zero _)
    | succ N_ ih_K2 =>
      intro i f1 hi hi2 ec ek hm_ H locs ls hP hD hS hl
      refine lv_iload_n hx hb dX9_drop_2 rfl (lv_at hl 2 rfl) ?_
      refine lv_aload_n hx hb dX9_drop_3 rfl (lv_at hl 0 rfl) ?_
      refine va_get (D := gD g) (ci := 7) (v := .int (nI m_heldBytes)) (C := RX9) (T := TX9) (N := 39) hx hb hts hinX9 hown hK hP 0 rfl rfl 11 (by decide) hf61 (fun _ h9 => h9) rfl dX9_drop_4 ?_
      refine lv_icmp_ge (tgt := 30) hx hb dX9_drop_7 (by decide) (fun c7 => ?_) (fun c7 => ?_)
      · skip
        have c7 : m_heldBytes ≤ i := (nI_leI (a := m_heldBytes) (b := i) (by omega) (by omega)).mp c7
        refine lv_aload_n hx hb dX9_drop_30 rfl (lv_at hl 0 rfl) ?_
        refine lv_aload_n hx hb dX9_drop_31 rfl (lv_at hl 0 rfl) ?_
        refine va_get (D := gD g) (ci := 7) (v := .int (nI m_heldBytes)) (C := RX9) (T := TX9) (N := 39) hx hb hts hinX9 hown hK hP 0 rfl rfl 11 (by decide) hf61 (fun _ h9 => h9) rfl dX9_drop_32 ?_
        refine lv_iload_n hx hb dX9_drop_35 rfl (lv_at hl 1 rfl) ?_
        refine q_isub (v := nI (m_heldBytes - n)) hx hb dX9_drop_36 (pk_sub (a := m_heldBytes) (b := n) (by omega)) ?_
        refine va_put (D := gD g) (ci := 7) (v := .int (nI (m_heldBytes - n))) (ty := .int) (C := RX9) (T := TX9) (N := 39) hx hb hts hinX9 tyX9 tyX9_ok nmX9 hown hK hP hD hS 0 rfl rfl 11 (by decide) hf61 (fun _ h9 => h9) rfl (by decide +kernel) rfl rfl (Nat.le_of_ble_eq_true rfl) dX9_drop_37 (fun H locs hP hD hS => ?_)
        have hP : va_P (gD g) vwCl [(mm, .inr (7, v0 :: v1 :: v2 :: v3 :: v4 :: v5 :: v6 :: v7 :: v8 :: v9 :: .ref as_ :: .int (nI (m_heldBytes - n)) :: v12 :: v13 :: v14 :: v15 :: v16 :: v17 :: v18 :: v19 :: v20 :: v21 :: v22 :: v23 :: v24 :: v25 :: v26 :: v27 :: v28 :: v29 :: v30 :: v31 :: v32 :: v33 :: v34 :: v35 :: v36 :: v37 :: v38 :: [])), (as_, .inl (gB g, 4096, .inl f1))] H := hP
        have hD : va_D A [(mm, .inr (7, v0 :: v1 :: v2 :: v3 :: v4 :: v5 :: v6 :: v7 :: v8 :: v9 :: .ref as_ :: .int (nI (m_heldBytes - n)) :: v12 :: v13 :: v14 :: v15 :: v16 :: v17 :: v18 :: v19 :: v20 :: v21 :: v22 :: v23 :: v24 :: v25 :: v26 :: v27 :: v28 :: v29 :: v30 :: v31 :: v32 :: v33 :: v34 :: v35 :: v36 :: v37 :: v38 :: [])), (as_, .inl (gB g, 4096, .inl f1))] := hD
        refine ct_vret (w := [(mm, .inr (7, v0 :: v1 :: v2 :: v3 :: v4 :: v5 :: v6 :: v7 :: v8 :: v9 :: .ref as_ :: .int (nI (m_heldBytes - n)) :: v12 :: v13 :: v14 :: v15 :: v16 :: v17 :: v18 :: v19 :: v20 :: v21 :: v22 :: v23 :: v24 :: v25 :: v26 :: v27 :: v28 :: v29 :: v30 :: v31 :: v32 :: v33 :: v34 :: v35 :: v36 :: v37 :: v38 :: [])), (as_, .inl (gB g, 4096, .inl f1))]) hx hb hr hlocks hQ hAe hK (hP.sub [0, 1] rfl) (hD.sub [0, 1] (by decide) rfl) hS (by omega) (by omega) dX9_drop_40 ?_
        exact ⟨f1, rfl, rfl, by exact fun j hj => ec j (by omega)⟩
      · skip
        have c7 : ¬ (m_heldBytes ≤ i) := fun z => c7 ((nI_leI (a := m_heldBytes) (b := i) (by omega) (by omega)).mpr z)
        refine lv_aload_n hx hb dX9_drop_10 rfl (lv_at hl 0 rfl) ?_
        refine va_get (D := gD g) (ci := 7) (v := .ref as_) (C := RX9) (T := TX9) (N := 39) hx hb hts hinX9 hown hK hP 0 rfl rfl 10 (by decide) hf31 (fun _ h9 => h9) rfl dX9_drop_11 ?_
        refine lv_iload_n hx hb dX9_drop_14 rfl (lv_at hl 2 rfl) ?_
        refine lv_iload_n hx hb dX9_drop_15 rfl (lv_at hl 1 rfl) ?_
        refine q_isub (v := nI (i - n)) hx hb dX9_drop_16 (pk_sub (a := i) (b := n) (by omega)) ?_
        refine lv_aload_n hx hb dX9_drop_17 rfl (lv_at hl 0 rfl) ?_
        refine va_get (D := gD g) (ci := 7) (v := .ref as_) (C := RX9) (T := TX9) (N := 39) hx hb hts hinX9 hown hK hP 0 rfl rfl 10 (by decide) hf31 (fun _ h9 => h9) rfl dX9_drop_18 ?_
        refine lv_iload_n hx hb dX9_drop_21 rfl (lv_at hl 2 rfl) ?_
        refine q_bald hx hb hK hP 1 rfl (i) rfl (by omega) (by omega) dX9_drop_22 ?_
        refine q_top (v := f i) (ek i (Nat.le_refl _) (by omega)) ?_
        refine q_bast hx hb hK hP hD hS 1 rfl (i - n) rfl (by omega) (by omega) dX9_drop_23 (fun H locs hP hD hS => ?_)
        have hP : va_P (gD g) vwCl [(mm, .inr (7, v0 :: v1 :: v2 :: v3 :: v4 :: v5 :: v6 :: v7 :: v8 :: v9 :: .ref as_ :: .int (nI m_heldBytes) :: v12 :: v13 :: v14 :: v15 :: v16 :: v17 :: v18 :: v19 :: v20 :: v21 :: v22 :: v23 :: v24 :: v25 :: v26 :: v27 :: v28 :: v29 :: v30 :: v31 :: v32 :: v33 :: v34 :: v35 :: v36 :: v37 :: v38 :: [])), (as_, .inl (gB g, 4096, .inl (upd f1 (i - n) ((f i).toInt8.toInt32))))] H := hP
        have hD : va_D A [(mm, .inr (7, v0 :: v1 :: v2 :: v3 :: v4 :: v5 :: v6 :: v7 :: v8 :: v9 :: .ref as_ :: .int (nI m_heldBytes) :: v12 :: v13 :: v14 :: v15 :: v16 :: v17 :: v18 :: v19 :: v20 :: v21 :: v22 :: v23 :: v24 :: v25 :: v26 :: v27 :: v28 :: v29 :: v30 :: v31 :: v32 :: v33 :: v34 :: v35 :: v36 :: v37 :: v38 :: [])), (as_, .inl (gB g, 4096, .inl (upd f1 (i - n) ((f i).toInt8.toInt32))))] := hD
        refine lv_iinc (v := nI (i + 1)) (lv' := [(2, .int (nI (i + 1))), (0, .ref mm), (1, .int (nI n))]) hx hb dX9_drop_24 hl (k := 2) rfl (nI_inc i 1) (by decide) rfl (fun ls hl => ?_)
        refine lv_goto (tgt := 2) hx hb dX9_drop_27 (by decide) ?_
        exact ih_K2 (i + 1) (upd f1 (i - n) ((f i).toInt8.toInt32)) (by omega) (by omega) (by exact fun j hj => (if z : j < i - n then (pk_un (by omega)).trans (ec j z) else (by rw [show j = i - n by omega, pk_us, fit8 hfit, show n + (i - n) = i by omega]))) (by exact fun j h1 h2 => (pk_un (by omega)).trans (ek j (by omega) h2)) (by omega) _ _ _ (hP.sub [0, 1] rfl) (hD.sub [0, 1] (by decide) rfl) hS (lv_sub hl [1, 2, 0] rfl)
  exact K2 ((m_heldBytes - n) + 1) n fs (by omega) (by omega) (by intro j h1; omega) (by exact fun j _ hj => hM j hj) (Nat.lt_succ_self _) _ _ _ (hP.sub [0, 1] rfl) (hD.sub [0, 1] (by decide) rfl) hS (lv_sub hl [1, 2, 0] rfl)

set_option maxHeartbeats 4000000 in
set_option maxRecDepth 100000 in
theorem c_mByteIn (l : Launch) (g : GT) (mm : Nat) (v0 : Value) (v1 : Value) (v2 : Value) (v3 : Value) (v4 : Value) (v5 : Value) (v6 : Value) (v7 : Value) (v8 : Value) (v9 : Value) (as_ : Nat) (m_heldBytes : Nat) (v12 : Value) (v13 : Value) (v14 : Value) (v15 : Value) (v16 : Value) (v17 : Value) (v18 : Value) (v19 : Value) (v20 : Value) (v21 : Value) (v22 : Value) (v23 : Value) (v24 : Value) (v25 : Value) (v26 : Value) (v27 : Value) (v28 : Value) (v29 : Value) (v30 : Value) (v31 : Value) (v32 : Value) (v33 : Value) (v34 : Value) (v35 : Value) (v36 : Value) (v37 : Value) (v38 : Value) (fs : Nat → Int32) (f : Nat → Int32) (k : Nat) (hb2 : m_heldBytes ≤ 4096) (hM : ∀ j, j < m_heldBytes → fs j = f j) (hk : k < m_heldBytes) : CT l g yX9_byteAt wsX9_byteAt ({ frames := 0, cells := 0, slots := 0, locals := 0 } : Room) [.ref mm, .int (nI k)] [(mm, .inr (7, v0 :: v1 :: v2 :: v3 :: v4 :: v5 :: v6 :: v7 :: v8 :: v9 :: .ref as_ :: .int (nI m_heldBytes) :: v12 :: v13 :: v14 :: v15 :: v16 :: v17 :: v18 :: v19 :: v20 :: v21 :: v22 :: v23 :: v24 :: v25 :: v26 :: v27 :: v28 :: v29 :: v30 :: v31 :: v32 :: v33 :: v34 :: v35 :: v36 :: v37 :: v38 :: [])), (as_, .inl (gB g, 4096, .inl fs))] (fun r w => (r = some (.int (f k &&& 255)) ∧ w = [(mm, .inr (7, v0 :: v1 :: v2 :: v3 :: v4 :: v5 :: v6 :: v7 :: v8 :: v9 :: .ref as_ :: .int (nI m_heldBytes) :: v12 :: v13 :: v14 :: v15 :: v16 :: v17 :: v18 :: v19 :: v20 :: v21 :: v22 :: v23 :: v24 :: v25 :: v26 :: v27 :: v28 :: v29 :: v30 :: v31 :: v32 :: v33 :: v34 :: v35 :: v36 :: v37 :: v38 :: [])), (as_, .inl (gB g, 4096, .inl fs))])) (0) (0) := by
  refine ct_of (cc := cX9_byteAt) (maxL := 2) (ret := (some .int)) (by decide) rfl (Nat.le_of_ble_eq_true rfl) ?_
  intro p e s m args below meth c A Q hx hb hr hml hown hts hlocks hnam hAe hQ hA hG hK hP hD hS ls hl
  have hl : lv_has ls 2 [(0, .ref mm), (1, .int (nI k))] := hl
  have hown : s.vm.findClass RX9 = some m.cls := hown
  have hinX9 : ∀ w ∈ u_ws RX9 TX9 39, w ∈ wsX9_byteAt := by decide +kernel
  have hf31 := hts (.fieldLink RX9 31 "RequestReaderModel" "stream" "[B") (by decide +kernel)
  have hf61 := hts (.fieldLink RX9 61 "RequestReaderModel" "heldBytes" "I") (by decide +kernel)
  refine lv_iload_n hx hb dX9_byteAt_0 rfl (lv_at hl 1 rfl) ?_
  refine lv_aload_n hx hb dX9_byteAt_1 rfl (lv_at hl 0 rfl) ?_
  refine va_get (D := gD g) (ci := 7) (v := .int (nI m_heldBytes)) (C := RX9) (T := TX9) (N := 39) hx hb hts hinX9 hown hK hP 0 rfl rfl 11 (by decide) hf61 (fun _ h9 => h9) rfl dX9_byteAt_2 ?_
  refine lv_icmp_ge (tgt := 21) hx hb dX9_byteAt_5 (by decide) (fun c5 => ?_) (fun c5 => ?_)
  · skip
    have c5 : m_heldBytes ≤ k := (nI_leI (a := m_heldBytes) (b := k) (by omega) (by omega)).mp c5
    exact absurd c5 (by omega)
  · skip
    have c5 : ¬ (m_heldBytes ≤ k) := fun z => c5 ((nI_leI (a := m_heldBytes) (b := k) (by omega) (by omega)).mpr z)
    refine lv_aload_n hx hb dX9_byteAt_8 rfl (lv_at hl 0 rfl) ?_
    refine va_get (D := gD g) (ci := 7) (v := .ref as_) (C := RX9) (T := TX9) (N := 39) hx hb hts hinX9 hown hK hP 0 rfl rfl 10 (by decide) hf31 (fun _ h9 => h9) rfl dX9_byteAt_9 ?_
    refine lv_iload_n hx hb dX9_byteAt_12 rfl (lv_at hl 1 rfl) ?_
    refine q_bald hx hb hK hP 1 rfl (k) rfl (by omega) (by omega) dX9_byteAt_13 ?_
    refine q_top (v := f k) (hM _ (by omega)) ?_
    refine lv_sipush (v := nI 255) hx hb dX9_byteAt_14 (by decide) ?_
    refine q_iand (v := (f k) &&& 255) hx hb dX9_byteAt_17 (rfl) ?_
    refine lv_goto (tgt := 22) hx hb dX9_byteAt_18 (by decide) ?_
    refine ct_iret (w := [(mm, .inr (7, v0 :: v1 :: v2 :: v3 :: v4 :: v5 :: v6 :: v7 :: v8 :: v9 :: .ref as_ :: .int (nI m_heldBytes) :: v12 :: v13 :: v14 :: v15 :: v16 :: v17 :: v18 :: v19 :: v20 :: v21 :: v22 :: v23 :: v24 :: v25 :: v26 :: v27 :: v28 :: v29 :: v30 :: v31 :: v32 :: v33 :: v34 :: v35 :: v36 :: v37 :: v38 :: [])), (as_, .inl (gB g, 4096, .inl fs))]) hx hb hr rfl hlocks hQ hAe hK (hP.sub [0, 1] rfl) (hD.sub [0, 1] (by decide) rfl) hS (by omega) (by omega) dX9_byteAt_22 ?_
    exact ⟨rfl, rfl⟩

set_option maxHeartbeats 4000000 in
set_option maxRecDepth 100000 in
theorem c_mByteOut (l : Launch) (g : GT) (mm : Nat) (v0 : Value) (v1 : Value) (v2 : Value) (v3 : Value) (v4 : Value) (v5 : Value) (v6 : Value) (v7 : Value) (v8 : Value) (v9 : Value) (as_ : Nat) (m_heldBytes : Nat) (v12 : Value) (v13 : Value) (v14 : Value) (v15 : Value) (v16 : Value) (v17 : Value) (v18 : Value) (v19 : Value) (v20 : Value) (v21 : Value) (v22 : Value) (v23 : Value) (v24 : Value) (v25 : Value) (v26 : Value) (v27 : Value) (v28 : Value) (v29 : Value) (v30 : Value) (v31 : Value) (v32 : Value) (v33 : Value) (v34 : Value) (v35 : Value) (v36 : Value) (v37 : Value) (v38 : Value) (fs : Nat → Int32) (k : Nat) (hb2 : m_heldBytes ≤ 4096) (hk : m_heldBytes ≤ k) (hk2 : k < 2 ^ 30) : CT l g yX9_byteAt wsX9_byteAt ({ frames := 0, cells := 0, slots := 0, locals := 0 } : Room) [.ref mm, .int (nI k)] [(mm, .inr (7, v0 :: v1 :: v2 :: v3 :: v4 :: v5 :: v6 :: v7 :: v8 :: v9 :: .ref as_ :: .int (nI m_heldBytes) :: v12 :: v13 :: v14 :: v15 :: v16 :: v17 :: v18 :: v19 :: v20 :: v21 :: v22 :: v23 :: v24 :: v25 :: v26 :: v27 :: v28 :: v29 :: v30 :: v31 :: v32 :: v33 :: v34 :: v35 :: v36 :: v37 :: v38 :: [])), (as_, .inl (gB g, 4096, .inl fs))] (fun r w => (r = some (.int (-1)) ∧ w = [(mm, .inr (7, v0 :: v1 :: v2 :: v3 :: v4 :: v5 :: v6 :: v7 :: v8 :: v9 :: .ref as_ :: .int (nI m_heldBytes) :: v12 :: v13 :: v14 :: v15 :: v16 :: v17 :: v18 :: v19 :: v20 :: v21 :: v22 :: v23 :: v24 :: v25 :: v26 :: v27 :: v28 :: v29 :: v30 :: v31 :: v32 :: v33 :: v34 :: v35 :: v36 :: v37 :: v38 :: [])), (as_, .inl (gB g, 4096, .inl fs))])) (0) (0) := by
  refine ct_of (cc := cX9_byteAt) (maxL := 2) (ret := (some .int)) (by decide) rfl (Nat.le_of_ble_eq_true rfl) ?_
  intro p e s m args below meth c A Q hx hb hr hml hown hts hlocks hnam hAe hQ hA hG hK hP hD hS ls hl
  have hl : lv_has ls 2 [(0, .ref mm), (1, .int (nI k))] := hl
  have hown : s.vm.findClass RX9 = some m.cls := hown
  have hinX9 : ∀ w ∈ u_ws RX9 TX9 39, w ∈ wsX9_byteAt := by decide +kernel
  have hf61 := hts (.fieldLink RX9 61 "RequestReaderModel" "heldBytes" "I") (by decide +kernel)
  refine lv_iload_n hx hb dX9_byteAt_0 rfl (lv_at hl 1 rfl) ?_
  refine lv_aload_n hx hb dX9_byteAt_1 rfl (lv_at hl 0 rfl) ?_
  refine va_get (D := gD g) (ci := 7) (v := .int (nI m_heldBytes)) (C := RX9) (T := TX9) (N := 39) hx hb hts hinX9 hown hK hP 0 rfl rfl 11 (by decide) hf61 (fun _ h9 => h9) rfl dX9_byteAt_2 ?_
  refine lv_icmp_ge (tgt := 21) hx hb dX9_byteAt_5 (by decide) (fun c5 => ?_) (fun c5 => ?_)
  · skip
    have c5 : m_heldBytes ≤ k := (nI_leI (a := m_heldBytes) (b := k) (by omega) (by omega)).mp c5
    refine lv_iconst (v := (-1)) hx hb dX9_byteAt_21 (by decide) ?_
    refine ct_iret (w := [(mm, .inr (7, v0 :: v1 :: v2 :: v3 :: v4 :: v5 :: v6 :: v7 :: v8 :: v9 :: .ref as_ :: .int (nI m_heldBytes) :: v12 :: v13 :: v14 :: v15 :: v16 :: v17 :: v18 :: v19 :: v20 :: v21 :: v22 :: v23 :: v24 :: v25 :: v26 :: v27 :: v28 :: v29 :: v30 :: v31 :: v32 :: v33 :: v34 :: v35 :: v36 :: v37 :: v38 :: [])), (as_, .inl (gB g, 4096, .inl fs))]) hx hb hr rfl hlocks hQ hAe hK (hP.sub [0, 1] rfl) (hD.sub [0, 1] (by decide) rfl) hS (by omega) (by omega) dX9_byteAt_22 ?_
    exact ⟨rfl, rfl⟩
  · skip
    have c5 : ¬ (m_heldBytes ≤ k) := fun z => c5 ((nI_leI (a := m_heldBytes) (b := k) (by omega) (by omega)).mpr z)
    exact absurd (by omega) c5

set_option maxHeartbeats 4000000 in
set_option maxRecDepth 100000 in
theorem c_mHeadBytes (l : Launch) (g : GT) (mm : Nat) (v0 : Value) (v1 : Value) (v2 : Value) (v3 : Value) (v4 : Value) (v5 : Value) (v6 : Value) (v7 : Value) (v8 : Value) (v9 : Value) (as_ : Nat) (m_heldBytes : Nat) (v12 : Value) (v13 : Value) (v14 : Value) (v15 : Value) (v16 : Value) (v17 : Value) (v18 : Value) (v19 : Value) (v20 : Value) (v21 : Value) (v22 : Value) (v23 : Value) (v24 : Value) (v25 : Value) (v26 : Value) (v27 : Value) (v28 : Value) (v29 : Value) (v30 : Value) (v31 : Value) (v32 : Value) (v33 : Value) (v34 : Value) (v35 : Value) (v36 : Value) (v37 : Value) (v38 : Value) (fs : Nat → Int32) (f : Nat → Int32) (hb2 : m_heldBytes ≤ 4096) (hM : ∀ j, j < m_heldBytes → fs j = f j) : CT l g yX9_headBytes wsX9_headBytes ({ frames := 1, cells := 0, slots := 0, locals := 21 } : Room) [.ref mm] [(mm, .inr (7, v0 :: v1 :: v2 :: v3 :: v4 :: v5 :: v6 :: v7 :: v8 :: v9 :: .ref as_ :: .int (nI m_heldBytes) :: v12 :: v13 :: v14 :: v15 :: v16 :: v17 :: v18 :: v19 :: v20 :: v21 :: v22 :: v23 :: v24 :: v25 :: v26 :: v27 :: v28 :: v29 :: v30 :: v31 :: v32 :: v33 :: v34 :: v35 :: v36 :: v37 :: v38 :: [])), (as_, .inl (gB g, 4096, .inl fs))] (fun r w => (∃ (r1 : Nat), r = some (.int (nI r1)) ∧ w = [(mm, .inr (7, v0 :: v1 :: v2 :: v3 :: v4 :: v5 :: v6 :: v7 :: v8 :: v9 :: .ref as_ :: .int (nI m_heldBytes) :: v12 :: v13 :: v14 :: v15 :: v16 :: v17 :: v18 :: v19 :: v20 :: v21 :: v22 :: v23 :: v24 :: v25 :: v26 :: v27 :: v28 :: v29 :: v30 :: v31 :: v32 :: v33 :: v34 :: v35 :: v36 :: v37 :: v38 :: [])), (as_, .inl (gB g, 4096, .inl fs))] ∧ (r1 = hsz f m_heldBytes (m_heldBytes + 1) 0 0) ∧ (r1 ≤ m_heldBytes))) (0) (0) := by
  refine ct_of (cc := cX9_headBytes) (maxL := 4) (ret := (some .int)) (by decide) rfl (Nat.le_of_ble_eq_true rfl) ?_
  intro p e s m args below meth c A Q hx hb hr hml hown hts hlocks hnam hAe hQ hA hG hK hP hD hS ls hl
  have hl : lv_has ls 4 [(0, .ref mm)] := hl
  have hown : s.vm.findClass RX9 = some m.cls := hown
  have hinX9 : ∀ w ∈ u_ws RX9 TX9 39, w ∈ wsX9_headBytes := by decide +kernel
  have hf61 := hts (.fieldLink RX9 61 "RequestReaderModel" "heldBytes" "I") (by decide +kernel)
  refine lv_iconst (v := nI 0) hx hb dX9_headBytes_0 (by decide) ?_
  refine lv_istore_n (lv' := [(1, .int (nI 0)), (0, .ref mm)]) hx hb dX9_headBytes_1 rfl hl (by decide) rfl (fun ls hl => ?_)
  refine lv_iconst (v := nI 0) hx hb dX9_headBytes_2 (by decide) ?_
  refine lv_istore_n (lv' := [(2, .int (nI 0)), (1, .int (nI 0)), (0, .ref mm)]) hx hb dX9_headBytes_3 rfl hl (by decide) rfl (fun ls hl => ?_)
  have K4 : ∀ (N_ : Nat) (b0 : Nat) (i : Nat), (b0 ≤ i) → (i ≤ m_heldBytes) → (∃ m, m_heldBytes < i + m ∧ hsz f m_heldBytes (m_heldBytes + 1) 0 0 = hsz f m_heldBytes m b0 i) → (m_heldBytes - i) < N_ → ∀ (H : Heap) (locs : List Loc) (ls : Array Slot), va_P (gD g) vwCl [(mm, .inr (7, v0 :: v1 :: v2 :: v3 :: v4 :: v5 :: v6 :: v7 :: v8 :: v9 :: .ref as_ :: .int (nI m_heldBytes) :: v12 :: v13 :: v14 :: v15 :: v16 :: v17 :: v18 :: v19 :: v20 :: v21 :: v22 :: v23 :: v24 :: v25 :: v26 :: v27 :: v28 :: v29 :: v30 :: v31 :: v32 :: v33 :: v34 :: v35 :: v36 :: v37 :: v38 :: [])), (as_, .inl (gB g, 4096, .inl fs))] H → va_D A [(mm, .inr (7, v0 :: v1 :: v2 :: v3 :: v4 :: v5 :: v6 :: v7 :: v8 :: v9 :: .ref as_ :: .int (nI m_heldBytes) :: v12 :: v13 :: v14 :: v15 :: v16 :: v17 :: v18 :: v19 :: v20 :: v21 :: v22 :: v23 :: v24 :: v25 :: v26 :: v27 :: v28 :: v29 :: v30 :: v31 :: v32 :: v33 :: v34 :: v35 :: v36 :: v37 :: v38 :: [])), (as_, .inl (gB g, 4096, .inl fs))] → va_S A s.heap H locs → lv_has ls 4 [(0, .ref mm), (1, .int (nI b0)), (2, .int (nI i))] → W p l e ({ frames := 1, cells := 0, slots := 0, locals := 21 } : Room) s m args below meth c H locs (0) (0) Q (F0 m 4 ls []) := by
    intro N_
    induction N_ with
    | zero => intro b0 i hbi his hE hm_; exact absurd hm_ (Nat.not_lt_zero _)
    | succ N_ ih_K4 =>
      intro b0 i hbi his hE hm_ H locs ls hP hD hS hl
      refine lv_iload_n hx hb dX9_headBytes_4 rfl (lv_at hl 2 rfl) ?_
      refine lv_aload_n hx hb dX9_headBytes_5 rfl (lv_at hl 0 rfl) ?_
      refine va_get (D := gD g) (ci := 7) (v := .int (nI m_heldBytes)) (C := RX9) (T := TX9) (N := 39) hx hb hts hinX9 hown hK hP 0 rfl rfl 11 (by decide) hf61 (fun _ h9 => h9) rfl dX9_headBytes_6 ?_
      refine lv_icmp_ge (tgt := 68) hx hb dX9_headBytes_9 (by decide) (fun c9 => ?_) (fun c9 => ?_)
      · skip
        have c9 : m_heldBytes ≤ i := (nI_leI (a := m_heldBytes) (b := i) (by omega) (by omega)).mp c9
        refine lv_iconst (v := nI 0) hx hb dX9_headBytes_68 (by decide) ?_
        refine ct_iret (w := [(mm, .inr (7, v0 :: v1 :: v2 :: v3 :: v4 :: v5 :: v6 :: v7 :: v8 :: v9 :: .ref as_ :: .int (nI m_heldBytes) :: v12 :: v13 :: v14 :: v15 :: v16 :: v17 :: v18 :: v19 :: v20 :: v21 :: v22 :: v23 :: v24 :: v25 :: v26 :: v27 :: v28 :: v29 :: v30 :: v31 :: v32 :: v33 :: v34 :: v35 :: v36 :: v37 :: v38 :: [])), (as_, .inl (gB g, 4096, .inl fs))]) hx hb hr rfl hlocks hQ hAe hK (hP.sub [0, 1] rfl) (hD.sub [0, 1] (by decide) rfl) hS (by omega) (by omega) dX9_headBytes_69 ?_
        exact ⟨0, rfl, rfl, by (obtain ⟨m, h1, h2⟩ := hE; first | exact (h2.trans (hsz_4 (by omega))).symm | (obtain ⟨m, rfl⟩ : ∃ k, m = k + 1 := ⟨m - 1, by omega⟩; first | exact (h2.trans (hsz_1 (by omega) c19 (Or.inl c24))).symm | exact (h2.trans (hsz_1 (by omega) c19 (Or.inr ⟨c31, c41⟩))).symm)), by omega⟩
      · skip
        have c9 : ¬ (m_heldBytes ≤ i) := fun z => c9 ((nI_leI (a := m_heldBytes) (b := i) (by omega) (by omega)).mpr z)
        refine lv_aload_n hx hb dX9_headBytes_12 rfl (lv_at hl 0 rfl) ?_
        refine lv_iload_n hx hb dX9_headBytes_13 rfl (lv_at hl 2 rfl) ?_
        refine ct_callV (wr := []) hx hb hml hown hts hK hP hD hS hA hG hl.1 (c_mByteIn l g mm ((v0 : Value)) ((v1 : Value)) ((v2 : Value)) ((v3 : Value)) ((v4 : Value)) ((v5 : Value)) ((v6 : Value)) ((v7 : Value)) ((v8 : Value)) ((v9 : Value)) as_ m_heldBytes ((v12 : Value)) ((v13 : Value)) ((v14 : Value)) ((v15 : Value)) ((v16 : Value)) ((v17 : Value)) ((v18 : Value)) ((v19 : Value)) ((v20 : Value)) ((v21 : Value)) ((v22 : Value)) ((v23 : Value)) ((v24 : Value)) ((v25 : Value)) ((v26 : Value)) ((v27 : Value)) ((v28 : Value)) ((v29 : Value)) ((v30 : Value)) ((v31 : Value)) ((v32 : Value)) ((v33 : Value)) ((v34 : Value)) ((v35 : Value)) ((v36 : Value)) ((v37 : Value)) ((v38 : Value)) fs f i (by omega) (by assumption) (by omega)) (cwV 1 hts gX9_headBytes_X9_byteAt rfl rfl rfl (by decide +kernel) ⟨Nat.le_of_ble_eq_true rfl, Nat.le_of_ble_eq_true rfl⟩) (va_recv hK hP (ci := 7) (q0 := 0) rfl rfl) rfl rfl (Nat.le_of_ble_eq_true rfl) dX9_headBytes_14 ⟨show 0 + 0 ≤ 0 by omega, show 0 + 0 ≤ 0 by omega⟩ [0, 1] [] rfl rfl (by decide) (by decide) (by decide) (fun r_ w_ H locs hp_ hP hD hS => ?_)
        obtain ⟨rfl, rfl⟩ := hp_
        have hP : va_P (gD g) vwCl [(mm, .inr (7, v0 :: v1 :: v2 :: v3 :: v4 :: v5 :: v6 :: v7 :: v8 :: v9 :: .ref as_ :: .int (nI m_heldBytes) :: v12 :: v13 :: v14 :: v15 :: v16 :: v17 :: v18 :: v19 :: v20 :: v21 :: v22 :: v23 :: v24 :: v25 :: v26 :: v27 :: v28 :: v29 :: v30 :: v31 :: v32 :: v33 :: v34 :: v35 :: v36 :: v37 :: v38 :: [])), (as_, .inl (gB g, 4096, .inl fs))] H := hP
        have hD : va_D A [(mm, .inr (7, v0 :: v1 :: v2 :: v3 :: v4 :: v5 :: v6 :: v7 :: v8 :: v9 :: .ref as_ :: .int (nI m_heldBytes) :: v12 :: v13 :: v14 :: v15 :: v16 :: v17 :: v18 :: v19 :: v20 :: v21 :: v22 :: v23 :: v24 :: v25 :: v26 :: v27 :: v28 :: v29 :: v30 :: v31 :: v32 :: v33 :: v34 :: v35 :: v36 :: v37 :: v38 :: [])), (as_, .inl (gB g, 4096, .inl fs))] := hD
        refine W.eq (g2 := F0 m 17 ls [.int (f i &&& 255)]) rfl ?_
        refine lv_bipush (v := nI 10) hx hb dX9_headBytes_17 (by decide) ?_
        refine lv_icmp_ne (tgt := 62) hx hb dX9_headBytes_19 (by decide) (fun c19 => ?_) (fun c19 => ?_)
        · skip
          refine lv_iinc (v := nI (i + 1)) (lv' := [(2, .int (nI (i + 1))), (0, .ref mm), (1, .int (nI b0))]) hx hb dX9_headBytes_62 hl (k := 2) rfl (nI_inc i 1) (by decide) rfl (fun ls hl => ?_)
          refine lv_goto (tgt := 4) hx hb dX9_headBytes_65 (by decide) ?_
          exact ih_K4 b0 (i + 1) (by omega) (by omega) (by (obtain ⟨m, h1, h2⟩ := hE; obtain ⟨m, rfl⟩ : ∃ k, m = k + 1 := ⟨m - 1, by omega⟩; first | exact ⟨m, by omega, h2.trans (hsz_3 (by omega) c19)⟩ | exact ⟨m, by omega, h2.trans (hsz_2 (by omega) c19 (fun w => w.elim (fun w => c24 w) (fun w => c31 w.1)))⟩ | exact ⟨m, by omega, h2.trans (hsz_2 (by omega) c19 (fun w => w.elim (fun w => c24 w) (fun w => c41 w.2)))⟩)) (by omega) _ _ _ (hP.sub [0, 1] rfl) (hD.sub [0, 1] (by decide) rfl) hS (lv_sub hl [1, 2, 0] rfl)
        · skip
          refine lv_iload_n hx hb dX9_headBytes_22 rfl (lv_at hl 2 rfl) ?_
          refine lv_iload_n hx hb dX9_headBytes_23 rfl (lv_at hl 1 rfl) ?_
          refine lv_icmp_eq (tgt := 44) hx hb dX9_headBytes_24 (by decide) (fun c24 => ?_) (fun c24 => ?_)
          · skip
            have c24 : i = b0 := (nI_eq (a := i) (b := b0) (by omega) (by omega)).mp c24
            refine lv_iconst (v := nI 1) hx hb dX9_headBytes_44 (by decide) ?_
            refine lv_goto (tgt := 49) hx hb dX9_headBytes_45 (by decide) ?_
            refine lv_istore_n (lv' := [(3, .int (nI 1)), (0, .ref mm), (1, .int (nI b0)), (2, .int (nI i))]) hx hb dX9_headBytes_49 rfl hl (by decide) rfl (fun ls hl => ?_)
            refine lv_iload_n hx hb dX9_headBytes_50 rfl (lv_at hl 0 rfl) ?_
            refine lv_if_eq (tgt := 58) hx hb dX9_headBytes_51 (by decide) (fun c51 => absurd c51 (by decide)) (fun _ => ?_)
            refine lv_iload_n hx hb dX9_headBytes_54 rfl (lv_at hl 3 rfl) ?_
            refine lv_iconst (v := nI 1) hx hb dX9_headBytes_55 (by decide) ?_
            refine q_iadd (v := nI (i + 1)) hx hb dX9_headBytes_56 (nI_add i 1) ?_
            refine ct_iret (w := [(mm, .inr (7, v0 :: v1 :: v2 :: v3 :: v4 :: v5 :: v6 :: v7 :: v8 :: v9 :: .ref as_ :: .int (nI m_heldBytes) :: v12 :: v13 :: v14 :: v15 :: v16 :: v17 :: v18 :: v19 :: v20 :: v21 :: v22 :: v23 :: v24 :: v25 :: v26 :: v27 :: v28 :: v29 :: v30 :: v31 :: v32 :: v33 :: v34 :: v35 :: v36 :: v37 :: v38 :: [])), (as_, .inl (gB g, 4096, .inl fs))]) hx hb hr rfl hlocks hQ hAe hK (hP.sub [0, 1] rfl) (hD.sub [0, 1] (by decide) rfl) hS (by omega) (by omega) dX9_headBytes_57 ?_
            exact ⟨i + 1, rfl, rfl, by (obtain ⟨m, h1, h2⟩ := hE; first | exact (h2.trans (hsz_4 (by omega))).symm | (obtain ⟨m, rfl⟩ : ∃ k, m = k + 1 := ⟨m - 1, by omega⟩; first | exact (h2.trans (hsz_1 (by omega) c19 (Or.inl c24))).symm | exact (h2.trans (hsz_1 (by omega) c19 (Or.inr ⟨c31, c41⟩))).symm)), by omega⟩
          · skip
            have c24 : ¬ (i = b0) := fun z => c24 ((nI_eq (a := i) (b := b0) (by omega) (by omega)).mpr z)
            refine lv_iload_n hx hb dX9_headBytes_27 rfl (lv_at hl 2 rfl) ?_
            refine lv_iload_n hx hb dX9_headBytes_28 rfl (lv_at hl 1 rfl) ?_
            refine lv_iconst (v := nI 1) hx hb dX9_headBytes_29 (by decide) ?_
            refine q_iadd (v := nI (b0 + 1)) hx hb dX9_headBytes_30 (nI_add b0 1) ?_
            refine lv_icmp_ne (tgt := 48) hx hb dX9_headBytes_31 (by decide) (fun c31 => ?_) (fun c31 => ?_)
            · skip
              have c31 : ¬ (i = b0 + 1) := fun z => c31 ((nI_eq (a := i) (b := b0 + 1) (by omega) (by omega)).mpr z)
              refine lv_iconst (v := nI 0) hx hb dX9_headBytes_48 (by decide) ?_
              refine lv_istore_n (lv' := [(3, .int (nI 0)), (0, .ref mm), (1, .int (nI b0)), (2, .int (nI i))]) hx hb dX9_headBytes_49 rfl hl (by decide) rfl (fun ls hl => ?_)
              refine lv_iload_n hx hb dX9_headBytes_50 rfl (lv_at hl 0 rfl) ?_
              refine lv_if_eq (tgt := 58) hx hb dX9_headBytes_51 (by decide) (fun _ => ?_) (fun c51 => absurd (by decide) c51)
              refine lv_iload_n hx hb dX9_headBytes_58 rfl (lv_at hl 3 rfl) ?_
              refine lv_iconst (v := nI 1) hx hb dX9_headBytes_59 (by decide) ?_
              refine q_iadd (v := nI (i + 1)) hx hb dX9_headBytes_60 (nI_add i 1) ?_
              refine lv_istore_n (lv' := [(1, .int (nI (i + 1))), (3, .int (nI 0)), (0, .ref mm), (2, .int (nI i))]) hx hb dX9_headBytes_61 rfl hl (by decide) rfl (fun ls hl => ?_)
              refine lv_iinc (v := nI (i + 1)) (lv' := [(2, .int (nI (i + 1))), (1, .int (nI (i + 1))), (3, .int (nI 0)), (0, .ref mm)]) hx hb dX9_headBytes_62 hl (k := 3) rfl (nI_inc i 1) (by decide) rfl (fun ls hl => ?_)
              refine lv_goto (tgt := 4) hx hb dX9_headBytes_65 (by decide) ?_
              exact ih_K4 (i + 1) (i + 1) (by omega) (by omega) (by (obtain ⟨m, h1, h2⟩ := hE; obtain ⟨m, rfl⟩ : ∃ k, m = k + 1 := ⟨m - 1, by omega⟩; first | exact ⟨m, by omega, h2.trans (hsz_3 (by omega) c19)⟩ | exact ⟨m, by omega, h2.trans (hsz_2 (by omega) c19 (fun w => w.elim (fun w => c24 w) (fun w => c31 w.1)))⟩ | exact ⟨m, by omega, h2.trans (hsz_2 (by omega) c19 (fun w => w.elim (fun w => c24 w) (fun w => c41 w.2)))⟩)) (by omega) _ _ _ (hP.sub [0, 1] rfl) (hD.sub [0, 1] (by decide) rfl) hS (lv_sub hl [3, 1, 0] rfl)
            · skip
              have c31 : i = b0 + 1 := (nI_eq (a := i) (b := b0 + 1) (by omega) (by omega)).mp c31
              refine lv_aload_n hx hb dX9_headBytes_34 rfl (lv_at hl 0 rfl) ?_
              refine lv_iload_n hx hb dX9_headBytes_35 rfl (lv_at hl 1 rfl) ?_
              refine ct_callV (wr := []) hx hb hml hown hts hK hP hD hS hA hG hl.1 (c_mByteIn l g mm ((v0 : Value)) ((v1 : Value)) ((v2 : Value)) ((v3 : Value)) ((v4 : Value)) ((v5 : Value)) ((v6 : Value)) ((v7 : Value)) ((v8 : Value)) ((v9 : Value)) as_ m_heldBytes ((v12 : Value)) ((v13 : Value)) ((v14 : Value)) ((v15 : Value)) ((v16 : Value)) ((v17 : Value)) ((v18 : Value)) ((v19 : Value)) ((v20 : Value)) ((v21 : Value)) ((v22 : Value)) ((v23 : Value)) ((v24 : Value)) ((v25 : Value)) ((v26 : Value)) ((v27 : Value)) ((v28 : Value)) ((v29 : Value)) ((v30 : Value)) ((v31 : Value)) ((v32 : Value)) ((v33 : Value)) ((v34 : Value)) ((v35 : Value)) ((v36 : Value)) ((v37 : Value)) ((v38 : Value)) fs f b0 (by omega) (by assumption) (by omega)) (cwV 1 hts gX9_headBytes_X9_byteAt rfl rfl rfl (by decide +kernel) ⟨Nat.le_of_ble_eq_true rfl, Nat.le_of_ble_eq_true rfl⟩) (va_recv hK hP (ci := 7) (q0 := 0) rfl rfl) rfl rfl (Nat.le_of_ble_eq_true rfl) dX9_headBytes_36 ⟨show 0 + 0 ≤ 0 by omega, show 0 + 0 ≤ 0 by omega⟩ [0, 1] [] rfl rfl (by decide) (by decide) (by decide) (fun r_ w_ H locs hp_ hP hD hS => ?_)
              obtain ⟨rfl, rfl⟩ := hp_
              have hP : va_P (gD g) vwCl [(mm, .inr (7, v0 :: v1 :: v2 :: v3 :: v4 :: v5 :: v6 :: v7 :: v8 :: v9 :: .ref as_ :: .int (nI m_heldBytes) :: v12 :: v13 :: v14 :: v15 :: v16 :: v17 :: v18 :: v19 :: v20 :: v21 :: v22 :: v23 :: v24 :: v25 :: v26 :: v27 :: v28 :: v29 :: v30 :: v31 :: v32 :: v33 :: v34 :: v35 :: v36 :: v37 :: v38 :: [])), (as_, .inl (gB g, 4096, .inl fs))] H := hP
              have hD : va_D A [(mm, .inr (7, v0 :: v1 :: v2 :: v3 :: v4 :: v5 :: v6 :: v7 :: v8 :: v9 :: .ref as_ :: .int (nI m_heldBytes) :: v12 :: v13 :: v14 :: v15 :: v16 :: v17 :: v18 :: v19 :: v20 :: v21 :: v22 :: v23 :: v24 :: v25 :: v26 :: v27 :: v28 :: v29 :: v30 :: v31 :: v32 :: v33 :: v34 :: v35 :: v36 :: v37 :: v38 :: [])), (as_, .inl (gB g, 4096, .inl fs))] := hD
              refine W.eq (g2 := F0 m 39 ls [.int (f b0 &&& 255)]) rfl ?_
              refine lv_bipush (v := nI 13) hx hb dX9_headBytes_39 (by decide) ?_
              refine lv_icmp_ne (tgt := 48) hx hb dX9_headBytes_41 (by decide) (fun c41 => ?_) (fun c41 => ?_)
              · skip
                refine lv_iconst (v := nI 0) hx hb dX9_headBytes_48 (by decide) ?_
                refine lv_istore_n (lv' := [(3, .int (nI 0)), (0, .ref mm), (1, .int (nI b0)), (2, .int (nI i))]) hx hb dX9_headBytes_49 rfl hl (by decide) rfl (fun ls hl => ?_)
                refine lv_iload_n hx hb dX9_headBytes_50 rfl (lv_at hl 0 rfl) ?_
                refine lv_if_eq (tgt := 58) hx hb dX9_headBytes_51 (by decide) (fun _ => ?_) (fun c51 => absurd (by decide) c51)
                refine lv_iload_n hx hb dX9_headBytes_58 rfl (lv_at hl 3 rfl) ?_
                refine lv_iconst (v := nI 1) hx hb dX9_headBytes_59 (by decide) ?_
                refine q_iadd (v := nI (i + 1)) hx hb dX9_headBytes_60 (nI_add i 1) ?_
                refine lv_istore_n (lv' := [(1, .int (nI (i + 1))), (3, .int (nI 0)), (0, .ref mm), (2, .int (nI i))]) hx hb dX9_headBytes_61 rfl hl (by decide) rfl (fun ls hl => ?_)
                refine lv_iinc (v := nI (i + 1)) (lv' := [(2, .int (nI (i + 1))), (1, .int (nI (i + 1))), (3, .int (nI 0)), (0, .ref mm)]) hx hb dX9_headBytes_62 hl (k := 3) rfl (nI_inc i 1) (by decide) rfl (fun ls hl => ?_)
                refine lv_goto (tgt := 4) hx hb dX9_headBytes_65 (by decide) ?_
                exact ih_K4 (i + 1) (i + 1) (by omega) (by omega) (by (obtain ⟨m, h1, h2⟩ := hE; obtain ⟨m, rfl⟩ : ∃ k, m = k + 1 := ⟨m - 1, by omega⟩; first | exact ⟨m, by omega, h2.trans (hsz_3 (by omega) c19)⟩ | exact ⟨m, by omega, h2.trans (hsz_2 (by omega) c19 (fun w => w.elim (fun w => c24 w) (fun w => c31 w.1)))⟩ | exact ⟨m, by omega, h2.trans (hsz_2 (by omega) c19 (fun w => w.elim (fun w => c24 w) (fun w => c41 w.2)))⟩)) (by omega) _ _ _ (hP.sub [0, 1] rfl) (hD.sub [0, 1] (by decide) rfl) hS (lv_sub hl [3, 1, 0] rfl)
              · skip
                refine lv_iconst (v := nI 1) hx hb dX9_headBytes_44 (by decide) ?_
                refine lv_goto (tgt := 49) hx hb dX9_headBytes_45 (by decide) ?_
                refine lv_istore_n (lv' := [(3, .int (nI 1)), (0, .ref mm), (1, .int (nI b0)), (2, .int (nI i))]) hx hb dX9_headBytes_49 rfl hl (by decide) rfl (fun ls hl => ?_)
                refine lv_iload_n hx hb dX9_headBytes_50 rfl (lv_at hl 0 rfl) ?_
                refine lv_if_eq (tgt := 58) hx hb dX9_headBytes_51 (by decide) (fun c51 => absurd c51 (by decide)) (fun _ => ?_)
                refine lv_iload_n hx hb dX9_headBytes_54 rfl (lv_at hl 3 rfl) ?_
                refine lv_iconst (v := nI 1) hx hb dX9_headBytes_55 (by decide) ?_
                refine q_iadd (v := nI (i + 1)) hx hb dX9_headBytes_56 (nI_add i 1) ?_
                refine ct_iret (w := [(mm, .inr (7, v0 :: v1 :: v2 :: v3 :: v4 :: v5 :: v6 :: v7 :: v8 :: v9 :: .ref as_ :: .int (nI m_heldBytes) :: v12 :: v13 :: v14 :: v15 :: v16 :: v17 :: v18 :: v19 :: v20 :: v21 :: v22 :: v23 :: v24 :: v25 :: v26 :: v27 :: v28 :: v29 :: v30 :: v31 :: v32 :: v33 :: v34 :: v35 :: v36 :: v37 :: v38 :: [])), (as_, .inl (gB g, 4096, .inl fs))]) hx hb hr rfl hlocks hQ hAe hK (hP.sub [0, 1] rfl) (hD.sub [0, 1] (by decide) rfl) hS (by omega) (by omega) dX9_headBytes_57 ?_
                exact ⟨i + 1, rfl, rfl, by (obtain ⟨m, h1, h2⟩ := hE; first | exact (h2.trans (hsz_4 (by omega))).symm | (obtain ⟨m, rfl⟩ : ∃ k, m = k + 1 := ⟨m - 1, by omega⟩; first | exact (h2.trans (hsz_1 (by omega) c19 (Or.inl c24))).symm | exact (h2.trans (hsz_1 (by omega) c19 (Or.inr ⟨c31, c41⟩))).symm)), by omega⟩
  exact K4 ((m_heldBytes - 0) + 1) 0 0 (by omega) (by omega) (by exact ⟨m_heldBytes + 1, by omega, rfl⟩) (Nat.lt_succ_self _) _ _ _ (hP.sub [0, 1] rfl) (hD.sub [0, 1] (by decide) rfl) hS (lv_sub hl [2, 1, 0] rfl)

set_option maxHeartbeats 4000000 in
set_option maxRecDepth 100000 in
theorem c_mAt (l : Launch) (g : GT) (mm : Nat) (v0 : Value) (v1 : Value) (v2 : Value) (v3 : Value) (v4 : Value) (v5 : Value) (v6 : Value) (v7 : Value) (v8 : Value) (v9 : Value) (v10 : Value) (v11 : Value) (v12 : Value) (aa_ : Nat) (ab_ : Nat) (m_answerLength : Nat) (m_bodyLength : Nat) (v17 : Value) (v18 : Value) (v19 : Value) (v20 : Value) (v21 : Value) (v22 : Value) (v23 : Value) (v24 : Value) (v25 : Value) (v26 : Value) (v27 : Value) (v28 : Value) (v29 : Value) (v30 : Value) (v31 : Value) (v32 : Value) (v33 : Value) (v34 : Value) (v35 : Value) (v36 : Value) (v37 : Value) (v38 : Value) (fa : Nat → Int32) (fy : Nat → Int32) (fz : Nat → Int32) (x : Int32) (hb1 : m_answerLength ≤ 512) (hb2 : m_bodyLength ≤ 65535) (hM : ∀ j, j < m_answerLength → fa j = fz j) (hB : ∀ j, j < m_bodyLength → fy j = fz (m_answerLength + j)) : CT l g yX9_at wsX9_at ({ frames := 1, cells := 0, slots := 0, locals := 20 } : Room) [.ref mm, .int x] [(mm, .inr (7, v0 :: v1 :: v2 :: v3 :: v4 :: v5 :: v6 :: v7 :: v8 :: v9 :: v10 :: v11 :: v12 :: .ref aa_ :: .ref ab_ :: .int (nI m_answerLength) :: .int (nI m_bodyLength) :: v17 :: v18 :: v19 :: v20 :: v21 :: v22 :: v23 :: v24 :: v25 :: v26 :: v27 :: v28 :: v29 :: v30 :: v31 :: v32 :: v33 :: v34 :: v35 :: v36 :: v37 :: v38 :: [])), (aa_, .inl (gB g, 512, .inl fa)), (ab_, .inl (gB g, 65535, .inl fy))] (fun r w => (r = some (.int (-1)) ∧ w = [(mm, .inr (7, v0 :: v1 :: v2 :: v3 :: v4 :: v5 :: v6 :: v7 :: v8 :: v9 :: v10 :: v11 :: v12 :: .ref aa_ :: .ref ab_ :: .int (nI m_answerLength) :: .int (nI m_bodyLength) :: v17 :: v18 :: v19 :: v20 :: v21 :: v22 :: v23 :: v24 :: v25 :: v26 :: v27 :: v28 :: v29 :: v30 :: v31 :: v32 :: v33 :: v34 :: v35 :: v36 :: v37 :: v38 :: [])), (aa_, .inl (gB g, 512, .inl fa)), (ab_, .inl (gB g, 65535, .inl fy))] ∧ (x < 0 ∨ nI (m_answerLength + m_bodyLength) ≤ x)) ∨ (∃ (j : Nat), r = some (.int (fz j &&& 255)) ∧ w = [(mm, .inr (7, v0 :: v1 :: v2 :: v3 :: v4 :: v5 :: v6 :: v7 :: v8 :: v9 :: v10 :: v11 :: v12 :: .ref aa_ :: .ref ab_ :: .int (nI m_answerLength) :: .int (nI m_bodyLength) :: v17 :: v18 :: v19 :: v20 :: v21 :: v22 :: v23 :: v24 :: v25 :: v26 :: v27 :: v28 :: v29 :: v30 :: v31 :: v32 :: v33 :: v34 :: v35 :: v36 :: v37 :: v38 :: [])), (aa_, .inl (gB g, 512, .inl fa)), (ab_, .inl (gB g, 65535, .inl fy))] ∧ (x = nI j) ∧ (j < m_answerLength + m_bodyLength))) (0) (0) := by
  refine ct_of (cc := cX9_at) (maxL := 2) (ret := (some .int)) (by decide) rfl (Nat.le_of_ble_eq_true rfl) ?_
  intro p e s m args below meth c A Q hx hb hr hml hown hts hlocks hnam hAe hQ hA hG hK hP hD hS ls hl
  have hl : lv_has ls 2 [(0, .ref mm), (1, .int x)] := hl
  have hown : s.vm.findClass RX9 = some m.cls := hown
  have hinX9 : ∀ w ∈ u_ws RX9 TX9 39, w ∈ wsX9_at := by decide +kernel
  have hf34 := hts (.fieldLink RX9 34 "RequestReaderModel" "answer" "[B") (by decide +kernel)
  have hf37 := hts (.fieldLink RX9 37 "RequestReaderModel" "body" "[B") (by decide +kernel)
  have hf67 := hts (.fieldLink RX9 67 "RequestReaderModel" "answerLength" "I") (by decide +kernel)
  refine lv_iload_n hx hb dX9_at_0 rfl (lv_at hl 1 rfl) ?_
  refine lv_if_lt (tgt := 12) hx hb dX9_at_1 (by decide) (fun c1 => ?_) (fun c1 => ?_)
  · skip
    refine lv_iconst (v := (-1)) hx hb dX9_at_12 (by decide) ?_
    refine ct_iret (w := [(mm, .inr (7, v0 :: v1 :: v2 :: v3 :: v4 :: v5 :: v6 :: v7 :: v8 :: v9 :: v10 :: v11 :: v12 :: .ref aa_ :: .ref ab_ :: .int (nI m_answerLength) :: .int (nI m_bodyLength) :: v17 :: v18 :: v19 :: v20 :: v21 :: v22 :: v23 :: v24 :: v25 :: v26 :: v27 :: v28 :: v29 :: v30 :: v31 :: v32 :: v33 :: v34 :: v35 :: v36 :: v37 :: v38 :: [])), (aa_, .inl (gB g, 512, .inl fa)), (ab_, .inl (gB g, 65535, .inl fy))]) hx hb hr rfl hlocks hQ hAe hK (hP.sub [0, 1, 2] rfl) (hD.sub [0, 1, 2] (by decide) rfl) hS (by omega) (by omega) dX9_at_13 ?_
    refine Or.inl (?_)
    exact ⟨rfl, rfl, by first | exact Or.inl c1 | exact Or.inr (Int32.not_lt.mp c9)⟩
  · skip
    refine lv_iload_n hx hb dX9_at_4 rfl (lv_at hl 1 rfl) ?_
    refine lv_aload_n hx hb dX9_at_5 rfl (lv_at hl 0 rfl) ?_
    refine ct_callV (wr := [(aa_, .inl (gB g, 512, .inl fa)), (ab_, .inl (gB g, 65535, .inl fy))]) hx hb hml hown hts hK hP hD hS hA hG hl.1 (c_mLength l g mm ((v0 : Value)) ((v1 : Value)) ((v2 : Value)) ((v3 : Value)) ((v4 : Value)) ((v5 : Value)) ((v6 : Value)) ((v7 : Value)) ((v8 : Value)) ((v9 : Value)) ((v10 : Value)) ((v11 : Value)) ((v12 : Value)) ((.ref aa_ : Value)) ((.ref ab_ : Value)) m_answerLength m_bodyLength ((v17 : Value)) ((v18 : Value)) ((v19 : Value)) ((v20 : Value)) ((v21 : Value)) ((v22 : Value)) ((v23 : Value)) ((v24 : Value)) ((v25 : Value)) ((v26 : Value)) ((v27 : Value)) ((v28 : Value)) ((v29 : Value)) ((v30 : Value)) ((v31 : Value)) ((v32 : Value)) ((v33 : Value)) ((v34 : Value)) ((v35 : Value)) ((v36 : Value)) ((v37 : Value)) ((v38 : Value)) ) (cwV 0 hts gX9_at_X9_length rfl rfl rfl (by decide +kernel) ⟨Nat.le_of_ble_eq_true rfl, Nat.le_of_ble_eq_true rfl⟩) (va_recv hK hP (ci := 7) (q0 := 0) rfl rfl) rfl rfl (Nat.le_of_ble_eq_true rfl) dX9_at_6 ⟨show 0 + 0 ≤ 0 by omega, show 0 + 0 ≤ 0 by omega⟩ [0] [1, 2] rfl rfl (by decide) (by decide) (by decide) (fun r_ w_ H locs hp_ hP hD hS => ?_)
    obtain ⟨rfl, rfl⟩ := hp_
    have hP : va_P (gD g) vwCl [(aa_, .inl (gB g, 512, .inl fa)), (ab_, .inl (gB g, 65535, .inl fy)), (mm, .inr (7, v0 :: v1 :: v2 :: v3 :: v4 :: v5 :: v6 :: v7 :: v8 :: v9 :: v10 :: v11 :: v12 :: .ref aa_ :: .ref ab_ :: .int (nI m_answerLength) :: .int (nI m_bodyLength) :: v17 :: v18 :: v19 :: v20 :: v21 :: v22 :: v23 :: v24 :: v25 :: v26 :: v27 :: v28 :: v29 :: v30 :: v31 :: v32 :: v33 :: v34 :: v35 :: v36 :: v37 :: v38 :: []))] H := hP
    have hD : va_D A [(aa_, .inl (gB g, 512, .inl fa)), (ab_, .inl (gB g, 65535, .inl fy)), (mm, .inr (7, v0 :: v1 :: v2 :: v3 :: v4 :: v5 :: v6 :: v7 :: v8 :: v9 :: v10 :: v11 :: v12 :: .ref aa_ :: .ref ab_ :: .int (nI m_answerLength) :: .int (nI m_bodyLength) :: v17 :: v18 :: v19 :: v20 :: v21 :: v22 :: v23 :: v24 :: v25 :: v26 :: v27 :: v28 :: v29 :: v30 :: v31 :: v32 :: v33 :: v34 :: v35 :: v36 :: v37 :: v38 :: []))] := hD
    refine W.eq (g2 := F0 m 9 ls [.int (nI (m_answerLength + m_bodyLength)), .int x]) rfl ?_
    refine lv_icmp_lt (tgt := 14) hx hb dX9_at_9 (by decide) (fun c9 => ?_) (fun c9 => ?_)
    · skip
      obtain ⟨j, hj, rfl⟩ := nI_of c1
      have hj2 : j < m_answerLength + m_bodyLength := (nI_ltI hj (by omega)).mp c9
      refine lv_iload_n hx hb dX9_at_14 rfl (lv_at hl 1 rfl) ?_
      refine lv_aload_n hx hb dX9_at_15 rfl (lv_at hl 0 rfl) ?_
      refine va_get (D := gD g) (ci := 7) (v := .int (nI m_answerLength)) (C := RX9) (T := TX9) (N := 39) hx hb hts hinX9 hown hK hP 2 rfl rfl 15 (by decide) hf67 (fun _ h9 => h9) rfl dX9_at_16 ?_
      refine lv_icmp_ge (tgt := 31) hx hb dX9_at_19 (by decide) (fun c19 => ?_) (fun c19 => ?_)
      · skip
        have c19 : m_answerLength ≤ j := (nI_leI (a := m_answerLength) (b := j) (by omega) (by omega)).mp c19
        refine lv_aload_n hx hb dX9_at_31 rfl (lv_at hl 0 rfl) ?_
        refine va_get (D := gD g) (ci := 7) (v := .ref ab_) (C := RX9) (T := TX9) (N := 39) hx hb hts hinX9 hown hK hP 2 rfl rfl 14 (by decide) hf37 (fun _ h9 => h9) rfl dX9_at_32 ?_
        refine lv_iload_n hx hb dX9_at_35 rfl (lv_at hl 1 rfl) ?_
        refine lv_aload_n hx hb dX9_at_36 rfl (lv_at hl 0 rfl) ?_
        refine va_get (D := gD g) (ci := 7) (v := .int (nI m_answerLength)) (C := RX9) (T := TX9) (N := 39) hx hb hts hinX9 hown hK hP 2 rfl rfl 15 (by decide) hf67 (fun _ h9 => h9) rfl dX9_at_37 ?_
        refine q_isub (v := nI (j - m_answerLength)) hx hb dX9_at_40 (pk_sub (a := j) (b := m_answerLength) (by omega)) ?_
        refine q_bald hx hb hK hP 1 rfl (j - m_answerLength) rfl (by omega) (by omega) dX9_at_41 ?_
        refine q_top (v := fz j) ((hB _ (by omega)).trans (congrArg fz (show m_answerLength + (j - m_answerLength) = j by omega))) ?_
        refine lv_sipush (v := nI 255) hx hb dX9_at_42 (by decide) ?_
        refine q_iand (v := (fz j) &&& 255) hx hb dX9_at_45 (rfl) ?_
        refine ct_iret (w := [(mm, .inr (7, v0 :: v1 :: v2 :: v3 :: v4 :: v5 :: v6 :: v7 :: v8 :: v9 :: v10 :: v11 :: v12 :: .ref aa_ :: .ref ab_ :: .int (nI m_answerLength) :: .int (nI m_bodyLength) :: v17 :: v18 :: v19 :: v20 :: v21 :: v22 :: v23 :: v24 :: v25 :: v26 :: v27 :: v28 :: v29 :: v30 :: v31 :: v32 :: v33 :: v34 :: v35 :: v36 :: v37 :: v38 :: [])), (aa_, .inl (gB g, 512, .inl fa)), (ab_, .inl (gB g, 65535, .inl fy))]) hx hb hr rfl hlocks hQ hAe hK (hP.sub [2, 0, 1] rfl) (hD.sub [2, 0, 1] (by decide) rfl) hS (by omega) (by omega) dX9_at_46 ?_
        refine Or.inr ((?_))
        exact ⟨j, rfl, rfl, by rfl, by omega⟩
      · skip
        have c19 : ¬ (m_answerLength ≤ j) := fun z => c19 ((nI_leI (a := m_answerLength) (b := j) (by omega) (by omega)).mpr z)
        refine lv_aload_n hx hb dX9_at_22 rfl (lv_at hl 0 rfl) ?_
        refine va_get (D := gD g) (ci := 7) (v := .ref aa_) (C := RX9) (T := TX9) (N := 39) hx hb hts hinX9 hown hK hP 2 rfl rfl 13 (by decide) hf34 (fun _ h9 => h9) rfl dX9_at_23 ?_
        refine lv_iload_n hx hb dX9_at_26 rfl (lv_at hl 1 rfl) ?_
        refine q_bald hx hb hK hP 0 rfl (j) rfl (by omega) (by omega) dX9_at_27 ?_
        refine q_top (v := fz j) (hM _ (by omega)) ?_
        refine lv_goto (tgt := 42) hx hb dX9_at_28 (by decide) ?_
        refine lv_sipush (v := nI 255) hx hb dX9_at_42 (by decide) ?_
        refine q_iand (v := (fz j) &&& 255) hx hb dX9_at_45 (rfl) ?_
        refine ct_iret (w := [(mm, .inr (7, v0 :: v1 :: v2 :: v3 :: v4 :: v5 :: v6 :: v7 :: v8 :: v9 :: v10 :: v11 :: v12 :: .ref aa_ :: .ref ab_ :: .int (nI m_answerLength) :: .int (nI m_bodyLength) :: v17 :: v18 :: v19 :: v20 :: v21 :: v22 :: v23 :: v24 :: v25 :: v26 :: v27 :: v28 :: v29 :: v30 :: v31 :: v32 :: v33 :: v34 :: v35 :: v36 :: v37 :: v38 :: [])), (aa_, .inl (gB g, 512, .inl fa)), (ab_, .inl (gB g, 65535, .inl fy))]) hx hb hr rfl hlocks hQ hAe hK (hP.sub [2, 0, 1] rfl) (hD.sub [2, 0, 1] (by decide) rfl) hS (by omega) (by omega) dX9_at_46 ?_
        refine Or.inr ((?_))
        exact ⟨j, rfl, rfl, by rfl, by omega⟩
    · skip
      refine lv_iconst (v := (-1)) hx hb dX9_at_12 (by decide) ?_
      refine ct_iret (w := [(mm, .inr (7, v0 :: v1 :: v2 :: v3 :: v4 :: v5 :: v6 :: v7 :: v8 :: v9 :: v10 :: v11 :: v12 :: .ref aa_ :: .ref ab_ :: .int (nI m_answerLength) :: .int (nI m_bodyLength) :: v17 :: v18 :: v19 :: v20 :: v21 :: v22 :: v23 :: v24 :: v25 :: v26 :: v27 :: v28 :: v29 :: v30 :: v31 :: v32 :: v33 :: v34 :: v35 :: v36 :: v37 :: v38 :: [])), (aa_, .inl (gB g, 512, .inl fa)), (ab_, .inl (gB g, 65535, .inl fy))]) hx hb hr rfl hlocks hQ hAe hK (hP.sub [2, 0, 1] rfl) (hD.sub [2, 0, 1] (by decide) rfl) hS (by omega) (by omega) dX9_at_13 ?_
      refine Or.inl (?_)
      exact ⟨rfl, rfl, by first | exact Or.inl c1 | exact Or.inr (Int32.not_lt.mp c9)⟩

set_option maxHeartbeats 4000000 in
set_option maxRecDepth 100000 in
theorem c_mDamage (l : Launch) (g : GT) (mm : Nat) (v0 : Value) (v1 : Value) (ai_ : Nat) (m_imageSize : Nat) (v4 : Value) (v5 : Value) (v6 : Value) (v7 : Value) (v8 : Value) (v9 : Value) (v10 : Value) (v11 : Value) (v12 : Value) (v13 : Value) (v14 : Value) (v15 : Value) (v16 : Value) (v17 : Value) (v18 : Value) (v19 : Value) (v20 : Value) (v21 : Value) (v22 : Value) (v23 : Value) (v24 : Value) (v25 : Value) (v26 : Value) (v27 : Value) (v28 : Value) (v29 : Value) (v30 : Value) (v31 : Value) (v32 : Value) (v33 : Value) (v34 : Value) (v35 : Value) (v36 : Value) (v37 : Value) (v38 : Value) (fi : Nat → Int32) (x : Int32) (v : Int32) (hb1 : m_imageSize ≤ 65535) : CT l g yX9_damage wsX9_damage ({ frames := 0, cells := 0, slots := 0, locals := 0 } : Room) [.ref mm, .int x, .int v] [(mm, .inr (7, v0 :: v1 :: .ref ai_ :: .int (nI m_imageSize) :: v4 :: v5 :: v6 :: v7 :: v8 :: v9 :: v10 :: v11 :: v12 :: v13 :: v14 :: v15 :: v16 :: v17 :: v18 :: v19 :: v20 :: v21 :: v22 :: v23 :: v24 :: v25 :: v26 :: v27 :: v28 :: v29 :: v30 :: v31 :: v32 :: v33 :: v34 :: v35 :: v36 :: v37 :: v38 :: [])), (ai_, .inl (gB g, 65535, .inl fi))] (fun r w => (r = some (.int (nI 0)) ∧ w = [(mm, .inr (7, v0 :: v1 :: .ref ai_ :: .int (nI m_imageSize) :: v4 :: v5 :: v6 :: v7 :: v8 :: v9 :: v10 :: v11 :: v12 :: v13 :: v14 :: v15 :: v16 :: v17 :: v18 :: v19 :: v20 :: v21 :: v22 :: v23 :: v24 :: v25 :: v26 :: v27 :: v28 :: v29 :: v30 :: v31 :: v32 :: v33 :: v34 :: v35 :: v36 :: v37 :: v38 :: [])), (ai_, .inl (gB g, 65535, .inl fi))] ∧ (x < 0 ∨ nI m_imageSize ≤ x)) ∨ (∃ (j : Nat) (f1 : Nat → Int32), r = some (.int (nI 1)) ∧ w = [(mm, .inr (7, v0 :: v1 :: .ref ai_ :: .int (nI m_imageSize) :: v4 :: v5 :: v6 :: v7 :: v8 :: v9 :: v10 :: v11 :: v12 :: v13 :: v14 :: v15 :: v16 :: v17 :: v18 :: v19 :: v20 :: v21 :: v22 :: v23 :: v24 :: v25 :: v26 :: v27 :: v28 :: v29 :: v30 :: v31 :: v32 :: v33 :: v34 :: v35 :: v36 :: v37 :: v38 :: [])), (ai_, .inl (gB g, 65535, .inl f1))] ∧ (x = nI j) ∧ (j < m_imageSize) ∧ (f1 = upd fi j v.toInt8.toInt32))) (0) (0) := by
  refine ct_of (cc := cX9_damage) (maxL := 3) (ret := (some .boolean)) (by decide) rfl (Nat.le_of_ble_eq_true rfl) ?_
  intro p e s m args below meth c A Q hx hb hr hml hown hts hlocks hnam hAe hQ hA hG hK hP hD hS ls hl
  have hl : lv_has ls 3 [(0, .ref mm), (1, .int x), (2, .int v)] := hl
  have hown : s.vm.findClass RX9 = some m.cls := hown
  have hinX9 : ∀ w ∈ u_ws RX9 TX9 39, w ∈ wsX9_damage := by decide +kernel
  have hf15 := hts (.fieldLink RX9 15 "RequestReaderModel" "image" "[B") (by decide +kernel)
  have hf54 := hts (.fieldLink RX9 54 "RequestReaderModel" "imageSize" "I") (by decide +kernel)
  refine lv_iload_n hx hb dX9_damage_0 rfl (lv_at hl 1 rfl) ?_
  refine lv_if_lt (tgt := 12) hx hb dX9_damage_1 (by decide) (fun c1 => ?_) (fun c1 => ?_)
  · skip
    refine lv_iconst (v := nI 0) hx hb dX9_damage_12 (by decide) ?_
    refine ct_iret (w := [(mm, .inr (7, v0 :: v1 :: .ref ai_ :: .int (nI m_imageSize) :: v4 :: v5 :: v6 :: v7 :: v8 :: v9 :: v10 :: v11 :: v12 :: v13 :: v14 :: v15 :: v16 :: v17 :: v18 :: v19 :: v20 :: v21 :: v22 :: v23 :: v24 :: v25 :: v26 :: v27 :: v28 :: v29 :: v30 :: v31 :: v32 :: v33 :: v34 :: v35 :: v36 :: v37 :: v38 :: [])), (ai_, .inl (gB g, 65535, .inl fi))]) hx hb hr rfl hlocks hQ hAe hK (hP.sub [0, 1] rfl) (hD.sub [0, 1] (by decide) rfl) hS (by omega) (by omega) dX9_damage_13 ?_
    refine Or.inl (?_)
    exact ⟨rfl, rfl, by first | exact Or.inl c1 | exact Or.inr (Int32.not_lt.mp c9)⟩
  · skip
    refine lv_iload_n hx hb dX9_damage_4 rfl (lv_at hl 1 rfl) ?_
    refine lv_aload_n hx hb dX9_damage_5 rfl (lv_at hl 0 rfl) ?_
    refine va_get (D := gD g) (ci := 7) (v := .int (nI m_imageSize)) (C := RX9) (T := TX9) (N := 39) hx hb hts hinX9 hown hK hP 0 rfl rfl 3 (by decide) hf54 (fun _ h9 => h9) rfl dX9_damage_6 ?_
    refine lv_icmp_lt (tgt := 14) hx hb dX9_damage_9 (by decide) (fun c9 => ?_) (fun c9 => ?_)
    · skip
      obtain ⟨j, hj, rfl⟩ := nI_of c1
      have hj2 : j < m_imageSize := (nI_ltI hj (by omega)).mp c9
      refine lv_aload_n hx hb dX9_damage_14 rfl (lv_at hl 0 rfl) ?_
      refine va_get (D := gD g) (ci := 7) (v := .ref ai_) (C := RX9) (T := TX9) (N := 39) hx hb hts hinX9 hown hK hP 0 rfl rfl 2 (by decide) hf15 (fun _ h9 => h9) rfl dX9_damage_15 ?_
      refine lv_iload_n hx hb dX9_damage_18 rfl (lv_at hl 1 rfl) ?_
      refine lv_iload_n hx hb dX9_damage_19 rfl (lv_at hl 2 rfl) ?_
      refine lv_i2b (v := v.toInt8.toInt32) hx hb dX9_damage_20 (rfl) ?_
      refine q_bast hx hb hK hP hD hS 1 rfl (j) rfl (by omega) (by omega) dX9_damage_21 (fun H locs hP hD hS => ?_)
      have hP : va_P (gD g) vwCl [(mm, .inr (7, v0 :: v1 :: .ref ai_ :: .int (nI m_imageSize) :: v4 :: v5 :: v6 :: v7 :: v8 :: v9 :: v10 :: v11 :: v12 :: v13 :: v14 :: v15 :: v16 :: v17 :: v18 :: v19 :: v20 :: v21 :: v22 :: v23 :: v24 :: v25 :: v26 :: v27 :: v28 :: v29 :: v30 :: v31 :: v32 :: v33 :: v34 :: v35 :: v36 :: v37 :: v38 :: [])), (ai_, .inl (gB g, 65535, .inl (upd fi j v.toInt8.toInt32.toInt8.toInt32)))] H := hP
      have hD : va_D A [(mm, .inr (7, v0 :: v1 :: .ref ai_ :: .int (nI m_imageSize) :: v4 :: v5 :: v6 :: v7 :: v8 :: v9 :: v10 :: v11 :: v12 :: v13 :: v14 :: v15 :: v16 :: v17 :: v18 :: v19 :: v20 :: v21 :: v22 :: v23 :: v24 :: v25 :: v26 :: v27 :: v28 :: v29 :: v30 :: v31 :: v32 :: v33 :: v34 :: v35 :: v36 :: v37 :: v38 :: [])), (ai_, .inl (gB g, 65535, .inl (upd fi j v.toInt8.toInt32.toInt8.toInt32)))] := hD
      refine lv_iconst (v := nI 1) hx hb dX9_damage_22 (by decide) ?_
      refine ct_iret (w := [(mm, .inr (7, v0 :: v1 :: .ref ai_ :: .int (nI m_imageSize) :: v4 :: v5 :: v6 :: v7 :: v8 :: v9 :: v10 :: v11 :: v12 :: v13 :: v14 :: v15 :: v16 :: v17 :: v18 :: v19 :: v20 :: v21 :: v22 :: v23 :: v24 :: v25 :: v26 :: v27 :: v28 :: v29 :: v30 :: v31 :: v32 :: v33 :: v34 :: v35 :: v36 :: v37 :: v38 :: [])), (ai_, .inl (gB g, 65535, .inl (upd fi j v.toInt8.toInt32.toInt8.toInt32)))]) hx hb hr rfl hlocks hQ hAe hK (hP.sub [0, 1] rfl) (hD.sub [0, 1] (by decide) rfl) hS (by omega) (by omega) dX9_damage_23 ?_
      refine Or.inr ((?_))
      exact ⟨j, upd fi j v.toInt8.toInt32.toInt8.toInt32, rfl, rfl, by rfl, by omega, by rw [b8b8]⟩
    · skip
      refine lv_iconst (v := nI 0) hx hb dX9_damage_12 (by decide) ?_
      refine ct_iret (w := [(mm, .inr (7, v0 :: v1 :: .ref ai_ :: .int (nI m_imageSize) :: v4 :: v5 :: v6 :: v7 :: v8 :: v9 :: v10 :: v11 :: v12 :: v13 :: v14 :: v15 :: v16 :: v17 :: v18 :: v19 :: v20 :: v21 :: v22 :: v23 :: v24 :: v25 :: v26 :: v27 :: v28 :: v29 :: v30 :: v31 :: v32 :: v33 :: v34 :: v35 :: v36 :: v37 :: v38 :: [])), (ai_, .inl (gB g, 65535, .inl fi))]) hx hb hr rfl hlocks hQ hAe hK (hP.sub [0, 1] rfl) (hD.sub [0, 1] (by decide) rfl) hS (by omega) (by omega) dX9_damage_13 ?_
      refine Or.inl (?_)
      exact ⟨rfl, rfl, by first | exact Or.inl c1 | exact Or.inr (Int32.not_lt.mp c9)⟩
