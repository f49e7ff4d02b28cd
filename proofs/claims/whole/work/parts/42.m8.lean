theorem ra0 {f : Nat → Int32} (h : sb_Fit f) {i : Nat} : f i = 0 ↔ f i &&& 255 = nI 0 := raw_eq (h i) (n := 0) (by decide)
theorem raw_eq2 {x y : Int32} (hx : fits .byte (.int x) = true) (hy : fits .byte (.int y) = true) : x = y ↔ x &&& 255 = y &&& 255 := by
  constructor
  · intro h; rw [h]
  · intro h; have e := i8_of h; rwa [fit_i8 hx, fit_i8 hy] at e
theorem stor_T {f : Nat → Int32} (h0 : f 0 &&& 255 = nI 83) (h1 : f 1 &&& 255 = nI 84) (h2 : f 2 &&& 255 = nI 79) (h3 : f 3 &&& 255 = nI 82) : pText f 0 4 1 := by
  refine ⟨by decide, fun j hj => ?_⟩
  have hj2 : j < 4 := hj
  rw [Nat.zero_add]
  rcases (show j = 0 ∨ j = 1 ∨ j = 2 ∨ j = 3 by omega) with rfl | rfl | rfl | rfl
  · rw [h0]; decide
  · rw [h1]; decide
  · rw [h2]; decide
  · rw [h3]; decide
theorem stor_F {f : Nat → Int32} (h : pText f 0 4 1) : f 0 &&& 255 = nI 83 ∧ f 1 &&& 255 = nI 84 ∧ f 2 &&& 255 = nI 79 ∧ f 3 &&& 255 = nI 82 :=
  ⟨(h.2 0 (by decide)).trans (by decide), (h.2 1 (by decide)).trans (by decide), (h.2 2 (by decide)).trans (by decide), (h.2 3 (by decide)).trans (by decide)⟩
theorem low_be4 (f : Nat → Int32) (a : Nat) : (lN (u32 (be4 f a))).toInt32 = be4 f a := by rw [lN_low (u32_lt _), nI_u32]
theorem u32_0 {x : Int32} : lN (u32 x) = 0 ↔ x = nI 0 := by
  have h : lN (u32 x) = lN 0 ↔ u32 x = 0 := pk_lEQ (by have := u32_lt x; omega) (by decide)
  constructor
  · intro z
    have e := h.mp z
    rw [← nI_u32 x, e]
  · intro z
    rw [z]; rfl

set_option maxHeartbeats 4000000 in
set_option maxRecDepth 100000 in
theorem c_mFiles (l : Launch) (g : GT) (mm : Nat) (v0 : Value) (v1 : Value) (ai_ : Nat) (m_imageSize : Nat) (v4 : Value) (v5 : Value) (v6 : Value) (v7 : Value) (v8 : Value) (v9 : Value) (v10 : Value) (v11 : Value) (v12 : Value) (v13 : Value) (v14 : Value) (v15 : Value) (v16 : Value) (v17 : Value) (v18 : Value) (v19 : Value) (v20 : Value) (v21 : Value) (v22 : Value) (v23 : Value) (v24 : Value) (v25 : Value) (v26 : Value) (v27 : Value) (v28 : Value) (v29 : Value) (v30 : Value) (v31 : Value) (v32 : Value) (v33 : Value) (v34 : Value) (v35 : Value) (v36 : Value) (v37 : Value) (v38 : Value) (fi : Nat → Int32) (f : Nat → Int32) (hsi : m_imageSize ≤ 65535) (hM : ∀ j, j < m_imageSize → fi j = f j) (hfit : sb_Fit f) : CT l g yX9_files wsX9_files ({ frames := 1, cells := 0, slots := 0, locals := 25 } : Room) [.ref mm] [(mm, .inr (7, v0 :: v1 :: .ref ai_ :: .int (nI m_imageSize) :: v4 :: v5 :: v6 :: v7 :: v8 :: v9 :: v10 :: v11 :: v12 :: v13 :: v14 :: v15 :: v16 :: v17 :: v18 :: v19 :: v20 :: v21 :: v22 :: v23 :: v24 :: v25 :: v26 :: v27 :: v28 :: v29 :: v30 :: v31 :: v32 :: v33 :: v34 :: v35 :: v36 :: v37 :: v38 :: [])), (ai_, .inl (gB g, 65535, .inl fi))] (fun r w => (r = some (.int (-1)) ∧ w = [(mm, .inr (7, v0 :: v1 :: .ref ai_ :: .int (nI m_imageSize) :: v4 :: v5 :: v6 :: v7 :: v8 :: v9 :: v10 :: v11 :: v12 :: v13 :: v14 :: v15 :: v16 :: v17 :: v18 :: v19 :: v20 :: v21 :: v22 :: v23 :: v24 :: v25 :: v26 :: v27 :: v28 :: v29 :: v30 :: v31 :: v32 :: v33 :: v34 :: v35 :: v36 :: v37 :: v38 :: [])), (ai_, .inl (gB g, 65535, .inl fi))] ∧ (¬ (6 ≤ m_imageSize ∧ pRight f m_imageSize (cntF f)))) ∨ (r = some (.int (nI (cntF f))) ∧ w = [(mm, .inr (7, v0 :: v1 :: .ref ai_ :: .int (nI m_imageSize) :: v4 :: v5 :: v6 :: v7 :: v8 :: v9 :: v10 :: v11 :: v12 :: v13 :: v14 :: v15 :: v16 :: v17 :: v18 :: v19 :: v20 :: v21 :: v22 :: v23 :: v24 :: v25 :: v26 :: v27 :: v28 :: v29 :: v30 :: v31 :: v32 :: v33 :: v34 :: v35 :: v36 :: v37 :: v38 :: [])), (ai_, .inl (gB g, 65535, .inl fi))] ∧ (6 ≤ m_imageSize) ∧ (pRight f m_imageSize (cntF f)))) (0) (0) := by
  refine ct_of (cc := cX9_files) (maxL := 8) (ret := (some .int)) (by decide) rfl (Nat.le_of_ble_eq_true rfl) ?_
  intro p e s m args below meth c A Q hx hb hr hml hown hts hlocks hnam hAe hQ hA hG hK hP hD hS ls hl
  have hl : lv_has ls 8 [(0, .ref mm)] := hl
  have hown : s.vm.findClass RX9 = some m.cls := hown
  have hinX9 : ∀ w ∈ u_ws RX9 TX9 39, w ∈ wsX9_files := by decide +kernel
  have hf15 := hts (.fieldLink RX9 15 "RequestReaderModel" "image" "[B") (by decide +kernel)
  have hf54 := hts (.fieldLink RX9 54 "RequestReaderModel" "imageSize" "I") (by decide +kernel)
  have hcl := cnt_lt f
  refine lv_aload_n hx hb dX9_files_0 rfl (lv_at hl 0 rfl) ?_
  refine va_get (D := gD g) (ci := 7) (v := .int (nI m_imageSize)) (C := RX9) (T := TX9) (N := 39) hx hb hts hinX9 hown hK hP 0 rfl rfl 3 (by decide) hf54 (fun _ h9 => h9) rfl dX9_files_1 ?_
  refine lv_bipush (v := nI 12) hx hb dX9_files_4 (by decide) ?_
  refine lv_icmp_lt (tgt := 73) hx hb dX9_files_6 (by decide) (fun c6 => ?_) (fun c6 => ?_)
  · skip
    have c6 : m_imageSize < 12 := (nI_ltI (a := m_imageSize) (b := 12) (by omega) (by omega)).mp c6
    refine lv_iconst (v := (-1)) hx hb dX9_files_73 (by decide) ?_
    refine ct_iret (w := [(mm, .inr (7, v0 :: v1 :: .ref ai_ :: .int (nI m_imageSize) :: v4 :: v5 :: v6 :: v7 :: v8 :: v9 :: v10 :: v11 :: v12 :: v13 :: v14 :: v15 :: v16 :: v17 :: v18 :: v19 :: v20 :: v21 :: v22 :: v23 :: v24 :: v25 :: v26 :: v27 :: v28 :: v29 :: v30 :: v31 :: v32 :: v33 :: v34 :: v35 :: v36 :: v37 :: v38 :: [])), (ai_, .inl (gB g, 65535, .inl fi))]) hx hb hr rfl hlocks hQ hAe hK (hP.sub [0, 1] rfl) (hD.sub [0, 1] (by decide) rfl) hS (by omega) (by omega) dX9_files_74 ?_
    refine Or.inl (?_)
    exact ⟨rfl, rfl, by first | exact fun z => absurd z.2.2.1 (by omega) | exact fun z => c17 (stor_F z.2.2.2.1).1 | exact fun z => c28 (stor_F z.2.2.2.1).2.1 | exact fun z => c39 (stor_F z.2.2.2.1).2.2.1 | exact fun z => c50 (stor_F z.2.2.2.1).2.2.2 | exact fun z => c60 z.2.2.2.2.1 | exact fun z => c70 z.2.2.2.2.2.1 | exact fun z => absurd z.2.1 (by omega) | exact fun z => c144 z.2.2.2.2.2.2.1⟩
  · skip
    have c6 : ¬ (m_imageSize < 12) := fun z => c6 ((nI_ltI (a := m_imageSize) (b := 12) (by omega) (by omega)).mpr z)
    refine lv_aload_n hx hb dX9_files_9 rfl (lv_at hl 0 rfl) ?_
    refine va_get (D := gD g) (ci := 7) (v := .ref ai_) (C := RX9) (T := TX9) (N := 39) hx hb hts hinX9 hown hK hP 0 rfl rfl 2 (by decide) hf15 (fun _ h9 => h9) rfl dX9_files_10 ?_
    refine lv_iconst (v := nI 0) hx hb dX9_files_13 (by decide) ?_
    refine q_bald hx hb hK hP 1 rfl (0) rfl (by omega) (by omega) dX9_files_14 ?_
    refine q_top (v := f 0) (hM _ (by omega)) ?_
    refine lv_bipush (v := nI 83) hx hb dX9_files_15 (by decide) ?_
    refine lv_icmp_ne (tgt := 73) hx hb dX9_files_17 (by decide) (fun c17 => ?_) (fun c17 => ?_)
    · skip
      have c17 : ¬ f 0 &&& 255 = nI 83 := fun z => c17 ((ra hfit (by decide)).mpr z)
      refine lv_iconst (v := (-1)) hx hb dX9_files_73 (by decide) ?_
      refine ct_iret (w := [(mm, .inr (7, v0 :: v1 :: .ref ai_ :: .int (nI m_imageSize) :: v4 :: v5 :: v6 :: v7 :: v8 :: v9 :: v10 :: v11 :: v12 :: v13 :: v14 :: v15 :: v16 :: v17 :: v18 :: v19 :: v20 :: v21 :: v22 :: v23 :: v24 :: v25 :: v26 :: v27 :: v28 :: v29 :: v30 :: v31 :: v32 :: v33 :: v34 :: v35 :: v36 :: v37 :: v38 :: [])), (ai_, .inl (gB g, 65535, .inl fi))]) hx hb hr rfl hlocks hQ hAe hK (hP.sub [0, 1] rfl) (hD.sub [0, 1] (by decide) rfl) hS (by omega) (by omega) dX9_files_74 ?_
      refine Or.inl (?_)
      exact ⟨rfl, rfl, by first | exact fun z => absurd z.2.2.1 (by omega) | exact fun z => c17 (stor_F z.2.2.2.1).1 | exact fun z => c28 (stor_F z.2.2.2.1).2.1 | exact fun z => c39 (stor_F z.2.2.2.1).2.2.1 | exact fun z => c50 (stor_F z.2.2.2.1).2.2.2 | exact fun z => c60 z.2.2.2.2.1 | exact fun z => c70 z.2.2.2.2.2.1 | exact fun z => absurd z.2.1 (by omega) | exact fun z => c144 z.2.2.2.2.2.2.1⟩
    · skip
      have c17 := (ra hfit (by decide)).mp c17
      refine lv_aload_n hx hb dX9_files_20 rfl (lv_at hl 0 rfl) ?_
      refine va_get (D := gD g) (ci := 7) (v := .ref ai_) (C := RX9) (T := TX9) (N := 39) hx hb hts hinX9 hown hK hP 0 rfl rfl 2 (by decide) hf15 (fun _ h9 => h9) rfl dX9_files_21 ?_
      refine lv_iconst (v := nI 1) hx hb dX9_files_24 (by decide) ?_
      refine q_bald hx hb hK hP 1 rfl (1) rfl (by omega) (by omega) dX9_files_25 ?_
      refine q_top (v := f 1) (hM _ (by omega)) ?_
      refine lv_bipush (v := nI 84) hx hb dX9_files_26 (by decide) ?_
      refine lv_icmp_ne (tgt := 73) hx hb dX9_files_28 (by decide) (fun c28 => ?_) (fun c28 => ?_)
      · skip
        have c28 : ¬ f 1 &&& 255 = nI 84 := fun z => c28 ((ra hfit (by decide)).mpr z)
        refine lv_iconst (v := (-1)) hx hb dX9_files_73 (by decide) ?_
        refine ct_iret (w := [(mm, .inr (7, v0 :: v1 :: .ref ai_ :: .int (nI m_imageSize) :: v4 :: v5 :: v6 :: v7 :: v8 :: v9 :: v10 :: v11 :: v12 :: v13 :: v14 :: v15 :: v16 :: v17 :: v18 :: v19 :: v20 :: v21 :: v22 :: v23 :: v24 :: v25 :: v26 :: v27 :: v28 :: v29 :: v30 :: v31 :: v32 :: v33 :: v34 :: v35 :: v36 :: v37 :: v38 :: [])), (ai_, .inl (gB g, 65535, .inl fi))]) hx hb hr rfl hlocks hQ hAe hK (hP.sub [0, 1] rfl) (hD.sub [0, 1] (by decide) rfl) hS (by omega) (by omega) dX9_files_74 ?_
        refine Or.inl (?_)
        exact ⟨rfl, rfl, by first | exact fun z => absurd z.2.2.1 (by omega) | exact fun z => c17 (stor_F z.2.2.2.1).1 | exact fun z => c28 (stor_F z.2.2.2.1).2.1 | exact fun z => c39 (stor_F z.2.2.2.1).2.2.1 | exact fun z => c50 (stor_F z.2.2.2.1).2.2.2 | exact fun z => c60 z.2.2.2.2.1 | exact fun z => c70 z.2.2.2.2.2.1 | exact fun z => absurd z.2.1 (by omega) | exact fun z => c144 z.2.2.2.2.2.2.1⟩
      · skip
        have c28 := (ra hfit (by decide)).mp c28
        refine lv_aload_n hx hb dX9_files_31 rfl (lv_at hl 0 rfl) ?_
        refine va_get (D := gD g) (ci := 7) (v := .ref ai_) (C := RX9) (T := TX9) (N := 39) hx hb hts hinX9 hown hK hP 0 rfl rfl 2 (by decide) hf15 (fun _ h9 => h9) rfl dX9_files_32 ?_
        refine lv_iconst (v := nI 2) hx hb dX9_files_35 (by decide) ?_
        refine q_bald hx hb hK hP 1 rfl (2) rfl (by omega) (by omega) dX9_files_36 ?_
        refine q_top (v := f 2) (hM _ (by omega)) ?_
        refine lv_bipush (v := nI 79) hx hb dX9_files_37 (by decide) ?_
        refine lv_icmp_ne (tgt := 73) hx hb dX9_files_39 (by decide) (fun c39 => ?_) (fun c39 => ?_)
        · skip
          have c39 : ¬ f 2 &&& 255 = nI 79 := fun z => c39 ((ra hfit (by decide)).mpr z)
          refine lv_iconst (v := (-1)) hx hb dX9_files_73 (by decide) ?_
          refine ct_iret (w := [(mm, .inr (7, v0 :: v1 :: .ref ai_ :: .int (nI m_imageSize) :: v4 :: v5 :: v6 :: v7 :: v8 :: v9 :: v10 :: v11 :: v12 :: v13 :: v14 :: v15 :: v16 :: v17 :: v18 :: v19 :: v20 :: v21 :: v22 :: v23 :: v24 :: v25 :: v26 :: v27 :: v28 :: v29 :: v30 :: v31 :: v32 :: v33 :: v34 :: v35 :: v36 :: v37 :: v38 :: [])), (ai_, .inl (gB g, 65535, .inl fi))]) hx hb hr rfl hlocks hQ hAe hK (hP.sub [0, 1] rfl) (hD.sub [0, 1] (by decide) rfl) hS (by omega) (by omega) dX9_files_74 ?_
          refine Or.inl (?_)
          exact ⟨rfl, rfl, by first | exact fun z => absurd z.2.2.1 (by omega) | exact fun z => c17 (stor_F z.2.2.2.1).1 | exact fun z => c28 (stor_F z.2.2.2.1).2.1 | exact fun z => c39 (stor_F z.2.2.2.1).2.2.1 | exact fun z => c50 (stor_F z.2.2.2.1).2.2.2 | exact fun z => c60 z.2.2.2.2.1 | exact fun z => c70 z.2.2.2.2.2.1 | exact fun z => absurd z.2.1 (by omega) | exact fun z => c144 z.2.2.2.2.2.2.1⟩
        · skip
          have c39 := (ra hfit (by decide)).mp c39
          refine lv_aload_n hx hb dX9_files_42 rfl (lv_at hl 0 rfl) ?_
          refine va_get (D := gD g) (ci := 7) (v := .ref ai_) (C := RX9) (T := TX9) (N := 39) hx hb hts hinX9 hown hK hP 0 rfl rfl 2 (by decide) hf15 (fun _ h9 => h9) rfl dX9_files_43 ?_
          refine lv_iconst (v := nI 3) hx hb dX9_files_46 (by decide) ?_
          refine q_bald hx hb hK hP 1 rfl (3) rfl (by omega) (by omega) dX9_files_47 ?_
          refine q_top (v := f 3) (hM _ (by omega)) ?_
          refine lv_bipush (v := nI 82) hx hb dX9_files_48 (by decide) ?_
          refine lv_icmp_ne (tgt := 73) hx hb dX9_files_50 (by decide) (fun c50 => ?_) (fun c50 => ?_)
          · skip
            have c50 : ¬ f 3 &&& 255 = nI 82 := fun z => c50 ((ra hfit (by decide)).mpr z)
            refine lv_iconst (v := (-1)) hx hb dX9_files_73 (by decide) ?_
            refine ct_iret (w := [(mm, .inr (7, v0 :: v1 :: .ref ai_ :: .int (nI m_imageSize) :: v4 :: v5 :: v6 :: v7 :: v8 :: v9 :: v10 :: v11 :: v12 :: v13 :: v14 :: v15 :: v16 :: v17 :: v18 :: v19 :: v20 :: v21 :: v22 :: v23 :: v24 :: v25 :: v26 :: v27 :: v28 :: v29 :: v30 :: v31 :: v32 :: v33 :: v34 :: v35 :: v36 :: v37 :: v38 :: [])), (ai_, .inl (gB g, 65535, .inl fi))]) hx hb hr rfl hlocks hQ hAe hK (hP.sub [0, 1] rfl) (hD.sub [0, 1] (by decide) rfl) hS (by omega) (by omega) dX9_files_74 ?_
            refine Or.inl (?_)
            exact ⟨rfl, rfl, by first | exact fun z => absurd z.2.2.1 (by omega) | exact fun z => c17 (stor_F z.2.2.2.1).1 | exact fun z => c28 (stor_F z.2.2.2.1).2.1 | exact fun z => c39 (stor_F z.2.2.2.1).2.2.1 | exact fun z => c50 (stor_F z.2.2.2.1).2.2.2 | exact fun z => c60 z.2.2.2.2.1 | exact fun z => c70 z.2.2.2.2.2.1 | exact fun z => absurd z.2.1 (by omega) | exact fun z => c144 z.2.2.2.2.2.2.1⟩
          · skip
            have c50 := (ra hfit (by decide)).mp c50
            refine lv_aload_n hx hb dX9_files_53 rfl (lv_at hl 0 rfl) ?_
            refine va_get (D := gD g) (ci := 7) (v := .ref ai_) (C := RX9) (T := TX9) (N := 39) hx hb hts hinX9 hown hK hP 0 rfl rfl 2 (by decide) hf15 (fun _ h9 => h9) rfl dX9_files_54 ?_
            refine lv_bipush (v := nI 6) hx hb dX9_files_57 (by decide) ?_
            refine q_bald hx hb hK hP 1 rfl (6) rfl (by omega) (by omega) dX9_files_59 ?_
            refine q_top (v := f 6) (hM _ (by omega)) ?_
            refine lv_if_ne (tgt := 73) hx hb dX9_files_60 (by decide) (fun c60 => ?_) (fun c60 => ?_)
            · skip
              have c60 : ¬ f 6 &&& 255 = nI 0 := fun z => c60 ((ra0 hfit).mpr z)
              refine lv_iconst (v := (-1)) hx hb dX9_files_73 (by decide) ?_
              refine ct_iret (w := [(mm, .inr (7, v0 :: v1 :: .ref ai_ :: .int (nI m_imageSize) :: v4 :: v5 :: v6 :: v7 :: v8 :: v9 :: v10 :: v11 :: v12 :: v13 :: v14 :: v15 :: v16 :: v17 :: v18 :: v19 :: v20 :: v21 :: v22 :: v23 :: v24 :: v25 :: v26 :: v27 :: v28 :: v29 :: v30 :: v31 :: v32 :: v33 :: v34 :: v35 :: v36 :: v37 :: v38 :: [])), (ai_, .inl (gB g, 65535, .inl fi))]) hx hb hr rfl hlocks hQ hAe hK (hP.sub [0, 1] rfl) (hD.sub [0, 1] (by decide) rfl) hS (by omega) (by omega) dX9_files_74 ?_
              refine Or.inl (?_)
              exact ⟨rfl, rfl, by first | exact fun z => absurd z.2.2.1 (by omega) | exact fun z => c17 (stor_F z.2.2.2.1).1 | exact fun z => c28 (stor_F z.2.2.2.1).2.1 | exact fun z => c39 (stor_F z.2.2.2.1).2.2.1 | exact fun z => c50 (stor_F z.2.2.2.1).2.2.2 | exact fun z => c60 z.2.2.2.2.1 | exact fun z => c70 z.2.2.2.2.2.1 | exact fun z => absurd z.2.1 (by omega) | exact fun z => c144 z.2.2.2.2.2.2.1⟩
            · skip
              have c60 := (ra0 hfit).mp c60
              refine lv_aload_n hx hb dX9_files_63 rfl (lv_at hl 0 rfl) ?_
              refine va_get (D := gD g) (ci := 7) (v := .ref ai_) (C := RX9) (T := TX9) (N := 39) hx hb hts hinX9 hown hK hP 0 rfl rfl 2 (by decide) hf15 (fun _ h9 => h9) rfl dX9_files_64 ?_
              refine lv_bipush (v := nI 7) hx hb dX9_files_67 (by decide) ?_
              refine q_bald hx hb hK hP 1 rfl (7) rfl (by omega) (by omega) dX9_files_69 ?_
              refine q_top (v := f 7) (hM _ (by omega)) ?_
              refine lv_if_eq (tgt := 75) hx hb dX9_files_70 (by decide) (fun c70 => ?_) (fun c70 => ?_)
              · skip
                have c70 := (ra0 hfit).mp c70
                refine lv_aload_n hx hb dX9_files_75 rfl (lv_at hl 0 rfl) ?_
                refine va_get (D := gD g) (ci := 7) (v := .ref ai_) (C := RX9) (T := TX9) (N := 39) hx hb hts hinX9 hown hK hP 0 rfl rfl 2 (by decide) hf15 (fun _ h9 => h9) rfl dX9_files_76 ?_
                refine lv_iconst (v := nI 4) hx hb dX9_files_79 (by decide) ?_
                refine q_bald hx hb hK hP 1 rfl (4) rfl (by omega) (by omega) dX9_files_80 ?_
                refine q_top (v := f 4) (hM _ (by omega)) ?_
                refine lv_sipush (v := nI 255) hx hb dX9_files_81 (by decide) ?_
                refine q_iand (v := (f 4) &&& 255) hx hb dX9_files_84 (rfl) ?_
                refine lv_bipush (v := nI 8) hx hb dX9_files_85 (by decide) ?_
                refine q_ishl (v := ((f 4) &&& 255) <<< (nI 8 &&& 31)) hx hb dX9_files_87 (rfl) ?_
                refine lv_aload_n hx hb dX9_files_88 rfl (lv_at hl 0 rfl) ?_
                refine va_get (D := gD g) (ci := 7) (v := .ref ai_) (C := RX9) (T := TX9) (N := 39) hx hb hts hinX9 hown hK hP 0 rfl rfl 2 (by decide) hf15 (fun _ h9 => h9) rfl dX9_files_89 ?_
                refine lv_iconst (v := nI 5) hx hb dX9_files_92 (by decide) ?_
                refine q_bald hx hb hK hP 1 rfl (5) rfl (by omega) (by omega) dX9_files_93 ?_
                refine q_top (v := f 5) (hM _ (by omega)) ?_
                refine lv_sipush (v := nI 255) hx hb dX9_files_94 (by decide) ?_
                refine q_iand (v := (f 5) &&& 255) hx hb dX9_files_97 (rfl) ?_
                refine q_ior (v := nI (cntF f)) hx hb dX9_files_98 (cnt_eq f) ?_
                refine lv_istore_n (lv' := [(1, .int (nI (cntF f))), (0, .ref mm)]) hx hb dX9_files_99 rfl hl (by decide) rfl (fun ls hl => ?_)
                refine lv_iload_n hx hb dX9_files_100 rfl (lv_at hl 0 rfl) ?_
                refine lv_bipush (v := nI 64) hx hb dX9_files_101 (by decide) ?_
                refine lv_icmp_gt (tgt := 147) hx hb dX9_files_103 (by decide) (fun c103 => ?_) (fun c103 => ?_)
                · skip
                  have c103 : 64 < cntF f := (nI_ltI (a := 64) (b := cntF f) (by omega) (by omega)).mp c103
                  refine lv_iconst (v := (-1)) hx hb dX9_files_147 (by decide) ?_
                  refine ct_iret (w := [(mm, .inr (7, v0 :: v1 :: .ref ai_ :: .int (nI m_imageSize) :: v4 :: v5 :: v6 :: v7 :: v8 :: v9 :: v10 :: v11 :: v12 :: v13 :: v14 :: v15 :: v16 :: v17 :: v18 :: v19 :: v20 :: v21 :: v22 :: v23 :: v24 :: v25 :: v26 :: v27 :: v28 :: v29 :: v30 :: v31 :: v32 :: v33 :: v34 :: v35 :: v36 :: v37 :: v38 :: [])), (ai_, .inl (gB g, 65535, .inl fi))]) hx hb hr rfl hlocks hQ hAe hK (hP.sub [0, 1] rfl) (hD.sub [0, 1] (by decide) rfl) hS (by omega) (by omega) dX9_files_148 ?_
                  refine Or.inl (?_)
                  exact ⟨rfl, rfl, by first | exact fun z => absurd z.2.2.1 (by omega) | exact fun z => c17 (stor_F z.2.2.2.1).1 | exact fun z => c28 (stor_F z.2.2.2.1).2.1 | exact fun z => c39 (stor_F z.2.2.2.1).2.2.1 | exact fun z => c50 (stor_F z.2.2.2.1).2.2.2 | exact fun z => c60 z.2.2.2.2.1 | exact fun z => c70 z.2.2.2.2.2.1 | exact fun z => absurd z.2.1 (by omega) | exact fun z => c144 z.2.2.2.2.2.2.1⟩
                · skip
                  have c103 : ¬ (64 < cntF f) := fun z => c103 ((nI_ltI (a := 64) (b := cntF f) (by omega) (by omega)).mpr z)
                  refine lv_aload_n hx hb dX9_files_106 rfl (lv_at hl 1 rfl) ?_
                  refine va_get (D := gD g) (ci := 7) (v := .int (nI m_imageSize)) (C := RX9) (T := TX9) (N := 39) hx hb hts hinX9 hown hK hP 0 rfl rfl 3 (by decide) hf54 (fun _ h9 => h9) rfl dX9_files_107 ?_
                  refine lv_bipush (v := nI 12) hx hb dX9_files_110 (by decide) ?_
                  refine lv_bipush (v := nI 64) hx hb dX9_files_112 (by decide) ?_
                  refine lv_iload_n hx hb dX9_files_114 rfl (lv_at hl 0 rfl) ?_
                  refine q_imul (v := nI ((cntF f) * 64)) hx hb dX9_files_115 (by rw [pk_mul, Nat.mul_comm]) ?_
                  refine q_iadd (v := nI (12 + ((cntF f) * 64))) hx hb dX9_files_116 (nI_add 12 ((cntF f) * 64)) ?_
                  refine lv_icmp_lt (tgt := 147) hx hb dX9_files_117 (by decide) (fun c117 => ?_) (fun c117 => ?_)
                  · skip
                    have c117 : m_imageSize < 12 + ((cntF f) * 64) := (nI_ltI (a := m_imageSize) (b := 12 + ((cntF f) * 64)) (by omega) (by omega)).mp c117
                    refine lv_iconst (v := (-1)) hx hb dX9_files_147 (by decide) ?_
                    refine ct_iret (w := [(mm, .inr (7, v0 :: v1 :: .ref ai_ :: .int (nI m_imageSize) :: v4 :: v5 :: v6 :: v7 :: v8 :: v9 :: v10 :: v11 :: v12 :: v13 :: v14 :: v15 :: v16 :: v17 :: v18 :: v19 :: v20 :: v21 :: v22 :: v23 :: v24 :: v25 :: v26 :: v27 :: v28 :: v29 :: v30 :: v31 :: v32 :: v33 :: v34 :: v35 :: v36 :: v37 :: v38 :: [])), (ai_, .inl (gB g, 65535, .inl fi))]) hx hb hr rfl hlocks hQ hAe hK (hP.sub [0, 1] rfl) (hD.sub [0, 1] (by decide) rfl) hS (by omega) (by omega) dX9_files_148 ?_
                    refine Or.inl (?_)
                    exact ⟨rfl, rfl, by first | exact fun z => absurd z.2.2.1 (by omega) | exact fun z => c17 (stor_F z.2.2.2.1).1 | exact fun z => c28 (stor_F z.2.2.2.1).2.1 | exact fun z => c39 (stor_F z.2.2.2.1).2.2.1 | exact fun z => c50 (stor_F z.2.2.2.1).2.2.2 | exact fun z => c60 z.2.2.2.2.1 | exact fun z => c70 z.2.2.2.2.2.1 | exact fun z => absurd z.2.1 (by omega) | exact fun z => c144 z.2.2.2.2.2.2.1⟩
                  · skip
                    have c117 : ¬ (m_imageSize < 12 + ((cntF f) * 64)) := fun z => c117 ((nI_ltI (a := m_imageSize) (b := 12 + ((cntF f) * 64)) (by omega) (by omega)).mpr z)
                    refine lv_aload_n hx hb dX9_files_120 rfl (lv_at hl 1 rfl) ?_
                    refine lv_iconst (v := nI 0) hx hb dX9_files_121 (by decide) ?_
                    refine lv_bipush (v := nI 8) hx hb dX9_files_122 (by decide) ?_
                    refine lv_bipush (v := nI 64) hx hb dX9_files_124 (by decide) ?_
                    refine lv_iload_n hx hb dX9_files_126 rfl (lv_at hl 0 rfl) ?_
                    refine q_imul (v := nI ((cntF f) * 64)) hx hb dX9_files_127 (by rw [pk_mul, Nat.mul_comm]) ?_
                    refine q_iadd (v := nI (8 + ((cntF f) * 64))) hx hb dX9_files_128 (nI_add 8 ((cntF f) * 64)) ?_
                    refine ct_callV (wr := []) hx hb hml hown hts hK hP hD hS hA hG hl.1 (c_mCheck l g mm ((v0 : Value)) ((v1 : Value)) ai_ ((.int (nI m_imageSize) : Value)) ((v4 : Value)) ((v5 : Value)) ((v6 : Value)) ((v7 : Value)) ((v8 : Value)) ((v9 : Value)) ((v10 : Value)) ((v11 : Value)) ((v12 : Value)) ((v13 : Value)) ((v14 : Value)) ((v15 : Value)) ((v16 : Value)) ((v17 : Value)) ((v18 : Value)) ((v19 : Value)) ((v20 : Value)) ((v21 : Value)) ((v22 : Value)) ((v23 : Value)) ((v24 : Value)) ((v25 : Value)) ((v26 : Value)) ((v27 : Value)) ((v28 : Value)) ((v29 : Value)) ((v30 : Value)) ((v31 : Value)) ((v32 : Value)) ((v33 : Value)) ((v34 : Value)) ((v35 : Value)) ((v36 : Value)) ((v37 : Value)) ((v38 : Value)) fi f m_imageSize 0 (8 + ((cntF f) * 64)) (by omega) (by assumption) (by omega) (by omega)) (cwV 2 hts gX9_files_X9_check rfl rfl rfl (by decide +kernel) ⟨Nat.le_of_ble_eq_true rfl, Nat.le_of_ble_eq_true rfl⟩) (va_recv hK hP (ci := 7) (q0 := 0) rfl rfl) rfl rfl (Nat.le_of_ble_eq_true rfl) dX9_files_129 ⟨show 0 + 0 ≤ 0 by omega, show 0 + 0 ≤ 0 by omega⟩ [0, 1] [] rfl rfl (by decide) (by decide) (by decide) (fun r_ w_ H locs hp_ hP hD hS => ?_)
                    obtain ⟨rfl, rfl⟩ := hp_
                    have hP : va_P (gD g) vwCl [(mm, .inr (7, v0 :: v1 :: .ref ai_ :: .int (nI m_imageSize) :: v4 :: v5 :: v6 :: v7 :: v8 :: v9 :: v10 :: v11 :: v12 :: v13 :: v14 :: v15 :: v16 :: v17 :: v18 :: v19 :: v20 :: v21 :: v22 :: v23 :: v24 :: v25 :: v26 :: v27 :: v28 :: v29 :: v30 :: v31 :: v32 :: v33 :: v34 :: v35 :: v36 :: v37 :: v38 :: [])), (ai_, .inl (gB g, 65535, .inl fi))] H := hP
                    have hD : va_D A [(mm, .inr (7, v0 :: v1 :: .ref ai_ :: .int (nI m_imageSize) :: v4 :: v5 :: v6 :: v7 :: v8 :: v9 :: v10 :: v11 :: v12 :: v13 :: v14 :: v15 :: v16 :: v17 :: v18 :: v19 :: v20 :: v21 :: v22 :: v23 :: v24 :: v25 :: v26 :: v27 :: v28 :: v29 :: v30 :: v31 :: v32 :: v33 :: v34 :: v35 :: v36 :: v37 :: v38 :: [])), (ai_, .inl (gB g, 65535, .inl fi))] := hD
                    refine W.eq (g2 := F0 m 132 ls [.int (crcR f 0 ((8 + ((cntF f) * 64)) - 0) ^^^ -1)]) rfl ?_
                    refine lv_aload_n hx hb dX9_files_132 rfl (lv_at hl 1 rfl) ?_
                    refine lv_bipush (v := nI 8) hx hb dX9_files_133 (by decide) ?_
                    refine lv_bipush (v := nI 64) hx hb dX9_files_135 (by decide) ?_
                    refine lv_iload_n hx hb dX9_files_137 rfl (lv_at hl 0 rfl) ?_
                    refine q_imul (v := nI ((cntF f) * 64)) hx hb dX9_files_138 (by rw [pk_mul, Nat.mul_comm]) ?_
                    refine q_iadd (v := nI (8 + ((cntF f) * 64))) hx hb dX9_files_139 (nI_add 8 ((cntF f) * 64)) ?_
                    refine ct_callV (wr := []) hx hb hml hown hts hK hP hD hS hA hG hl.1 (c_mWordAt l g mm ((v0 : Value)) ((v1 : Value)) ai_ ((.int (nI m_imageSize) : Value)) ((v4 : Value)) ((v5 : Value)) ((v6 : Value)) ((v7 : Value)) ((v8 : Value)) ((v9 : Value)) ((v10 : Value)) ((v11 : Value)) ((v12 : Value)) ((v13 : Value)) ((v14 : Value)) ((v15 : Value)) ((v16 : Value)) ((v17 : Value)) ((v18 : Value)) ((v19 : Value)) ((v20 : Value)) ((v21 : Value)) ((v22 : Value)) ((v23 : Value)) ((v24 : Value)) ((v25 : Value)) ((v26 : Value)) ((v27 : Value)) ((v28 : Value)) ((v29 : Value)) ((v30 : Value)) ((v31 : Value)) ((v32 : Value)) ((v33 : Value)) ((v34 : Value)) ((v35 : Value)) ((v36 : Value)) ((v37 : Value)) ((v38 : Value)) fi f m_imageSize (8 + ((cntF f) * 64)) (by omega) (by assumption) (by omega)) (cwV 1 hts gX9_files_X9_imageWord rfl rfl rfl (by decide +kernel) ⟨Nat.le_of_ble_eq_true rfl, Nat.le_of_ble_eq_true rfl⟩) (va_recv hK hP (ci := 7) (q0 := 0) rfl rfl) rfl rfl (Nat.le_of_ble_eq_true rfl) dX9_files_140 ⟨show 0 + 0 ≤ 0 by omega, show 0 + 0 ≤ 0 by omega⟩ [0, 1] [] rfl rfl (by decide) (by decide) (by decide) (fun r_ w_ H locs hp_ hP hD hS => ?_)
                    obtain ⟨rfl, rfl⟩ := hp_
                    have hP : va_P (gD g) vwCl [(mm, .inr (7, v0 :: v1 :: .ref ai_ :: .int (nI m_imageSize) :: v4 :: v5 :: v6 :: v7 :: v8 :: v9 :: v10 :: v11 :: v12 :: v13 :: v14 :: v15 :: v16 :: v17 :: v18 :: v19 :: v20 :: v21 :: v22 :: v23 :: v24 :: v25 :: v26 :: v27 :: v28 :: v29 :: v30 :: v31 :: v32 :: v33 :: v34 :: v35 :: v36 :: v37 :: v38 :: [])), (ai_, .inl (gB g, 65535, .inl fi))] H := hP
                    have hD : va_D A [(mm, .inr (7, v0 :: v1 :: .ref ai_ :: .int (nI m_imageSize) :: v4 :: v5 :: v6 :: v7 :: v8 :: v9 :: v10 :: v11 :: v12 :: v13 :: v14 :: v15 :: v16 :: v17 :: v18 :: v19 :: v20 :: v21 :: v22 :: v23 :: v24 :: v25 :: v26 :: v27 :: v28 :: v29 :: v30 :: v31 :: v32 :: v33 :: v34 :: v35 :: v36 :: v37 :: v38 :: [])), (ai_, .inl (gB g, 65535, .inl fi))] := hD
                    refine W.eq (g2 := F0 m 143 ls [.long (lN (u32 (be4 f (8 + ((cntF f) * 64))))), .int (crcR f 0 ((8 + ((cntF f) * 64)) - 0) ^^^ -1)]) rfl ?_
                    refine lv_l2i (v := be4 f (8 + cntF f * 64)) hx hb dX9_files_143 (low_be4 _ _) ?_
                    refine lv_icmp_eq (tgt := 149) hx hb dX9_files_144 (by decide) (fun c144 => ?_) (fun c144 => ?_)
                    · skip
                      refine lv_iconst (v := nI 0) hx hb dX9_files_149 (by decide) ?_
                      refine lv_istore_n (lv' := [(2, .int (nI 0)), (1, .int (nI (cntF f))), (0, .ref mm)]) hx hb dX9_files_150 rfl hl (by decide) rfl (fun ls hl => ?_)
                      have K151 : ∀ (N_ : Nat) (k0 : Nat), (k0 ≤ cntF f) → (∀ j, j < k0 → pEntry f m_imageSize (8 + j * 64) ∧ pNew f j) → (cntF f - k0) < N_ → ∀ (H : Heap) (locs : List Loc) (ls : Array Slot), va_P (gD g) vwCl [(mm, .inr (7, v0 :: v1 :: .ref ai_ :: .int (nI m_imageSize) :: v4 :: v5 :: v6 :: v7 :: v8 :: v9 :: v10 :: v11 :: v12 :: v13 :: v14 :: v15 :: v16 :: v17 :: v18 :: v19 :: v20 :: v21 :: v22 :: v23 :: v24 :: v25 :: v26 :: v27 :: v28 :: v29 :: v30 :: v31 :: v32 :: v33 :: v34 :: v35 :: v36 :: v37 :: v38 :: [])), (ai_, .inl (gB g, 65535, .inl fi))] H → va_D A [(mm, .inr (7, v0 :: v1 :: .ref ai_ :: .int (nI m_imageSize) :: v4 :: v5 :: v6 :: v7 :: v8 :: v9 :: v10 :: v11 :: v12 :: v13 :: v14 :: v15 :: v16 :: v17 :: v18 :: v19 :: v20 :: v21 :: v22 :: v23 :: v24 :: v25 :: v26 :: v27 :: v28 :: v29 :: v30 :: v31 :: v32 :: v33 :: v34 :: v35 :: v36 :: v37 :: v38 :: [])), (ai_, .inl (gB g, 65535, .inl fi))] → va_S A s.heap H locs → lv_has ls 8 [(0, .ref mm), (1, .int (nI (cntF f))), (2, .int (nI k0))] → W p l e ({ frames := 1, cells := 0, slots := 0, locals := 25 } : Room) s m args below meth c H locs (0) (0) Q (F0 m 151 ls []) := by
                        intro N_
                        induction N_ with
                        | zero => intro k0 hk0 hall hm_; exact absurd hm_ (Nat.not_lt_zero _)
                        | succ N_ ih_K151 =>
                          intro k0 hk0 hall hm_ H locs ls hP hD hS hl
                          refine lv_iload_n hx hb dX9_files_151 rfl (lv_at hl 2 rfl) ?_
                          refine lv_iload_n hx hb dX9_files_152 rfl (lv_at hl 1 rfl) ?_
                          refine lv_icmp_ge (tgt := 403) hx hb dX9_files_153 (by decide) (fun c153 => ?_) (fun c153 => ?_)
                          · skip
                            have c153 : cntF f ≤ k0 := (nI_leI (a := cntF f) (b := k0) (by omega) (by omega)).mp c153
                            refine lv_iload_n hx hb dX9_files_403 rfl (lv_at hl 1 rfl) ?_
                            refine ct_iret (w := [(mm, .inr (7, v0 :: v1 :: .ref ai_ :: .int (nI m_imageSize) :: v4 :: v5 :: v6 :: v7 :: v8 :: v9 :: v10 :: v11 :: v12 :: v13 :: v14 :: v15 :: v16 :: v17 :: v18 :: v19 :: v20 :: v21 :: v22 :: v23 :: v24 :: v25 :: v26 :: v27 :: v28 :: v29 :: v30 :: v31 :: v32 :: v33 :: v34 :: v35 :: v36 :: v37 :: v38 :: [])), (ai_, .inl (gB g, 65535, .inl fi))]) hx hb hr rfl hlocks hQ hAe hK (hP.sub [0, 1] rfl) (hD.sub [0, 1] (by decide) rfl) hS (by omega) (by omega) dX9_files_404 ?_
                            refine Or.inr ((?_))
                            exact ⟨rfl, rfl, by omega, by exact ⟨by omega, by omega, stor_T c17 c28 c39 c50, c60, c70, c144, fun j hj => hall j (by omega)⟩⟩
                          · skip
                            have c153 : ¬ (cntF f ≤ k0) := fun z => c153 ((nI_leI (a := cntF f) (b := k0) (by omega) (by omega)).mpr z)
                            refine lv_bipush (v := nI 8) hx hb dX9_files_156 (by decide) ?_
                            refine lv_bipush (v := nI 64) hx hb dX9_files_158 (by decide) ?_
                            refine lv_iload_n hx hb dX9_files_160 rfl (lv_at hl 2 rfl) ?_
                            refine q_imul (v := nI (k0 * 64)) hx hb dX9_files_161 (by rw [pk_mul, Nat.mul_comm]) ?_
                            refine q_iadd (v := nI (8 + (k0 * 64))) hx hb dX9_files_162 (nI_add 8 (k0 * 64)) ?_
                            refine lv_istore_n (lv' := [(3, .int (nI (8 + (k0 * 64)))), (0, .ref mm), (1, .int (nI (cntF f))), (2, .int (nI k0))]) hx hb dX9_files_163 rfl hl (by decide) rfl (fun ls hl => ?_)
                            refine lv_iconst (v := nI 0) hx hb dX9_files_164 (by decide) ?_
                            refine lv_istore (lv' := [(4, .int (nI 0)), (3, .int (nI (8 + (k0 * 64)))), (0, .ref mm), (1, .int (nI (cntF f))), (2, .int (nI k0))]) hx hb dX9_files_165 hl (by decide) rfl (fun ls hl => ?_)
                            have K167 : ∀ (N_ : Nat) (ln : Nat), (ln ≤ 48) → (∀ j, 8 + k0 * 64 ≤ j → j < 8 + k0 * 64 + ln → ¬ f j &&& 255 = nI 0) → (48 - ln) < N_ → ∀ (H : Heap) (locs : List Loc) (ls : Array Slot), va_P (gD g) vwCl [(mm, .inr (7, v0 :: v1 :: .ref ai_ :: .int (nI m_imageSize) :: v4 :: v5 :: v6 :: v7 :: v8 :: v9 :: v10 :: v11 :: v12 :: v13 :: v14 :: v15 :: v16 :: v17 :: v18 :: v19 :: v20 :: v21 :: v22 :: v23 :: v24 :: v25 :: v26 :: v27 :: v28 :: v29 :: v30 :: v31 :: v32 :: v33 :: v34 :: v35 :: v36 :: v37 :: v38 :: [])), (ai_, .inl (gB g, 65535, .inl fi))] H → va_D A [(mm, .inr (7, v0 :: v1 :: .ref ai_ :: .int (nI m_imageSize) :: v4 :: v5 :: v6 :: v7 :: v8 :: v9 :: v10 :: v11 :: v12 :: v13 :: v14 :: v15 :: v16 :: v17 :: v18 :: v19 :: v20 :: v21 :: v22 :: v23 :: v24 :: v25 :: v26 :: v27 :: v28 :: v29 :: v30 :: v31 :: v32 :: v33 :: v34 :: v35 :: v36 :: v37 :: v38 :: [])), (ai_, .inl (gB g, 65535, .inl fi))] → va_S A s.heap H locs → lv_has ls 8 [(0, .ref mm), (1, .int (nI (cntF f))), (2, .int (nI k0)), (3, .int (nI (8 + (k0 * 64)))), (4, .int (nI ln))] → W p l e ({ frames := 1, cells := 0, slots := 0, locals := 25 } : Room) s m args below meth c H locs (0) (0) Q (F0 m 167 ls []) := by
                              intro N_
                              induction N_ with
                              | zero => intro ln hln1 hln hm_; exact absurd hm_ (Nat.not_lt_zero _)
                              | succ N_ ih_K167 =>
                                intro ln hln1 hln hm_ H locs ls hP hD hS hl
                                refine lv_iload hx hb dX9_files_167 (lv_at hl 4 rfl) ?_
                                refine lv_bipush (v := nI 48) hx hb dX9_files_169 (by decide) ?_
                                refine lv_icmp_ge (tgt := 192) hx hb dX9_files_171 (by decide) (fun c171 => ?_) (fun c171 => ?_)
                                · skip
                                  have c171 : 48 ≤ ln := (nI_leI (a := 48) (b := ln) (by omega) (by omega)).mp c171
                                  refine lv_iload hx hb dX9_files_192 (lv_at hl 4 rfl) ?_
                                  refine lv_if_eq (tgt := 215) hx hb dX9_files_194 (by decide) (fun c194 => ?_) (fun c194 => ?_)
                                  · skip
                                    have c194 : ln = 0 := (nI_eq (a := ln) (b := 0) (by omega) (by omega)).mp c194
                                    have hna : ¬ pNameR f (8 + k0 * 64) := fun z => z.elim (fun e_ w => by have h_ := w.2.1; first | (have hz_ : f (8 + k0 * 64) &&& 255 = nI 0 := (by have c_ := c183; rw [show ln = 0 by omega] at c_; exact c_); rw [hz_] at h_; exact absurd h_ (by decide)) | (exfalso; omega))
                                    refine lv_iconst (v := (-1)) hx hb dX9_files_215 (by decide) ?_
                                    refine ct_iret (w := [(mm, .inr (7, v0 :: v1 :: .ref ai_ :: .int (nI m_imageSize) :: v4 :: v5 :: v6 :: v7 :: v8 :: v9 :: v10 :: v11 :: v12 :: v13 :: v14 :: v15 :: v16 :: v17 :: v18 :: v19 :: v20 :: v21 :: v22 :: v23 :: v24 :: v25 :: v26 :: v27 :: v28 :: v29 :: v30 :: v31 :: v32 :: v33 :: v34 :: v35 :: v36 :: v37 :: v38 :: [])), (ai_, .inl (gB g, 65535, .inl fi))]) hx hb hr rfl hlocks hQ hAe hK (hP.sub [0, 1] rfl) (hD.sub [0, 1] (by decide) rfl) hS (by omega) (by omega) dX9_files_216 ?_
                                    refine Or.inl (?_)
                                    exact ⟨rfl, rfl, by first | exact fun z => hna (z.2.2.2.2.2.2.2 k0 (by omega)).1.1 | exact fun z => absurd (z.2.2.2.2.2.2.2 k0 (by omega)).1.2.1 (by omega) | exact fun z => c311 (z.2.2.2.2.2.2.2 k0 (by omega)).1.2.2 | exact fun z => (z.2.2.2.2.2.2.2 k0 (by omega)).2 j5 (by omega) hsame⟩
                                  · skip
                                    have c194 : ¬ (ln = 0) := fun z => c194 ((nI_eq (a := ln) (b := 0) (by omega) (by omega)).mpr z)
                                    refine lv_iload hx hb dX9_files_197 (lv_at hl 4 rfl) ?_
                                    refine lv_bipush (v := nI 48) hx hb dX9_files_199 (by decide) ?_
                                    refine lv_icmp_eq (tgt := 215) hx hb dX9_files_201 (by decide) (fun c201 => ?_) (fun c201 => ?_)
                                    · skip
                                      have c201 : ln = 48 := (nI_eq (a := ln) (b := 48) (by omega) (by omega)).mp c201
                                      have hna : ¬ pNameR f (8 + k0 * 64) := nameR_F2 (r := 8 + k0 * 64 + 48) ⟨fun j h1 h2 => hln j h1 (by omega), Or.inl rfl⟩ (by omega)
                                      refine lv_iconst (v := (-1)) hx hb dX9_files_215 (by decide) ?_
                                      refine ct_iret (w := [(mm, .inr (7, v0 :: v1 :: .ref ai_ :: .int (nI m_imageSize) :: v4 :: v5 :: v6 :: v7 :: v8 :: v9 :: v10 :: v11 :: v12 :: v13 :: v14 :: v15 :: v16 :: v17 :: v18 :: v19 :: v20 :: v21 :: v22 :: v23 :: v24 :: v25 :: v26 :: v27 :: v28 :: v29 :: v30 :: v31 :: v32 :: v33 :: v34 :: v35 :: v36 :: v37 :: v38 :: [])), (ai_, .inl (gB g, 65535, .inl fi))]) hx hb hr rfl hlocks hQ hAe hK (hP.sub [0, 1] rfl) (hD.sub [0, 1] (by decide) rfl) hS (by omega) (by omega) dX9_files_216 ?_
                                      refine Or.inl (?_)
                                      exact ⟨rfl, rfl, by first | exact fun z => hna (z.2.2.2.2.2.2.2 k0 (by omega)).1.1 | exact fun z => absurd (z.2.2.2.2.2.2.2 k0 (by omega)).1.2.1 (by omega) | exact fun z => c311 (z.2.2.2.2.2.2.2 k0 (by omega)).1.2.2 | exact fun z => (z.2.2.2.2.2.2.2 k0 (by omega)).2 j5 (by omega) hsame⟩
                                    · skip
                                      have c201 : ¬ (ln = 48) := fun z => c201 ((nI_eq (a := ln) (b := 48) (by omega) (by omega)).mpr z)
                                      have hfd : pFind f (nI 0) (8 + k0 * 64) (8 + k0 * 64 + 48) (8 + k0 * 64 + ln) := ⟨hln, Or.inr ⟨by omega, by omega, by first | exact c183 | (exfalso; omega)⟩⟩
                                      refine lv_aload_n hx hb dX9_files_204 rfl (lv_at hl 0 rfl) ?_
                                      refine va_get (D := gD g) (ci := 7) (v := .ref ai_) (C := RX9) (T := TX9) (N := 39) hx hb hts hinX9 hown hK hP 0 rfl rfl 2 (by decide) hf15 (fun _ h9 => h9) rfl dX9_files_205 ?_
                                      refine lv_iload_n hx hb dX9_files_208 rfl (lv_at hl 3 rfl) ?_
                                      refine q_bald hx hb hK hP 1 rfl (8 + (k0 * 64)) rfl (by omega) (by omega) dX9_files_209 ?_
                                      refine q_top (v := f (8 + (k0 * 64))) (hM _ (by omega)) ?_
                                      refine lv_bipush (v := nI 47) hx hb dX9_files_210 (by decide) ?_
                                      refine lv_icmp_eq (tgt := 217) hx hb dX9_files_212 (by decide) (fun c212 => ?_) (fun c212 => ?_)
                                      · skip
                                        have c212 := (ra hfit (by decide)).mp c212
                                        refine lv_iconst (v := nI 0) hx hb dX9_files_217 (by decide) ?_
                                        refine lv_istore (lv' := [(5, .int (nI 0)), (0, .ref mm), (1, .int (nI (cntF f))), (2, .int (nI k0)), (3, .int (nI (8 + (k0 * 64)))), (4, .int (nI ln))]) hx hb dX9_files_218 hl (by decide) rfl (fun ls hl => ?_)
                                        have K220 : ∀ (N_ : Nat) (i5 : Nat), (i5 ≤ 48) → (∀ j, 8 + k0 * 64 ≤ j → j < 8 + k0 * 64 + i5 → (j < 8 + k0 * 64 + ln → pVis (f j &&& 255)) ∧ (¬ j < 8 + k0 * 64 + ln → f j &&& 255 = nI 0)) → (48 - i5) < N_ → ∀ (H : Heap) (locs : List Loc) (ls : Array Slot), va_P (gD g) vwCl [(mm, .inr (7, v0 :: v1 :: .ref ai_ :: .int (nI m_imageSize) :: v4 :: v5 :: v6 :: v7 :: v8 :: v9 :: v10 :: v11 :: v12 :: v13 :: v14 :: v15 :: v16 :: v17 :: v18 :: v19 :: v20 :: v21 :: v22 :: v23 :: v24 :: v25 :: v26 :: v27 :: v28 :: v29 :: v30 :: v31 :: v32 :: v33 :: v34 :: v35 :: v36 :: v37 :: v38 :: [])), (ai_, .inl (gB g, 65535, .inl fi))] H → va_D A [(mm, .inr (7, v0 :: v1 :: .ref ai_ :: .int (nI m_imageSize) :: v4 :: v5 :: v6 :: v7 :: v8 :: v9 :: v10 :: v11 :: v12 :: v13 :: v14 :: v15 :: v16 :: v17 :: v18 :: v19 :: v20 :: v21 :: v22 :: v23 :: v24 :: v25 :: v26 :: v27 :: v28 :: v29 :: v30 :: v31 :: v32 :: v33 :: v34 :: v35 :: v36 :: v37 :: v38 :: [])), (ai_, .inl (gB g, 65535, .inl fi))] → va_S A s.heap H locs → lv_has ls 8 [(0, .ref mm), (1, .int (nI (cntF f))), (2, .int (nI k0)), (3, .int (nI (8 + (k0 * 64)))), (4, .int (nI ln)), (5, .int (nI i5))] → W p l e ({ frames := 1, cells := 0, slots := 0, locals := 25 } : Room) s m args below meth c H locs (0) (0) Q (F0 m 220 ls []) := by
                                          intro N_
                                          induction N_ with
                                          | zero => intro i5 hi5 hna2 hm_; exact absurd hm_ (Nat.not_lt_zero _)
                                          | succ N_ ih_K220 =>
                                            intro i5 hi5 hna2 hm_ H locs ls hP hD hS hl
                                            refine lv_iload hx hb dX9_files_220 (lv_at hl 5 rfl) ?_
                                            refine lv_bipush (v := nI 48) hx hb dX9_files_222 (by decide) ?_
                                            refine lv_icmp_ge (tgt := 275) hx hb dX9_files_224 (by decide) (fun c224 => ?_) (fun c224 => ?_)
                                            · skip
                                              have c224 : 48 ≤ i5 := (nI_leI (a := 48) (b := i5) (by omega) (by omega)).mp c224
                                              have hnR : pNameR f (8 + k0 * 64) := nameR_T hfd c212 (by omega) (by omega) hna2
                                              refine lv_aload_n hx hb dX9_files_275 rfl (lv_at hl 0 rfl) ?_
                                              refine lv_iload_n hx hb dX9_files_276 rfl (lv_at hl 3 rfl) ?_
                                              refine lv_bipush (v := nI 48) hx hb dX9_files_277 (by decide) ?_
                                              refine q_iadd (v := nI (8 + (k0 * 64) + 48)) hx hb dX9_files_279 (nI_add (8 + (k0 * 64)) 48) ?_
                                              refine ct_callV (wr := []) hx hb hml hown hts hK hP hD hS hA hG hl.1 (c_mWordAt l g mm ((v0 : Value)) ((v1 : Value)) ai_ ((.int (nI m_imageSize) : Value)) ((v4 : Value)) ((v5 : Value)) ((v6 : Value)) ((v7 : Value)) ((v8 : Value)) ((v9 : Value)) ((v10 : Value)) ((v11 : Value)) ((v12 : Value)) ((v13 : Value)) ((v14 : Value)) ((v15 : Value)) ((v16 : Value)) ((v17 : Value)) ((v18 : Value)) ((v19 : Value)) ((v20 : Value)) ((v21 : Value)) ((v22 : Value)) ((v23 : Value)) ((v24 : Value)) ((v25 : Value)) ((v26 : Value)) ((v27 : Value)) ((v28 : Value)) ((v29 : Value)) ((v30 : Value)) ((v31 : Value)) ((v32 : Value)) ((v33 : Value)) ((v34 : Value)) ((v35 : Value)) ((v36 : Value)) ((v37 : Value)) ((v38 : Value)) fi f m_imageSize (8 + (k0 * 64) + 48) (by omega) (by assumption) (by omega)) (cwV 1 hts gX9_files_X9_imageWord rfl rfl rfl (by decide +kernel) ⟨Nat.le_of_ble_eq_true rfl, Nat.le_of_ble_eq_true rfl⟩) (va_recv hK hP (ci := 7) (q0 := 0) rfl rfl) rfl rfl (Nat.le_of_ble_eq_true rfl) dX9_files_280 ⟨show 0 + 0 ≤ 0 by omega, show 0 + 0 ≤ 0 by omega⟩ [0, 1] [] rfl rfl (by decide) (by decide) (by decide) (fun r_ w_ H locs hp_ hP hD hS => ?_)
                                              obtain ⟨rfl, rfl⟩ := hp_
                                              have hP : va_P (gD g) vwCl [(mm, .inr (7, v0 :: v1 :: .ref ai_ :: .int (nI m_imageSize) :: v4 :: v5 :: v6 :: v7 :: v8 :: v9 :: v10 :: v11 :: v12 :: v13 :: v14 :: v15 :: v16 :: v17 :: v18 :: v19 :: v20 :: v21 :: v22 :: v23 :: v24 :: v25 :: v26 :: v27 :: v28 :: v29 :: v30 :: v31 :: v32 :: v33 :: v34 :: v35 :: v36 :: v37 :: v38 :: [])), (ai_, .inl (gB g, 65535, .inl fi))] H := hP
                                              have hD : va_D A [(mm, .inr (7, v0 :: v1 :: .ref ai_ :: .int (nI m_imageSize) :: v4 :: v5 :: v6 :: v7 :: v8 :: v9 :: v10 :: v11 :: v12 :: v13 :: v14 :: v15 :: v16 :: v17 :: v18 :: v19 :: v20 :: v21 :: v22 :: v23 :: v24 :: v25 :: v26 :: v27 :: v28 :: v29 :: v30 :: v31 :: v32 :: v33 :: v34 :: v35 :: v36 :: v37 :: v38 :: [])), (ai_, .inl (gB g, 65535, .inl fi))] := hD
                                              refine W.eq (g2 := F0 m 283 ls [.long (lN (u32 (be4 f (8 + (k0 * 64) + 48))))]) rfl ?_
                                              refine lv_aload_n hx hb dX9_files_283 rfl (lv_at hl 0 rfl) ?_
                                              refine lv_iload_n hx hb dX9_files_284 rfl (lv_at hl 3 rfl) ?_
                                              refine lv_bipush (v := nI 52) hx hb dX9_files_285 (by decide) ?_
                                              refine q_iadd (v := nI (8 + (k0 * 64) + 52)) hx hb dX9_files_287 (nI_add (8 + (k0 * 64)) 52) ?_
                                              refine ct_callV (wr := []) hx hb hml hown hts hK hP hD hS hA hG hl.1 (c_mWordAt l g mm ((v0 : Value)) ((v1 : Value)) ai_ ((.int (nI m_imageSize) : Value)) ((v4 : Value)) ((v5 : Value)) ((v6 : Value)) ((v7 : Value)) ((v8 : Value)) ((v9 : Value)) ((v10 : Value)) ((v11 : Value)) ((v12 : Value)) ((v13 : Value)) ((v14 : Value)) ((v15 : Value)) ((v16 : Value)) ((v17 : Value)) ((v18 : Value)) ((v19 : Value)) ((v20 : Value)) ((v21 : Value)) ((v22 : Value)) ((v23 : Value)) ((v24 : Value)) ((v25 : Value)) ((v26 : Value)) ((v27 : Value)) ((v28 : Value)) ((v29 : Value)) ((v30 : Value)) ((v31 : Value)) ((v32 : Value)) ((v33 : Value)) ((v34 : Value)) ((v35 : Value)) ((v36 : Value)) ((v37 : Value)) ((v38 : Value)) fi f m_imageSize (8 + (k0 * 64) + 52) (by omega) (by assumption) (by omega)) (cwV 1 hts gX9_files_X9_imageWord rfl rfl rfl (by decide +kernel) ⟨Nat.le_of_ble_eq_true rfl, Nat.le_of_ble_eq_true rfl⟩) (va_recv hK hP (ci := 7) (q0 := 0) rfl rfl) rfl rfl (Nat.le_of_ble_eq_true rfl) dX9_files_288 ⟨show 0 + 0 ≤ 0 by omega, show 0 + 0 ≤ 0 by omega⟩ [0, 1] [] rfl rfl (by decide) (by decide) (by decide) (fun r_ w_ H locs hp_ hP hD hS => ?_)
                                              obtain ⟨rfl, rfl⟩ := hp_
                                              have hP : va_P (gD g) vwCl [(mm, .inr (7, v0 :: v1 :: .ref ai_ :: .int (nI m_imageSize) :: v4 :: v5 :: v6 :: v7 :: v8 :: v9 :: v10 :: v11 :: v12 :: v13 :: v14 :: v15 :: v16 :: v17 :: v18 :: v19 :: v20 :: v21 :: v22 :: v23 :: v24 :: v25 :: v26 :: v27 :: v28 :: v29 :: v30 :: v31 :: v32 :: v33 :: v34 :: v35 :: v36 :: v37 :: v38 :: [])), (ai_, .inl (gB g, 65535, .inl fi))] H := hP
                                              have hD : va_D A [(mm, .inr (7, v0 :: v1 :: .ref ai_ :: .int (nI m_imageSize) :: v4 :: v5 :: v6 :: v7 :: v8 :: v9 :: v10 :: v11 :: v12 :: v13 :: v14 :: v15 :: v16 :: v17 :: v18 :: v19 :: v20 :: v21 :: v22 :: v23 :: v24 :: v25 :: v26 :: v27 :: v28 :: v29 :: v30 :: v31 :: v32 :: v33 :: v34 :: v35 :: v36 :: v37 :: v38 :: [])), (ai_, .inl (gB g, 65535, .inl fi))] := hD
                                              refine W.eq (g2 := F0 m 291 ls [.long (lN (u32 (be4 f (8 + (k0 * 64) + 52)))), .long (lN (u32 (be4 f (8 + (k0 * 64) + 48))))]) rfl ?_
                                              refine lv_ladd hx hb dX9_files_291 ?_
                                              refine q_topl (v := lN (u32 (be4 f (8 + k0 * 64 + 48)) + u32 (be4 f (8 + k0 * 64 + 52)))) (lN_add _ _) ?_
                                              refine lv_aload_n hx hb dX9_files_292 rfl (lv_at hl 0 rfl) ?_
                                              refine va_get (D := gD g) (ci := 7) (v := .int (nI m_imageSize)) (C := RX9) (T := TX9) (N := 39) hx hb hts hinX9 hown hK hP 0 rfl rfl 3 (by decide) hf54 (fun _ h9 => h9) rfl dX9_files_293 ?_
                                              refine lv_i2l (v := lN m_imageSize) hx hb dX9_files_296 (nI_l (by omega)) ?_
                                              refine W.lcmp hx hb dX9_files_297 ?_
                                              refine lv_if_gt (tgt := 314) hx hb dX9_files_298 (by decide) (fun c298 => ?_) (fun c298 => ?_)
                                              · skip
                                                have hu1 := u32_lt (be4 f (8 + k0 * 64 + 48))
                                                have hu2 := u32_lt (be4 f (8 + k0 * 64 + 52))
                                                have c298 : m_imageSize < u32 (be4 f (8 + k0 * 64 + 48)) + u32 (be4 f (8 + k0 * 64 + 52)) := (pk_lLT (by omega) (by omega)).mp ((lg_cmp_gt _ _).mp c298)
                                                refine lv_iconst (v := (-1)) hx hb dX9_files_314 (by decide) ?_
                                                refine ct_iret (w := [(mm, .inr (7, v0 :: v1 :: .ref ai_ :: .int (nI m_imageSize) :: v4 :: v5 :: v6 :: v7 :: v8 :: v9 :: v10 :: v11 :: v12 :: v13 :: v14 :: v15 :: v16 :: v17 :: v18 :: v19 :: v20 :: v21 :: v22 :: v23 :: v24 :: v25 :: v26 :: v27 :: v28 :: v29 :: v30 :: v31 :: v32 :: v33 :: v34 :: v35 :: v36 :: v37 :: v38 :: [])), (ai_, .inl (gB g, 65535, .inl fi))]) hx hb hr rfl hlocks hQ hAe hK (hP.sub [0, 1] rfl) (hD.sub [0, 1] (by decide) rfl) hS (by omega) (by omega) dX9_files_315 ?_
                                                refine Or.inl (?_)
                                                exact ⟨rfl, rfl, by first | exact fun z => hna (z.2.2.2.2.2.2.2 k0 (by omega)).1.1 | exact fun z => absurd (z.2.2.2.2.2.2.2 k0 (by omega)).1.2.1 (by omega) | exact fun z => c311 (z.2.2.2.2.2.2.2 k0 (by omega)).1.2.2 | exact fun z => (z.2.2.2.2.2.2.2 k0 (by omega)).2 j5 (by omega) hsame⟩
                                              · skip
                                                have hu1 := u32_lt (be4 f (8 + k0 * 64 + 48))
                                                have hu2 := u32_lt (be4 f (8 + k0 * 64 + 52))
                                                have c298 : ¬ m_imageSize < u32 (be4 f (8 + k0 * 64 + 48)) + u32 (be4 f (8 + k0 * 64 + 52)) := fun z => c298 ((lg_cmp_gt _ _).mpr ((pk_lLT (by omega) (by omega)).mpr z))
                                                refine lv_aload_n hx hb dX9_files_301 rfl (lv_at hl 0 rfl) ?_
                                                refine lv_iload_n hx hb dX9_files_302 rfl (lv_at hl 3 rfl) ?_
                                                refine lv_bipush (v := nI 60) hx hb dX9_files_303 (by decide) ?_
                                                refine q_iadd (v := nI (8 + (k0 * 64) + 60)) hx hb dX9_files_305 (nI_add (8 + (k0 * 64)) 60) ?_
                                                refine ct_callV (wr := []) hx hb hml hown hts hK hP hD hS hA hG hl.1 (c_mWordAt l g mm ((v0 : Value)) ((v1 : Value)) ai_ ((.int (nI m_imageSize) : Value)) ((v4 : Value)) ((v5 : Value)) ((v6 : Value)) ((v7 : Value)) ((v8 : Value)) ((v9 : Value)) ((v10 : Value)) ((v11 : Value)) ((v12 : Value)) ((v13 : Value)) ((v14 : Value)) ((v15 : Value)) ((v16 : Value)) ((v17 : Value)) ((v18 : Value)) ((v19 : Value)) ((v20 : Value)) ((v21 : Value)) ((v22 : Value)) ((v23 : Value)) ((v24 : Value)) ((v25 : Value)) ((v26 : Value)) ((v27 : Value)) ((v28 : Value)) ((v29 : Value)) ((v30 : Value)) ((v31 : Value)) ((v32 : Value)) ((v33 : Value)) ((v34 : Value)) ((v35 : Value)) ((v36 : Value)) ((v37 : Value)) ((v38 : Value)) fi f m_imageSize (8 + (k0 * 64) + 60) (by omega) (by assumption) (by omega)) (cwV 1 hts gX9_files_X9_imageWord rfl rfl rfl (by decide +kernel) ⟨Nat.le_of_ble_eq_true rfl, Nat.le_of_ble_eq_true rfl⟩) (va_recv hK hP (ci := 7) (q0 := 0) rfl rfl) rfl rfl (Nat.le_of_ble_eq_true rfl) dX9_files_306 ⟨show 0 + 0 ≤ 0 by omega, show 0 + 0 ≤ 0 by omega⟩ [0, 1] [] rfl rfl (by decide) (by decide) (by decide) (fun r_ w_ H locs hp_ hP hD hS => ?_)
                                                obtain ⟨rfl, rfl⟩ := hp_
                                                have hP : va_P (gD g) vwCl [(mm, .inr (7, v0 :: v1 :: .ref ai_ :: .int (nI m_imageSize) :: v4 :: v5 :: v6 :: v7 :: v8 :: v9 :: v10 :: v11 :: v12 :: v13 :: v14 :: v15 :: v16 :: v17 :: v18 :: v19 :: v20 :: v21 :: v22 :: v23 :: v24 :: v25 :: v26 :: v27 :: v28 :: v29 :: v30 :: v31 :: v32 :: v33 :: v34 :: v35 :: v36 :: v37 :: v38 :: [])), (ai_, .inl (gB g, 65535, .inl fi))] H := hP
                                                have hD : va_D A [(mm, .inr (7, v0 :: v1 :: .ref ai_ :: .int (nI m_imageSize) :: v4 :: v5 :: v6 :: v7 :: v8 :: v9 :: v10 :: v11 :: v12 :: v13 :: v14 :: v15 :: v16 :: v17 :: v18 :: v19 :: v20 :: v21 :: v22 :: v23 :: v24 :: v25 :: v26 :: v27 :: v28 :: v29 :: v30 :: v31 :: v32 :: v33 :: v34 :: v35 :: v36 :: v37 :: v38 :: [])), (ai_, .inl (gB g, 65535, .inl fi))] := hD
                                                refine W.eq (g2 := F0 m 309 ls [.long (lN (u32 (be4 f (8 + (k0 * 64) + 60))))]) rfl ?_
                                                refine lv_lconst (v := 0) hx hb dX9_files_309 rfl ?_
                                                refine W.lcmp hx hb dX9_files_310 ?_
                                                refine lv_if_eq (tgt := 316) hx hb dX9_files_311 (by decide) (fun c311 => ?_) (fun c311 => ?_)
                                                · skip
                                                  have c311 := u32_0.mp ((lg_cmp_eq _ _).mp c311)
                                                  refine lv_iconst (v := nI 0) hx hb dX9_files_316 (by decide) ?_
                                                  refine lv_istore (lv' := [(5, .int (nI 0)), (0, .ref mm), (1, .int (nI (cntF f))), (2, .int (nI k0)), (3, .int (nI (8 + (k0 * 64)))), (4, .int (nI ln))]) hx hb dX9_files_317 hl (by decide) rfl (fun ls hl => ?_)
                                                  have K319 : ∀ (N_ : Nat) (j5 : Nat), (j5 ≤ k0) → (∀ t, t < j5 → ¬ pSameN f (8 + t * 64) (8 + k0 * 64)) → (k0 - j5) < N_ → ∀ (H : Heap) (locs : List Loc) (ls : Array Slot), va_P (gD g) vwCl [(mm, .inr (7, v0 :: v1 :: .ref ai_ :: .int (nI m_imageSize) :: v4 :: v5 :: v6 :: v7 :: v8 :: v9 :: v10 :: v11 :: v12 :: v13 :: v14 :: v15 :: v16 :: v17 :: v18 :: v19 :: v20 :: v21 :: v22 :: v23 :: v24 :: v25 :: v26 :: v27 :: v28 :: v29 :: v30 :: v31 :: v32 :: v33 :: v34 :: v35 :: v36 :: v37 :: v38 :: [])), (ai_, .inl (gB g, 65535, .inl fi))] H → va_D A [(mm, .inr (7, v0 :: v1 :: .ref ai_ :: .int (nI m_imageSize) :: v4 :: v5 :: v6 :: v7 :: v8 :: v9 :: v10 :: v11 :: v12 :: v13 :: v14 :: v15 :: v16 :: v17 :: v18 :: v19 :: v20 :: v21 :: v22 :: v23 :: v24 :: v25 :: v26 :: v27 :: v28 :: v29 :: v30 :: v31 :: v32 :: v33 :: v34 :: v35 :: v36 :: v37 :: v38 :: [])), (ai_, .inl (gB g, 65535, .inl fi))] → va_S A s.heap H locs → lv_has ls 8 [(0, .ref mm), (1, .int (nI (cntF f))), (2, .int (nI k0)), (3, .int (nI (8 + (k0 * 64)))), (4, .int (nI ln)), (5, .int (nI j5))] → W p l e ({ frames := 1, cells := 0, slots := 0, locals := 25 } : Room) s m args below meth c H locs (0) (0) Q (F0 m 319 ls []) := by
                                                    intro N_
                                                    induction N_ with
                                                    | zero => intro j5 hj5 hnew hm_; exact absurd hm_ (Nat.not_lt_zero _)
                                                    | succ N_ ih_K319 =>
                                                      intro j5 hj5 hnew hm_ H locs ls hP hD hS hl
                                                      refine lv_iload hx hb dX9_files_319 (lv_at hl 5 rfl) ?_
                                                      refine lv_iload_n hx hb dX9_files_321 rfl (lv_at hl 2 rfl) ?_
                                                      refine lv_icmp_ge (tgt := 397) hx hb dX9_files_322 (by decide) (fun c322 => ?_) (fun c322 => ?_)
                                                      · skip
                                                        have c322 : k0 ≤ j5 := (nI_leI (a := k0) (b := j5) (by omega) (by omega)).mp c322
                                                        refine lv_iinc (v := nI (k0 + 1)) (lv' := [(2, .int (nI (k0 + 1))), (0, .ref mm), (1, .int (nI (cntF f))), (3, .int (nI (8 + (k0 * 64)))), (4, .int (nI ln)), (5, .int (nI j5))]) hx hb dX9_files_397 hl (k := 2) rfl (nI_inc k0 1) (by decide) rfl (fun ls hl => ?_)
                                                        refine lv_goto (tgt := 151) hx hb dX9_files_400 (by decide) ?_
                                                        exact ih_K151 (k0 + 1) (by omega) (by exact lt_s hall ⟨⟨hnR, by omega, c311⟩, fun t ht => hnew t (by omega)⟩) (by omega) _ _ _ (hP.sub [0, 1] rfl) (hD.sub [0, 1] (by decide) rfl) hS (lv_sub hl [1, 2, 0] rfl)
                                                      · skip
                                                        have c322 : ¬ (k0 ≤ j5) := fun z => c322 ((nI_leI (a := k0) (b := j5) (by omega) (by omega)).mpr z)
                                                        refine lv_iconst (v := nI 1) hx hb dX9_files_325 (by decide) ?_
                                                        refine lv_istore (lv' := [(6, .int (nI 1)), (0, .ref mm), (1, .int (nI (cntF f))), (2, .int (nI k0)), (3, .int (nI (8 + (k0 * 64)))), (4, .int (nI ln)), (5, .int (nI j5))]) hx hb dX9_files_326 hl (by decide) rfl (fun ls hl => ?_)
                                                        refine lv_iconst (v := nI 0) hx hb dX9_files_328 (by decide) ?_
                                                        refine lv_istore (lv' := [(7, .int (nI 0)), (6, .int (nI 1)), (0, .ref mm), (1, .int (nI (cntF f))), (2, .int (nI k0)), (3, .int (nI (8 + (k0 * 64)))), (4, .int (nI ln)), (5, .int (nI j5))]) hx hb dX9_files_329 hl (by decide) rfl (fun ls hl => ?_)
                                                        have K331 : ∀ (N_ : Nat) (i7 : Nat) (sm : Nat), (i7 ≤ 48) → ((sm = 1 ∧ ∀ j, j < i7 → f (8 + k0 * 64 + j) &&& 255 = f (8 + j5 * 64 + j) &&& 255) ∨ (sm = 0 ∧ ∃ j, j < 48 ∧ ¬ (f (8 + k0 * 64 + j) &&& 255 = f (8 + j5 * 64 + j) &&& 255))) → (48 - i7) < N_ → ∀ (H : Heap) (locs : List Loc) (ls : Array Slot), va_P (gD g) vwCl [(mm, .inr (7, v0 :: v1 :: .ref ai_ :: .int (nI m_imageSize) :: v4 :: v5 :: v6 :: v7 :: v8 :: v9 :: v10 :: v11 :: v12 :: v13 :: v14 :: v15 :: v16 :: v17 :: v18 :: v19 :: v20 :: v21 :: v22 :: v23 :: v24 :: v25 :: v26 :: v27 :: v28 :: v29 :: v30 :: v31 :: v32 :: v33 :: v34 :: v35 :: v36 :: v37 :: v38 :: [])), (ai_, .inl (gB g, 65535, .inl fi))] H → va_D A [(mm, .inr (7, v0 :: v1 :: .ref ai_ :: .int (nI m_imageSize) :: v4 :: v5 :: v6 :: v7 :: v8 :: v9 :: v10 :: v11 :: v12 :: v13 :: v14 :: v15 :: v16 :: v17 :: v18 :: v19 :: v20 :: v21 :: v22 :: v23 :: v24 :: v25 :: v26 :: v27 :: v28 :: v29 :: v30 :: v31 :: v32 :: v33 :: v34 :: v35 :: v36 :: v37 :: v38 :: [])), (ai_, .inl (gB g, 65535, .inl fi))] → va_S A s.heap H locs → lv_has ls 8 [(0, .ref mm), (1, .int (nI (cntF f))), (2, .int (nI k0)), (3, .int (nI (8 + (k0 * 64)))), (4, .int (nI ln)), (5, .int (nI j5)), (6, .int (nI sm)), (7, .int (nI i7))] → W p l e ({ frames := 1, cells := 0, slots := 0, locals := 25 } : Room) s m args below meth c H locs (0) (0) Q (F0 m 331 ls []) := by
                                                          intro N_
                                                          induction N_ with
                                                          | zero => intro i7 sm hi7 hsm hm_; exact absurd hm_ (Nat.not_lt_zero _)
                                                          | succ N_ ih_K331 =>
                                                            intro i7 sm hi7 hsm hm_ H locs ls hP hD hS hl
                                                            have hsm1 : sm ≤ 1 := by rcases hsm with z_ | z_ <;> omega
                                                            refine lv_iload hx hb dX9_files_331 (lv_at hl 7 rfl) ?_
                                                            refine lv_bipush (v := nI 48) hx hb dX9_files_333 (by decide) ?_
                                                            refine lv_icmp_ge (tgt := 384) hx hb dX9_files_335 (by decide) (fun c335 => ?_) (fun c335 => ?_)
                                                            · skip
                                                              have c335 : 48 ≤ i7 := (nI_leI (a := 48) (b := i7) (by omega) (by omega)).mp c335
                                                              refine lv_iload hx hb dX9_files_384 (lv_at hl 6 rfl) ?_
                                                              refine lv_if_eq (tgt := 391) hx hb dX9_files_386 (by decide) (fun c386 => ?_) (fun c386 => ?_)
                                                              · skip
                                                                have c386 : sm = 0 := (nI_eq (a := sm) (b := 0) (by omega) (by omega)).mp c386
                                                                have hdiff : ¬ pSameN f (8 + j5 * 64) (8 + k0 * 64) := fun z => (hsm.elim (fun w => absurd w.1 (by omega)) (fun w => w.2.elim (fun j hj => hj.2 (z j hj.1).symm)))
                                                                refine lv_iinc (v := nI (j5 + 1)) (lv' := [(5, .int (nI (j5 + 1))), (0, .ref mm), (1, .int (nI (cntF f))), (2, .int (nI k0)), (3, .int (nI (8 + (k0 * 64)))), (4, .int (nI ln)), (6, .int (nI sm)), (7, .int (nI i7))]) hx hb dX9_files_391 hl (k := 5) rfl (nI_inc j5 1) (by decide) rfl (fun ls hl => ?_)
                                                                refine lv_goto (tgt := 319) hx hb dX9_files_394 (by decide) ?_
                                                                exact ih_K319 (j5 + 1) (by omega) (by exact lt_s hnew hdiff) (by omega) _ _ _ (hP.sub [0, 1] rfl) (hD.sub [0, 1] (by decide) rfl) hS (lv_sub hl [1, 2, 3, 4, 5, 0] rfl)
                                                              · skip
                                                                have c386 : ¬ (sm = 0) := fun z => c386 ((nI_eq (a := sm) (b := 0) (by omega) (by omega)).mpr z)
                                                                have hsame : pSameN f (8 + j5 * 64) (8 + k0 * 64) := fun j hj => (hsm.elim (fun w => (w.2 j (by omega)).symm) (fun w => absurd w.1 (by omega)))
                                                                refine lv_iconst (v := (-1)) hx hb dX9_files_389 (by decide) ?_
                                                                refine ct_iret (w := [(mm, .inr (7, v0 :: v1 :: .ref ai_ :: .int (nI m_imageSize) :: v4 :: v5 :: v6 :: v7 :: v8 :: v9 :: v10 :: v11 :: v12 :: v13 :: v14 :: v15 :: v16 :: v17 :: v18 :: v19 :: v20 :: v21 :: v22 :: v23 :: v24 :: v25 :: v26 :: v27 :: v28 :: v29 :: v30 :: v31 :: v32 :: v33 :: v34 :: v35 :: v36 :: v37 :: v38 :: [])), (ai_, .inl (gB g, 65535, .inl fi))]) hx hb hr rfl hlocks hQ hAe hK (hP.sub [0, 1] rfl) (hD.sub [0, 1] (by decide) rfl) hS (by omega) (by omega) dX9_files_390 ?_
                                                                refine Or.inl (?_)
                                                                exact ⟨rfl, rfl, by first | exact fun z => hna (z.2.2.2.2.2.2.2 k0 (by omega)).1.1 | exact fun z => absurd (z.2.2.2.2.2.2.2 k0 (by omega)).1.2.1 (by omega) | exact fun z => c311 (z.2.2.2.2.2.2.2 k0 (by omega)).1.2.2 | exact fun z => (z.2.2.2.2.2.2.2 k0 (by omega)).2 j5 (by omega) hsame⟩
                                                            · skip
                                                              have c335 : ¬ (48 ≤ i7) := fun z => c335 ((nI_leI (a := 48) (b := i7) (by omega) (by omega)).mpr z)
                                                              refine lv_iload hx hb dX9_files_338 (lv_at hl 6 rfl) ?_
                                                              refine lv_if_eq (tgt := 375) hx hb dX9_files_340 (by decide) (fun c340 => ?_) (fun c340 => ?_)
                                                              · skip
                                                                have c340 : sm = 0 := (nI_eq (a := sm) (b := 0) (by omega) (by omega)).mp c340
                                                                refine lv_iconst (v := nI 0) hx hb dX9_files_375 (by decide) ?_
                                                                refine lv_istore (lv' := [(6, .int (nI 0)), (0, .ref mm), (1, .int (nI (cntF f))), (2, .int (nI k0)), (3, .int (nI (8 + (k0 * 64)))), (4, .int (nI ln)), (5, .int (nI j5)), (7, .int (nI i7))]) hx hb dX9_files_376 hl (by decide) rfl (fun ls hl => ?_)
                                                                refine lv_iinc (v := nI (i7 + 1)) (lv' := [(7, .int (nI (i7 + 1))), (6, .int (nI 0)), (0, .ref mm), (1, .int (nI (cntF f))), (2, .int (nI k0)), (3, .int (nI (8 + (k0 * 64)))), (4, .int (nI ln)), (5, .int (nI j5))]) hx hb dX9_files_378 hl (k := 7) rfl (nI_inc i7 1) (by decide) rfl (fun ls hl => ?_)
                                                                refine lv_goto (tgt := 331) hx hb dX9_files_381 (by decide) ?_
                                                                exact ih_K331 (i7 + 1) 0 (by omega) (by first | exact Or.inl ⟨rfl, lt_s (hsm.elim (fun z => z.2) (fun z => absurd z.1 c340)) ((raw_eq2 (hfit _) (hfit _)).mp c368)⟩ | exact Or.inr ⟨rfl, i7, by omega, fun z => c368 ((raw_eq2 (hfit _) (hfit _)).mpr z)⟩ | exact Or.inr ⟨rfl, hsm.elim (fun z => absurd z.1 (by omega)) (fun z => z.2)⟩) (by omega) _ _ _ (hP.sub [0, 1] rfl) (hD.sub [0, 1] (by decide) rfl) hS (lv_sub hl [2, 3, 4, 5, 6, 7, 1, 0] rfl)
                                                              · skip
                                                                have c340 : ¬ (sm = 0) := fun z => c340 ((nI_eq (a := sm) (b := 0) (by omega) (by omega)).mpr z)
                                                                refine lv_aload_n hx hb dX9_files_343 rfl (lv_at hl 0 rfl) ?_
                                                                refine va_get (D := gD g) (ci := 7) (v := .ref ai_) (C := RX9) (T := TX9) (N := 39) hx hb hts hinX9 hown hK hP 0 rfl rfl 2 (by decide) hf15 (fun _ h9 => h9) rfl dX9_files_344 ?_
                                                                refine lv_iload_n hx hb dX9_files_347 rfl (lv_at hl 3 rfl) ?_
                                                                refine lv_iload hx hb dX9_files_348 (lv_at hl 7 rfl) ?_
                                                                refine q_iadd (v := nI (8 + (k0 * 64) + i7)) hx hb dX9_files_350 (nI_add (8 + (k0 * 64)) i7) ?_
                                                                refine q_bald hx hb hK hP 1 rfl (8 + (k0 * 64) + i7) rfl (by omega) (by omega) dX9_files_351 ?_
                                                                refine q_top (v := f (8 + (k0 * 64) + i7)) (hM _ (by omega)) ?_
                                                                refine lv_aload_n hx hb dX9_files_352 rfl (lv_at hl 0 rfl) ?_
                                                                refine va_get (D := gD g) (ci := 7) (v := .ref ai_) (C := RX9) (T := TX9) (N := 39) hx hb hts hinX9 hown hK hP 0 rfl rfl 2 (by decide) hf15 (fun _ h9 => h9) rfl dX9_files_353 ?_
                                                                refine lv_bipush (v := nI 8) hx hb dX9_files_356 (by decide) ?_
                                                                refine lv_bipush (v := nI 64) hx hb dX9_files_358 (by decide) ?_
                                                                refine lv_iload hx hb dX9_files_360 (lv_at hl 5 rfl) ?_
                                                                refine q_imul (v := nI (j5 * 64)) hx hb dX9_files_362 (by rw [pk_mul, Nat.mul_comm]) ?_
                                                                refine q_iadd (v := nI (8 + (j5 * 64))) hx hb dX9_files_363 (nI_add 8 (j5 * 64)) ?_
                                                                refine lv_iload hx hb dX9_files_364 (lv_at hl 7 rfl) ?_
                                                                refine q_iadd (v := nI (8 + (j5 * 64) + i7)) hx hb dX9_files_366 (nI_add (8 + (j5 * 64)) i7) ?_
                                                                refine q_bald hx hb hK hP 1 rfl (8 + (j5 * 64) + i7) rfl (by omega) (by omega) dX9_files_367 ?_
                                                                refine q_top (v := f (8 + (j5 * 64) + i7)) (hM _ (by omega)) ?_
                                                                refine lv_icmp_ne (tgt := 375) hx hb dX9_files_368 (by decide) (fun c368 => ?_) (fun c368 => ?_)
                                                                · skip
                                                                  refine lv_iconst (v := nI 0) hx hb dX9_files_375 (by decide) ?_
                                                                  refine lv_istore (lv' := [(6, .int (nI 0)), (0, .ref mm), (1, .int (nI (cntF f))), (2, .int (nI k0)), (3, .int (nI (8 + (k0 * 64)))), (4, .int (nI ln)), (5, .int (nI j5)), (7, .int (nI i7))]) hx hb dX9_files_376 hl (by decide) rfl (fun ls hl => ?_)
                                                                  refine lv_iinc (v := nI (i7 + 1)) (lv' := [(7, .int (nI (i7 + 1))), (6, .int (nI 0)), (0, .ref mm), (1, .int (nI (cntF f))), (2, .int (nI k0)), (3, .int (nI (8 + (k0 * 64)))), (4, .int (nI ln)), (5, .int (nI j5))]) hx hb dX9_files_378 hl (k := 7) rfl (nI_inc i7 1) (by decide) rfl (fun ls hl => ?_)
                                                                  refine lv_goto (tgt := 331) hx hb dX9_files_381 (by decide) ?_
                                                                  exact ih_K331 (i7 + 1) 0 (by omega) (by first | exact Or.inl ⟨rfl, lt_s (hsm.elim (fun z => z.2) (fun z => absurd z.1 c340)) ((raw_eq2 (hfit _) (hfit _)).mp c368)⟩ | exact Or.inr ⟨rfl, i7, by omega, fun z => c368 ((raw_eq2 (hfit _) (hfit _)).mpr z)⟩ | exact Or.inr ⟨rfl, hsm.elim (fun z => absurd z.1 (by omega)) (fun z => z.2)⟩) (by omega) _ _ _ (hP.sub [0, 1] rfl) (hD.sub [0, 1] (by decide) rfl) hS (lv_sub hl [2, 3, 4, 5, 6, 7, 1, 0] rfl)
                                                                · skip
                                                                  refine lv_iconst (v := nI 1) hx hb dX9_files_371 (by decide) ?_
                                                                  refine lv_goto (tgt := 376) hx hb dX9_files_372 (by decide) ?_
                                                                  refine lv_istore (lv' := [(6, .int (nI 1)), (0, .ref mm), (1, .int (nI (cntF f))), (2, .int (nI k0)), (3, .int (nI (8 + (k0 * 64)))), (4, .int (nI ln)), (5, .int (nI j5)), (7, .int (nI i7))]) hx hb dX9_files_376 hl (by decide) rfl (fun ls hl => ?_)
                                                                  refine lv_iinc (v := nI (i7 + 1)) (lv' := [(7, .int (nI (i7 + 1))), (6, .int (nI 1)), (0, .ref mm), (1, .int (nI (cntF f))), (2, .int (nI k0)), (3, .int (nI (8 + (k0 * 64)))), (4, .int (nI ln)), (5, .int (nI j5))]) hx hb dX9_files_378 hl (k := 7) rfl (nI_inc i7 1) (by decide) rfl (fun ls hl => ?_)
                                                                  refine lv_goto (tgt := 331) hx hb dX9_files_381 (by decide) ?_
                                                                  exact ih_K331 (i7 + 1) 1 (by omega) (by first | exact Or.inl ⟨rfl, lt_s (hsm.elim (fun z => z.2) (fun z => absurd z.1 c340)) ((raw_eq2 (hfit _) (hfit _)).mp c368)⟩ | exact Or.inr ⟨rfl, i7, by omega, fun z => c368 ((raw_eq2 (hfit _) (hfit _)).mpr z)⟩ | exact Or.inr ⟨rfl, hsm.elim (fun z => absurd z.1 (by omega)) (fun z => z.2)⟩) (by omega) _ _ _ (hP.sub [0, 1] rfl) (hD.sub [0, 1] (by decide) rfl) hS (lv_sub hl [2, 3, 4, 5, 6, 7, 1, 0] rfl)
                                                        exact K331 ((48 - 0) + 1) 0 1 (by omega) (by exact Or.inl ⟨rfl, fun j hj => absurd hj (Nat.not_lt_zero _)⟩) (Nat.lt_succ_self _) _ _ _ (hP.sub [0, 1] rfl) (hD.sub [0, 1] (by decide) rfl) hS (lv_sub hl [2, 3, 4, 5, 6, 7, 1, 0] rfl)
                                                  exact K319 ((k0 - 0) + 1) 0 (by omega) (by intro j h1; omega) (Nat.lt_succ_self _) _ _ _ (hP.sub [0, 1] rfl) (hD.sub [0, 1] (by decide) rfl) hS (lv_sub hl [1, 2, 3, 4, 5, 0] rfl)
                                                · skip
                                                  have c311 : ¬ be4 f (8 + k0 * 64 + 60) = nI 0 := fun z => c311 ((lg_cmp_eq _ _).mpr (u32_0.mpr z))
                                                  refine lv_iconst (v := (-1)) hx hb dX9_files_314 (by decide) ?_
                                                  refine ct_iret (w := [(mm, .inr (7, v0 :: v1 :: .ref ai_ :: .int (nI m_imageSize) :: v4 :: v5 :: v6 :: v7 :: v8 :: v9 :: v10 :: v11 :: v12 :: v13 :: v14 :: v15 :: v16 :: v17 :: v18 :: v19 :: v20 :: v21 :: v22 :: v23 :: v24 :: v25 :: v26 :: v27 :: v28 :: v29 :: v30 :: v31 :: v32 :: v33 :: v34 :: v35 :: v36 :: v37 :: v38 :: [])), (ai_, .inl (gB g, 65535, .inl fi))]) hx hb hr rfl hlocks hQ hAe hK (hP.sub [0, 1] rfl) (hD.sub [0, 1] (by decide) rfl) hS (by omega) (by omega) dX9_files_315 ?_
                                                  refine Or.inl (?_)
                                                  exact ⟨rfl, rfl, by first | exact fun z => hna (z.2.2.2.2.2.2.2 k0 (by omega)).1.1 | exact fun z => absurd (z.2.2.2.2.2.2.2 k0 (by omega)).1.2.1 (by omega) | exact fun z => c311 (z.2.2.2.2.2.2.2 k0 (by omega)).1.2.2 | exact fun z => (z.2.2.2.2.2.2.2 k0 (by omega)).2 j5 (by omega) hsame⟩
                                            · skip
                                              have c224 : ¬ (48 ≤ i5) := fun z => c224 ((nI_leI (a := 48) (b := i5) (by omega) (by omega)).mpr z)
                                              refine lv_aload_n hx hb dX9_files_227 rfl (lv_at hl 0 rfl) ?_
                                              refine va_get (D := gD g) (ci := 7) (v := .ref ai_) (C := RX9) (T := TX9) (N := 39) hx hb hts hinX9 hown hK hP 0 rfl rfl 2 (by decide) hf15 (fun _ h9 => h9) rfl dX9_files_228 ?_
                                              refine lv_iload_n hx hb dX9_files_231 rfl (lv_at hl 3 rfl) ?_
                                              refine lv_iload hx hb dX9_files_232 (lv_at hl 5 rfl) ?_
                                              refine q_iadd (v := nI (8 + (k0 * 64) + i5)) hx hb dX9_files_234 (nI_add (8 + (k0 * 64)) i5) ?_
                                              refine q_bald hx hb hK hP 1 rfl (8 + (k0 * 64) + i5) rfl (by omega) (by omega) dX9_files_235 ?_
                                              refine q_top (v := f (8 + (k0 * 64) + i5)) (hM _ (by omega)) ?_
                                              refine lv_istore (lv' := [(6, .int (f (8 + (k0 * 64) + i5))), (0, .ref mm), (1, .int (nI (cntF f))), (2, .int (nI k0)), (3, .int (nI (8 + (k0 * 64)))), (4, .int (nI ln)), (5, .int (nI i5))]) hx hb dX9_files_236 hl (by decide) rfl (fun ls hl => ?_)
                                              refine lv_iload hx hb dX9_files_238 (lv_at hl 6 rfl) ?_
                                              refine lv_iload hx hb dX9_files_240 (lv_at hl 5 rfl) ?_
                                              refine lv_icmp_ge (tgt := 262) hx hb dX9_files_242 (by decide) (fun c242 => ?_) (fun c242 => ?_)
                                              · skip
                                                have c242 : ln ≤ i5 := (nI_leI (a := ln) (b := i5) (by omega) (by omega)).mp c242
                                                refine lv_iload hx hb dX9_files_262 (lv_at hl 0 rfl) ?_
                                                refine lv_if_eq (tgt := 269) hx hb dX9_files_264 (by decide) (fun c264 => ?_) (fun c264 => ?_)
                                                · skip
                                                  refine lv_iinc (v := nI (i5 + 1)) (lv' := [(5, .int (nI (i5 + 1))), (6, .int (f (8 + (k0 * 64) + i5))), (0, .ref mm), (1, .int (nI (cntF f))), (2, .int (nI k0)), (3, .int (nI (8 + (k0 * 64)))), (4, .int (nI ln))]) hx hb dX9_files_269 hl (k := 6) rfl (nI_inc i5 1) (by decide) rfl (fun ls hl => ?_)
                                                  refine lv_goto (tgt := 220) hx hb dX9_files_272 (by decide) ?_
                                                  exact ih_K220 (i5 + 1) (by omega) (by first | exact all_s (i := 8 + k0 * 64 + i5) hna2 ⟨fun _ => (raw_vis (hfit _)).mpr ⟨c249, Int32.not_lt.mpr c256⟩, fun z => absurd (show 8 + k0 * 64 + i5 < 8 + k0 * 64 + ln by omega) z⟩ | exact all_s (i := 8 + k0 * 64 + i5) hna2 ⟨fun z => absurd z (by omega), fun _ => (ra0 hfit).mp c264⟩) (by omega) _ _ _ (hP.sub [0, 1] rfl) (hD.sub [0, 1] (by decide) rfl) hS (lv_sub hl [2, 3, 4, 5, 6, 0] rfl)
                                                · skip
                                                  have hna : ¬ pNameR f (8 + k0 * 64) := nameR_F4 hfd (i := 8 + k0 * 64 + i5) (by omega) (by omega) (by omega) (fun z => c264 ((ra0 hfit).mpr z))
                                                  refine lv_iconst (v := (-1)) hx hb dX9_files_267 (by decide) ?_
                                                  refine ct_iret (w := [(mm, .inr (7, v0 :: v1 :: .ref ai_ :: .int (nI m_imageSize) :: v4 :: v5 :: v6 :: v7 :: v8 :: v9 :: v10 :: v11 :: v12 :: v13 :: v14 :: v15 :: v16 :: v17 :: v18 :: v19 :: v20 :: v21 :: v22 :: v23 :: v24 :: v25 :: v26 :: v27 :: v28 :: v29 :: v30 :: v31 :: v32 :: v33 :: v34 :: v35 :: v36 :: v37 :: v38 :: [])), (ai_, .inl (gB g, 65535, .inl fi))]) hx hb hr rfl hlocks hQ hAe hK (hP.sub [0, 1] rfl) (hD.sub [0, 1] (by decide) rfl) hS (by omega) (by omega) dX9_files_268 ?_
                                                  refine Or.inl (?_)
                                                  exact ⟨rfl, rfl, by first | exact fun z => hna (z.2.2.2.2.2.2.2 k0 (by omega)).1.1 | exact fun z => absurd (z.2.2.2.2.2.2.2 k0 (by omega)).1.2.1 (by omega) | exact fun z => c311 (z.2.2.2.2.2.2.2 k0 (by omega)).1.2.2 | exact fun z => (z.2.2.2.2.2.2.2 k0 (by omega)).2 j5 (by omega) hsame⟩
                                              · skip
                                                have c242 : ¬ (ln ≤ i5) := fun z => c242 ((nI_leI (a := ln) (b := i5) (by omega) (by omega)).mpr z)
                                                refine lv_iload hx hb dX9_files_245 (lv_at hl 0 rfl) ?_
                                                refine lv_bipush (v := nI 33) hx hb dX9_files_247 (by decide) ?_
                                                refine lv_icmp_lt (tgt := 267) hx hb dX9_files_249 (by decide) (fun c249 => ?_) (fun c249 => ?_)
                                                · skip
                                                  have hna : ¬ pNameR f (8 + k0 * 64) := nameR_F3 hfd (i := 8 + k0 * 64 + i5) (by omega) (by omega) (by omega) (fun z => ((raw_vis (hfit _)).mp z).1 c249)
                                                  refine lv_iconst (v := (-1)) hx hb dX9_files_267 (by decide) ?_
                                                  refine ct_iret (w := [(mm, .inr (7, v0 :: v1 :: .ref ai_ :: .int (nI m_imageSize) :: v4 :: v5 :: v6 :: v7 :: v8 :: v9 :: v10 :: v11 :: v12 :: v13 :: v14 :: v15 :: v16 :: v17 :: v18 :: v19 :: v20 :: v21 :: v22 :: v23 :: v24 :: v25 :: v26 :: v27 :: v28 :: v29 :: v30 :: v31 :: v32 :: v33 :: v34 :: v35 :: v36 :: v37 :: v38 :: [])), (ai_, .inl (gB g, 65535, .inl fi))]) hx hb hr rfl hlocks hQ hAe hK (hP.sub [0, 1] rfl) (hD.sub [0, 1] (by decide) rfl) hS (by omega) (by omega) dX9_files_268 ?_
                                                  refine Or.inl (?_)
                                                  exact ⟨rfl, rfl, by first | exact fun z => hna (z.2.2.2.2.2.2.2 k0 (by omega)).1.1 | exact fun z => absurd (z.2.2.2.2.2.2.2 k0 (by omega)).1.2.1 (by omega) | exact fun z => c311 (z.2.2.2.2.2.2.2 k0 (by omega)).1.2.2 | exact fun z => (z.2.2.2.2.2.2.2 k0 (by omega)).2 j5 (by omega) hsame⟩
                                                · skip
                                                  refine lv_iload hx hb dX9_files_252 (lv_at hl 0 rfl) ?_
                                                  refine lv_bipush (v := nI 126) hx hb dX9_files_254 (by decide) ?_
                                                  refine lv_icmp_le (tgt := 269) hx hb dX9_files_256 (by decide) (fun c256 => ?_) (fun c256 => ?_)
                                                  · skip
                                                    refine lv_iinc (v := nI (i5 + 1)) (lv' := [(5, .int (nI (i5 + 1))), (6, .int (f (8 + (k0 * 64) + i5))), (0, .ref mm), (1, .int (nI (cntF f))), (2, .int (nI k0)), (3, .int (nI (8 + (k0 * 64)))), (4, .int (nI ln))]) hx hb dX9_files_269 hl (k := 6) rfl (nI_inc i5 1) (by decide) rfl (fun ls hl => ?_)
                                                    refine lv_goto (tgt := 220) hx hb dX9_files_272 (by decide) ?_
                                                    exact ih_K220 (i5 + 1) (by omega) (by first | exact all_s (i := 8 + k0 * 64 + i5) hna2 ⟨fun _ => (raw_vis (hfit _)).mpr ⟨c249, Int32.not_lt.mpr c256⟩, fun z => absurd (show 8 + k0 * 64 + i5 < 8 + k0 * 64 + ln by omega) z⟩ | exact all_s (i := 8 + k0 * 64 + i5) hna2 ⟨fun z => absurd z (by omega), fun _ => (ra0 hfit).mp c264⟩) (by omega) _ _ _ (hP.sub [0, 1] rfl) (hD.sub [0, 1] (by decide) rfl) hS (lv_sub hl [2, 3, 4, 5, 6, 0] rfl)
                                                  · skip
                                                    have hna : ¬ pNameR f (8 + k0 * 64) := nameR_F3 hfd (i := 8 + k0 * 64 + i5) (by omega) (by omega) (by omega) (fun z => ((raw_vis (hfit _)).mp z).2 (Int32.not_le.mp c256))
                                                    refine lv_goto (tgt := 267) hx hb dX9_files_259 (by decide) ?_
                                                    refine lv_iconst (v := (-1)) hx hb dX9_files_267 (by decide) ?_
                                                    refine ct_iret (w := [(mm, .inr (7, v0 :: v1 :: .ref ai_ :: .int (nI m_imageSize) :: v4 :: v5 :: v6 :: v7 :: v8 :: v9 :: v10 :: v11 :: v12 :: v13 :: v14 :: v15 :: v16 :: v17 :: v18 :: v19 :: v20 :: v21 :: v22 :: v23 :: v24 :: v25 :: v26 :: v27 :: v28 :: v29 :: v30 :: v31 :: v32 :: v33 :: v34 :: v35 :: v36 :: v37 :: v38 :: [])), (ai_, .inl (gB g, 65535, .inl fi))]) hx hb hr rfl hlocks hQ hAe hK (hP.sub [0, 1] rfl) (hD.sub [0, 1] (by decide) rfl) hS (by omega) (by omega) dX9_files_268 ?_
                                                    refine Or.inl (?_)
                                                    exact ⟨rfl, rfl, by first | exact fun z => hna (z.2.2.2.2.2.2.2 k0 (by omega)).1.1 | exact fun z => absurd (z.2.2.2.2.2.2.2 k0 (by omega)).1.2.1 (by omega) | exact fun z => c311 (z.2.2.2.2.2.2.2 k0 (by omega)).1.2.2 | exact fun z => (z.2.2.2.2.2.2.2 k0 (by omega)).2 j5 (by omega) hsame⟩
                                        exact K220 ((48 - 0) + 1) 0 (by omega) (by intro j h1 h2; omega) (Nat.lt_succ_self _) _ _ _ (hP.sub [0, 1] rfl) (hD.sub [0, 1] (by decide) rfl) hS (lv_sub hl [1, 2, 3, 4, 5, 0] rfl)
                                      · skip
                                        have c212 : ¬ f (8 + k0 * 64) &&& 255 = nI 47 := fun z => c212 ((ra hfit (by decide)).mpr z)
                                        have hna : ¬ pNameR f (8 + k0 * 64) := fun z => z.elim (fun e_ w => c212 w.2.1)
                                        refine lv_iconst (v := (-1)) hx hb dX9_files_215 (by decide) ?_
                                        refine ct_iret (w := [(mm, .inr (7, v0 :: v1 :: .ref ai_ :: .int (nI m_imageSize) :: v4 :: v5 :: v6 :: v7 :: v8 :: v9 :: v10 :: v11 :: v12 :: v13 :: v14 :: v15 :: v16 :: v17 :: v18 :: v19 :: v20 :: v21 :: v22 :: v23 :: v24 :: v25 :: v26 :: v27 :: v28 :: v29 :: v30 :: v31 :: v32 :: v33 :: v34 :: v35 :: v36 :: v37 :: v38 :: [])), (ai_, .inl (gB g, 65535, .inl fi))]) hx hb hr rfl hlocks hQ hAe hK (hP.sub [0, 1] rfl) (hD.sub [0, 1] (by decide) rfl) hS (by omega) (by omega) dX9_files_216 ?_
                                        refine Or.inl (?_)
                                        exact ⟨rfl, rfl, by first | exact fun z => hna (z.2.2.2.2.2.2.2 k0 (by omega)).1.1 | exact fun z => absurd (z.2.2.2.2.2.2.2 k0 (by omega)).1.2.1 (by omega) | exact fun z => c311 (z.2.2.2.2.2.2.2 k0 (by omega)).1.2.2 | exact fun z => (z.2.2.2.2.2.2.2 k0 (by omega)).2 j5 (by omega) hsame⟩
                                · skip
                                  have c171 : ¬ (48 ≤ ln) := fun z => c171 ((nI_leI (a := 48) (b := ln) (by omega) (by omega)).mpr z)
                                  refine lv_aload_n hx hb dX9_files_174 rfl (lv_at hl 0 rfl) ?_
                                  refine va_get (D := gD g) (ci := 7) (v := .ref ai_) (C := RX9) (T := TX9) (N := 39) hx hb hts hinX9 hown hK hP 0 rfl rfl 2 (by decide) hf15 (fun _ h9 => h9) rfl dX9_files_175 ?_
                                  refine lv_iload_n hx hb dX9_files_178 rfl (lv_at hl 3 rfl) ?_
                                  refine lv_iload hx hb dX9_files_179 (lv_at hl 4 rfl) ?_
                                  refine q_iadd (v := nI (8 + (k0 * 64) + ln)) hx hb dX9_files_181 (nI_add (8 + (k0 * 64)) ln) ?_
                                  refine q_bald hx hb hK hP 1 rfl (8 + (k0 * 64) + ln) rfl (by omega) (by omega) dX9_files_182 ?_
                                  refine q_top (v := f (8 + (k0 * 64) + ln)) (hM _ (by omega)) ?_
                                  refine lv_if_eq (tgt := 192) hx hb dX9_files_183 (by decide) (fun c183 => ?_) (fun c183 => ?_)
                                  · skip
                                    have c183 := (ra0 hfit).mp c183
                                    refine lv_iload hx hb dX9_files_192 (lv_at hl 4 rfl) ?_
                                    refine lv_if_eq (tgt := 215) hx hb dX9_files_194 (by decide) (fun c194 => ?_) (fun c194 => ?_)
                                    · skip
                                      have c194 : ln = 0 := (nI_eq (a := ln) (b := 0) (by omega) (by omega)).mp c194
                                      have hna : ¬ pNameR f (8 + k0 * 64) := fun z => z.elim (fun e_ w => by have h_ := w.2.1; first | (have hz_ : f (8 + k0 * 64) &&& 255 = nI 0 := (by have c_ := c183; rw [show ln = 0 by omega] at c_; exact c_); rw [hz_] at h_; exact absurd h_ (by decide)) | (exfalso; omega))
                                      refine lv_iconst (v := (-1)) hx hb dX9_files_215 (by decide) ?_
                                      refine ct_iret (w := [(mm, .inr (7, v0 :: v1 :: .ref ai_ :: .int (nI m_imageSize) :: v4 :: v5 :: v6 :: v7 :: v8 :: v9 :: v10 :: v11 :: v12 :: v13 :: v14 :: v15 :: v16 :: v17 :: v18 :: v19 :: v20 :: v21 :: v22 :: v23 :: v24 :: v25 :: v26 :: v27 :: v28 :: v29 :: v30 :: v31 :: v32 :: v33 :: v34 :: v35 :: v36 :: v37 :: v38 :: [])), (ai_, .inl (gB g, 65535, .inl fi))]) hx hb hr rfl hlocks hQ hAe hK (hP.sub [0, 1] rfl) (hD.sub [0, 1] (by decide) rfl) hS (by omega) (by omega) dX9_files_216 ?_
                                      refine Or.inl (?_)
                                      exact ⟨rfl, rfl, by first | exact fun z => hna (z.2.2.2.2.2.2.2 k0 (by omega)).1.1 | exact fun z => absurd (z.2.2.2.2.2.2.2 k0 (by omega)).1.2.1 (by omega) | exact fun z => c311 (z.2.2.2.2.2.2.2 k0 (by omega)).1.2.2 | exact fun z => (z.2.2.2.2.2.2.2 k0 (by omega)).2 j5 (by omega) hsame⟩
                                    · skip
                                      have c194 : ¬ (ln = 0) := fun z => c194 ((nI_eq (a := ln) (b := 0) (by omega) (by omega)).mpr z)
                                      refine lv_iload hx hb dX9_files_197 (lv_at hl 4 rfl) ?_
                                      refine lv_bipush (v := nI 48) hx hb dX9_files_199 (by decide) ?_
                                      refine lv_icmp_eq (tgt := 215) hx hb dX9_files_201 (by decide) (fun c201 => ?_) (fun c201 => ?_)
                                      · skip
                                        have c201 : ln = 48 := (nI_eq (a := ln) (b := 48) (by omega) (by omega)).mp c201
                                        have hna : ¬ pNameR f (8 + k0 * 64) := nameR_F2 (r := 8 + k0 * 64 + 48) ⟨fun j h1 h2 => hln j h1 (by omega), Or.inl rfl⟩ (by omega)
                                        refine lv_iconst (v := (-1)) hx hb dX9_files_215 (by decide) ?_
                                        refine ct_iret (w := [(mm, .inr (7, v0 :: v1 :: .ref ai_ :: .int (nI m_imageSize) :: v4 :: v5 :: v6 :: v7 :: v8 :: v9 :: v10 :: v11 :: v12 :: v13 :: v14 :: v15 :: v16 :: v17 :: v18 :: v19 :: v20 :: v21 :: v22 :: v23 :: v24 :: v25 :: v26 :: v27 :: v28 :: v29 :: v30 :: v31 :: v32 :: v33 :: v34 :: v35 :: v36 :: v37 :: v38 :: [])), (ai_, .inl (gB g, 65535, .inl fi))]) hx hb hr rfl hlocks hQ hAe hK (hP.sub [0, 1] rfl) (hD.sub [0, 1] (by decide) rfl) hS (by omega) (by omega) dX9_files_216 ?_
                                        refine Or.inl (?_)
                                        exact ⟨rfl, rfl, by first | exact fun z => hna (z.2.2.2.2.2.2.2 k0 (by omega)).1.1 | exact fun z => absurd (z.2.2.2.2.2.2.2 k0 (by omega)).1.2.1 (by omega) | exact fun z => c311 (z.2.2.2.2.2.2.2 k0 (by omega)).1.2.2 | exact fun z => (z.2.2.2.2.2.2.2 k0 (by omega)).2 j5 (by omega) hsame⟩
                                      · skip
                                        have c201 : ¬ (ln = 48) := fun z => c201 ((nI_eq (a := ln) (b := 48) (by omega) (by omega)).mpr z)
                                        have hfd : pFind f (nI 0) (8 + k0 * 64) (8 + k0 * 64 + 48) (8 + k0 * 64 + ln) := ⟨hln, Or.inr ⟨by omega, by omega, by first | exact c183 | (exfalso; omega)⟩⟩
                                        refine lv_aload_n hx hb dX9_files_204 rfl (lv_at hl 0 rfl) ?_
                                        refine va_get (D := gD g) (ci := 7) (v := .ref ai_) (C := RX9) (T := TX9) (N := 39) hx hb hts hinX9 hown hK hP 0 rfl rfl 2 (by decide) hf15 (fun _ h9 => h9) rfl dX9_files_205 ?_
                                        refine lv_iload_n hx hb dX9_files_208 rfl (lv_at hl 3 rfl) ?_
                                        refine q_bald hx hb hK hP 1 rfl (8 + (k0 * 64)) rfl (by omega) (by omega) dX9_files_209 ?_
                                        refine q_top (v := f (8 + (k0 * 64))) (hM _ (by omega)) ?_
                                        refine lv_bipush (v := nI 47) hx hb dX9_files_210 (by decide) ?_
                                        refine lv_icmp_eq (tgt := 217) hx hb dX9_files_212 (by decide) (fun c212 => ?_) (fun c212 => ?_)
                                        · skip
                                          have c212 := (ra hfit (by decide)).mp c212
                                          refine lv_iconst (v := nI 0) hx hb dX9_files_217 (by decide) ?_
                                          refine lv_istore (lv' := [(5, .int (nI 0)), (0, .ref mm), (1, .int (nI (cntF f))), (2, .int (nI k0)), (3, .int (nI (8 + (k0 * 64)))), (4, .int (nI ln))]) hx hb dX9_files_218 hl (by decide) rfl (fun ls hl => ?_)
                                          have K220 : ∀ (N_ : Nat) (i5 : Nat), (i5 ≤ 48) → (∀ j, 8 + k0 * 64 ≤ j → j < 8 + k0 * 64 + i5 → (j < 8 + k0 * 64 + ln → pVis (f j &&& 255)) ∧ (¬ j < 8 + k0 * 64 + ln → f j &&& 255 = nI 0)) → (48 - i5) < N_ → ∀ (H : Heap) (locs : List Loc) (ls : Array Slot), va_P (gD g) vwCl [(mm, .inr (7, v0 :: v1 :: .ref ai_ :: .int (nI m_imageSize) :: v4 :: v5 :: v6 :: v7 :: v8 :: v9 :: v10 :: v11 :: v12 :: v13 :: v14 :: v15 :: v16 :: v17 :: v18 :: v19 :: v20 :: v21 :: v22 :: v23 :: v24 :: v25 :: v26 :: v27 :: v28 :: v29 :: v30 :: v31 :: v32 :: v33 :: v34 :: v35 :: v36 :: v37 :: v38 :: [])), (ai_, .inl (gB g, 65535, .inl fi))] H → va_D A [(mm, .inr (7, v0 :: v1 :: .ref ai_ :: .int (nI m_imageSize) :: v4 :: v5 :: v6 :: v7 :: v8 :: v9 :: v10 :: v11 :: v12 :: v13 :: v14 :: v15 :: v16 :: v17 :: v18 :: v19 :: v20 :: v21 :: v22 :: v23 :: v24 :: v25 :: v26 :: v27 :: v28 :: v29 :: v30 :: v31 :: v32 :: v33 :: v34 :: v35 :: v36 :: v37 :: v38 :: [])), (ai_, .inl (gB g, 65535, .inl fi))] → va_S A s.heap H locs → lv_has ls 8 [(0, .ref mm), (1, .int (nI (cntF f))), (2, .int (nI k0)), (3, .int (nI (8 + (k0 * 64)))), (4, .int (nI ln)), (5, .int (nI i5))] → W p l e ({ frames := 1, cells := 0, slots := 0, locals := 25 } : Room) s m args below meth c H locs (0) (0) Q (F0 m 220 ls []) := by
                                            intro N_
                                            induction N_ with
                                            | zero => intro i5 hi5 hna2 hm_; exact absurd hm_ (Nat.not_lt_zero _)
                                            | succ N_ ih_K220 =>
                                              intro i5 hi5 hna2 hm_ H locs ls hP hD hS hl
                                              refine lv_iload hx hb dX9_files_220 (lv_at hl 5 rfl) ?_
                                              refine lv_bipush (v := nI 48) hx hb dX9_files_222 (by decide) ?_
                                              refine lv_icmp_ge (tgt := 275) hx hb dX9_files_224 (by decide) (fun c224 => ?_) (fun c224 => ?_)
                                              · skip
                                                have c224 : 48 ≤ i5 := (nI_leI (a := 48) (b := i5) (by omega) (by omega)).mp c224
                                                have hnR : pNameR f (8 + k0 * 64) := nameR_T hfd c212 (by omega) (by omega) hna2
                                                refine lv_aload_n hx hb dX9_files_275 rfl (lv_at hl 0 rfl) ?_
                                                refine lv_iload_n hx hb dX9_files_276 rfl (lv_at hl 3 rfl) ?_
                                                refine lv_bipush (v := nI 48) hx hb dX9_files_277 (by decide) ?_
                                                refine q_iadd (v := nI (8 + (k0 * 64) + 48)) hx hb dX9_files_279 (nI_add (8 + (k0 * 64)) 48) ?_
                                                refine ct_callV (wr := []) hx hb hml hown hts hK hP hD hS hA hG hl.1 (c_mWordAt l g mm ((v0 : Value)) ((v1 : Value)) ai_ ((.int (nI m_imageSize) : Value)) ((v4 : Value)) ((v5 : Value)) ((v6 : Value)) ((v7 : Value)) ((v8 : Value)) ((v9 : Value)) ((v10 : Value)) ((v11 : Value)) ((v12 : Value)) ((v13 : Value)) ((v14 : Value)) ((v15 : Value)) ((v16 : Value)) ((v17 : Value)) ((v18 : Value)) ((v19 : Value)) ((v20 : Value)) ((v21 : Value)) ((v22 : Value)) ((v23 : Value)) ((v24 : Value)) ((v25 : Value)) ((v26 : Value)) ((v27 : Value)) ((v28 : Value)) ((v29 : Value)) ((v30 : Value)) ((v31 : Value)) ((v32 : Value)) ((v33 : Value)) ((v34 : Value)) ((v35 : Value)) ((v36 : Value)) ((v37 : Value)) ((v38 : Value)) fi f m_imageSize (8 + (k0 * 64) + 48) (by omega) (by assumption) (by omega)) (cwV 1 hts gX9_files_X9_imageWord rfl rfl rfl (by decide +kernel) ⟨Nat.le_of_ble_eq_true rfl, Nat.le_of_ble_eq_true rfl⟩) (va_recv hK hP (ci := 7) (q0 := 0) rfl rfl) rfl rfl (Nat.le_of_ble_eq_true rfl) dX9_files_280 ⟨show 0 + 0 ≤ 0 by omega, show 0 + 0 ≤ 0 by omega⟩ [0, 1] [] rfl rfl (by decide) (by decide) (by decide) (fun r_ w_ H locs hp_ hP hD hS => ?_)
                                                obtain ⟨rfl, rfl⟩ := hp_
                                                have hP : va_P (gD g) vwCl [(mm, .inr (7, v0 :: v1 :: .ref ai_ :: .int (nI m_imageSize) :: v4 :: v5 :: v6 :: v7 :: v8 :: v9 :: v10 :: v11 :: v12 :: v13 :: v14 :: v15 :: v16 :: v17 :: v18 :: v19 :: v20 :: v21 :: v22 :: v23 :: v24 :: v25 :: v26 :: v27 :: v28 :: v29 :: v30 :: v31 :: v32 :: v33 :: v34 :: v35 :: v36 :: v37 :: v38 :: [])), (ai_, .inl (gB g, 65535, .inl fi))] H := hP
                                                have hD : va_D A [(mm, .inr (7, v0 :: v1 :: .ref ai_ :: .int (nI m_imageSize) :: v4 :: v5 :: v6 :: v7 :: v8 :: v9 :: v10 :: v11 :: v12 :: v13 :: v14 :: v15 :: v16 :: v17 :: v18 :: v19 :: v20 :: v21 :: v22 :: v23 :: v24 :: v25 :: v26 :: v27 :: v28 :: v29 :: v30 :: v31 :: v32 :: v33 :: v34 :: v35 :: v36 :: v37 :: v38 :: [])), (ai_, .inl (gB g, 65535, .inl fi))] := hD
                                                refine W.eq (g2 := F0 m 283 ls [.long (lN (u32 (be4 f (8 + (k0 * 64) + 48))))]) rfl ?_
                                                refine lv_aload_n hx hb dX9_files_283 rfl (lv_at hl 0 rfl) ?_
                                                refine lv_iload_n hx hb dX9_files_284 rfl (lv_at hl 3 rfl) ?_
                                                refine lv_bipush (v := nI 52) hx hb dX9_files_285 (by decide) ?_
                                                refine q_iadd (v := nI (8 + (k0 * 64) + 52)) hx hb dX9_files_287 (nI_add (8 + (k0 * 64)) 52) ?_
                                                refine ct_callV (wr := []) hx hb hml hown hts hK hP hD hS hA hG hl.1 (c_mWordAt l g mm ((v0 : Value)) ((v1 : Value)) ai_ ((.int (nI m_imageSize) : Value)) ((v4 : Value)) ((v5 : Value)) ((v6 : Value)) ((v7 : Value)) ((v8 : Value)) ((v9 : Value)) ((v10 : Value)) ((v11 : Value)) ((v12 : Value)) ((v13 : Value)) ((v14 : Value)) ((v15 : Value)) ((v16 : Value)) ((v17 : Value)) ((v18 : Value)) ((v19 : Value)) ((v20 : Value)) ((v21 : Value)) ((v22 : Value)) ((v23 : Value)) ((v24 : Value)) ((v25 : Value)) ((v26 : Value)) ((v27 : Value)) ((v28 : Value)) ((v29 : Value)) ((v30 : Value)) ((v31 : Value)) ((v32 : Value)) ((v33 : Value)) ((v34 : Value)) ((v35 : Value)) ((v36 : Value)) ((v37 : Value)) ((v38 : Value)) fi f m_imageSize (8 + (k0 * 64) + 52) (by omega) (by assumption) (by omega)) (cwV 1 hts gX9_files_X9_imageWord rfl rfl rfl (by decide +kernel) ⟨Nat.le_of_ble_eq_true rfl, Nat.le_of_ble_eq_true rfl⟩) (va_recv hK hP (ci := 7) (q0 := 0) rfl rfl) rfl rfl (Nat.le_of_ble_eq_true rfl) dX9_files_288 ⟨show 0 + 0 ≤ 0 by omega, show 0 + 0 ≤ 0 by omega⟩ [0, 1] [] rfl rfl (by decide) (by decide) (by decide) (fun r_ w_ H locs hp_ hP hD hS => ?_)
                                                obtain ⟨rfl, rfl⟩ := hp_
                                                have hP : va_P (gD g) vwCl [(mm, .inr (7, v0 :: v1 :: .ref ai_ :: .int (nI m_imageSize) :: v4 :: v5 :: v6 :: v7 :: v8 :: v9 :: v10 :: v11 :: v12 :: v13 :: v14 :: v15 :: v16 :: v17 :: v18 :: v19 :: v20 :: v21 :: v22 :: v23 :: v24 :: v25 :: v26 :: v27 :: v28 :: v29 :: v30 :: v31 :: v32 :: v33 :: v34 :: v35 :: v36 :: v37 :: v38 :: [])), (ai_, .inl (gB g, 65535, .inl fi))] H := hP
                                                have hD : va_D A [(mm, .inr (7, v0 :: v1 :: .ref ai_ :: .int (nI m_imageSize) :: v4 :: v5 :: v6 :: v7 :: v8 :: v9 :: v10 :: v11 :: v12 :: v13 :: v14 :: v15 :: v16 :: v17 :: v18 :: v19 :: v20 :: v21 :: v22 :: v23 :: v24 :: v25 :: v26 :: v27 :: v28 :: v29 :: v30 :: v31 :: v32 :: v33 :: v34 :: v35 :: v36 :: v37 :: v38 :: [])), (ai_, .inl (gB g, 65535, .inl fi))] := hD
                                                refine W.eq (g2 := F0 m 291 ls [.long (lN (u32 (be4 f (8 + (k0 * 64) + 52)))), .long (lN (u32 (be4 f (8 + (k0 * 64) + 48))))]) rfl ?_
                                                refine lv_ladd hx hb dX9_files_291 ?_
                                                refine q_topl (v := lN (u32 (be4 f (8 + k0 * 64 + 48)) + u32 (be4 f (8 + k0 * 64 + 52)))) (lN_add _ _) ?_
                                                refine lv_aload_n hx hb dX9_files_292 rfl (lv_at hl 0 rfl) ?_
                                                refine va_get (D := gD g) (ci := 7) (v := .int (nI m_imageSize)) (C := RX9) (T := TX9) (N := 39) hx hb hts hinX9 hown hK hP 0 rfl rfl 3 (by decide) hf54 (fun _ h9 => h9) rfl dX9_files_293 ?_
                                                refine lv_i2l (v := lN m_imageSize) hx hb dX9_files_296 (nI_l (by omega)) ?_
                                                refine W.lcmp hx hb dX9_files_297 ?_
                                                refine lv_if_gt (tgt := 314) hx hb dX9_files_298 (by decide) (fun c298 => ?_) (fun c298 => ?_)
                                                · skip
                                                  have hu1 := u32_lt (be4 f (8 + k0 * 64 + 48))
                                                  have hu2 := u32_lt (be4 f (8 + k0 * 64 + 52))
                                                  have c298 : m_imageSize < u32 (be4 f (8 + k0 * 64 + 48)) + u32 (be4 f (8 + k0 * 64 + 52)) := (pk_lLT (by omega) (by omega)).mp ((lg_cmp_gt _ _).mp c298)
                                                  refine lv_iconst (v := (-1)) hx hb dX9_files_314 (by decide) ?_
                                                  refine ct_iret (w := [(mm, .inr (7, v0 :: v1 :: .ref ai_ :: .int (nI m_imageSize) :: v4 :: v5 :: v6 :: v7 :: v8 :: v9 :: v10 :: v11 :: v12 :: v13 :: v14 :: v15 :: v16 :: v17 :: v18 :: v19 :: v20 :: v21 :: v22 :: v23 :: v24 :: v25 :: v26 :: v27 :: v28 :: v29 :: v30 :: v31 :: v32 :: v33 :: v34 :: v35 :: v36 :: v37 :: v38 :: [])), (ai_, .inl (gB g, 65535, .inl fi))]) hx hb hr rfl hlocks hQ hAe hK (hP.sub [0, 1] rfl) (hD.sub [0, 1] (by decide) rfl) hS (by omega) (by omega) dX9_files_315 ?_
                                                  refine Or.inl (?_)
                                                  exact ⟨rfl, rfl, by first | exact fun z => hna (z.2.2.2.2.2.2.2 k0 (by omega)).1.1 | exact fun z => absurd (z.2.2.2.2.2.2.2 k0 (by omega)).1.2.1 (by omega) | exact fun z => c311 (z.2.2.2.2.2.2.2 k0 (by omega)).1.2.2 | exact fun z => (z.2.2.2.2.2.2.2 k0 (by omega)).2 j5 (by omega) hsame⟩
                                                · skip
                                                  have hu1 := u32_lt (be4 f (8 + k0 * 64 + 48))
                                                  have hu2 := u32_lt (be4 f (8 + k0 * 64 + 52))
                                                  have c298 : ¬ m_imageSize < u32 (be4 f (8 + k0 * 64 + 48)) + u32 (be4 f (8 + k0 * 64 + 52)) := fun z => c298 ((lg_cmp_gt _ _).mpr ((pk_lLT (by omega) (by omega)).mpr z))
                                                  refine lv_aload_n hx hb dX9_files_301 rfl (lv_at hl 0 rfl) ?_
                                                  refine lv_iload_n hx hb dX9_files_302 rfl (lv_at hl 3 rfl) ?_
                                                  refine lv_bipush (v := nI 60) hx hb dX9_files_303 (by decide) ?_
                                                  refine q_iadd (v := nI (8 + (k0 * 64) + 60)) hx hb dX9_files_305 (nI_add (8 + (k0 * 64)) 60) ?_
                                                  refine ct_callV (wr := []) hx hb hml hown hts hK hP hD hS hA hG hl.1 (c_mWordAt l g mm ((v0 : Value)) ((v1 : Value)) ai_ ((.int (nI m_imageSize) : Value)) ((v4 : Value)) ((v5 : Value)) ((v6 : Value)) ((v7 : Value)) ((v8 : Value)) ((v9 : Value)) ((v10 : Value)) ((v11 : Value)) ((v12 : Value)) ((v13 : Value)) ((v14 : Value)) ((v15 : Value)) ((v16 : Value)) ((v17 : Value)) ((v18 : Value)) ((v19 : Value)) ((v20 : Value)) ((v21 : Value)) ((v22 : Value)) ((v23 : Value)) ((v24 : Value)) ((v25 : Value)) ((v26 : Value)) ((v27 : Value)) ((v28 : Value)) ((v29 : Value)) ((v30 : Value)) ((v31 : Value)) ((v32 : Value)) ((v33 : Value)) ((v34 : Value)) ((v35 : Value)) ((v36 : Value)) ((v37 : Value)) ((v38 : Value)) fi f m_imageSize (8 + (k0 * 64) + 60) (by omega) (by assumption) (by omega)) (cwV 1 hts gX9_files_X9_imageWord rfl rfl rfl (by decide +kernel) ⟨Nat.le_of_ble_eq_true rfl, Nat.le_of_ble_eq_true rfl⟩) (va_recv hK hP (ci := 7) (q0 := 0) rfl rfl) rfl rfl (Nat.le_of_ble_eq_true rfl) dX9_files_306 ⟨show 0 + 0 ≤ 0 by omega, show 0 + 0 ≤ 0 by omega⟩ [0, 1] [] rfl rfl (by decide) (by decide) (by decide) (fun r_ w_ H locs hp_ hP hD hS => ?_)
                                                  obtain ⟨rfl, rfl⟩ := hp_
                                                  have hP : va_P (gD g) vwCl [(mm, .inr (7, v0 :: v1 :: .ref ai_ :: .int (nI m_imageSize) :: v4 :: v5 :: v6 :: v7 :: v8 :: v9 :: v10 :: v11 :: v12 :: v13 :: v14 :: v15 :: v16 :: v17 :: v18 :: v19 :: v20 :: v21 :: v22 :: v23 :: v24 :: v25 :: v26 :: v27 :: v28 :: v29 :: v30 :: v31 :: v32 :: v33 :: v34 :: v35 :: v36 :: v37 :: v38 :: [])), (ai_, .inl (gB g, 65535, .inl fi))] H := hP
                                                  have hD : va_D A [(mm, .inr (7, v0 :: v1 :: .ref ai_ :: .int (nI m_imageSize) :: v4 :: v5 :: v6 :: v7 :: v8 :: v9 :: v10 :: v11 :: v12 :: v13 :: v14 :: v15 :: v16 :: v17 :: v18 :: v19 :: v20 :: v21 :: v22 :: v23 :: v24 :: v25 :: v26 :: v27 :: v28 :: v29 :: v30 :: v31 :: v32 :: v33 :: v34 :: v35 :: v36 :: v37 :: v38 :: [])), (ai_, .inl (gB g, 65535, .inl fi))] := hD
                                                  refine W.eq (g2 := F0 m 309 ls [.long (lN (u32 (be4 f (8 + (k0 * 64) + 60))))]) rfl ?_
                                                  refine lv_lconst (v := 0) hx hb dX9_files_309 rfl ?_
                                                  refine W.lcmp hx hb dX9_files_310 ?_
                                                  refine lv_if_eq (tgt := 316) hx hb dX9_files_311 (by decide) (fun c311 => ?_) (fun c311 => ?_)
                                                  · skip
                                                    have c311 := u32_0.mp ((lg_cmp_eq _ _).mp c311)
                                                    refine lv_iconst (v := nI 0) hx hb dX9_files_316 (by decide) ?_
                                                    refine lv_istore (lv' := [(5, .int (nI 0)), (0, .ref mm), (1, .int (nI (cntF f))), (2, .int (nI k0)), (3, .int (nI (8 + (k0 * 64)))), (4, .int (nI ln))]) hx hb dX9_files_317 hl (by decide) rfl (fun ls hl => ?_)
                                                    have K319 : ∀ (N_ : Nat) (j5 : Nat), (j5 ≤ k0) → (∀ t, t < j5 → ¬ pSameN f (8 + t * 64) (8 + k0 * 64)) → (k0 - j5) < N_ → ∀ (H : Heap) (locs : List Loc) (ls : Array Slot), va_P (gD g) vwCl [(mm, .inr (7, v0 :: v1 :: .ref ai_ :: .int (nI m_imageSize) :: v4 :: v5 :: v6 :: v7 :: v8 :: v9 :: v10 :: v11 :: v12 :: v13 :: v14 :: v15 :: v16 :: v17 :: v18 :: v19 :: v20 :: v21 :: v22 :: v23 :: v24 :: v25 :: v26 :: v27 :: v28 :: v29 :: v30 :: v31 :: v32 :: v33 :: v34 :: v35 :: v36 :: v37 :: v38 :: [])), (ai_, .inl (gB g, 65535, .inl fi))] H → va_D A [(mm, .inr (7, v0 :: v1 :: .ref ai_ :: .int (nI m_imageSize) :: v4 :: v5 :: v6 :: v7 :: v8 :: v9 :: v10 :: v11 :: v12 :: v13 :: v14 :: v15 :: v16 :: v17 :: v18 :: v19 :: v20 :: v21 :: v22 :: v23 :: v24 :: v25 :: v26 :: v27 :: v28 :: v29 :: v30 :: v31 :: v32 :: v33 :: v34 :: v35 :: v36 :: v37 :: v38 :: [])), (ai_, .inl (gB g, 65535, .inl fi))] → va_S A s.heap H locs → lv_has ls 8 [(0, .ref mm), (1, .int (nI (cntF f))), (2, .int (nI k0)), (3, .int (nI (8 + (k0 * 64)))), (4, .int (nI ln)), (5, .int (nI j5))] → W p l e ({ frames := 1, cells := 0, slots := 0, locals := 25 } : Room) s m args below meth c H locs (0) (0) Q (F0 m 319 ls []) := by
                                                      intro N_
                                                      induction N_ with
                                                      | zero => intro j5 hj5 hnew hm_; exact absurd hm_ (Nat.not_lt_zero _)
                                                      | succ N_ ih_K319 =>
                                                        intro j5 hj5 hnew hm_ H locs ls hP hD hS hl
                                                        refine lv_iload hx hb dX9_files_319 (lv_at hl 5 rfl) ?_
                                                        refine lv_iload_n hx hb dX9_files_321 rfl (lv_at hl 2 rfl) ?_
                                                        refine lv_icmp_ge (tgt := 397) hx hb dX9_files_322 (by decide) (fun c322 => ?_) (fun c322 => ?_)
                                                        · skip
                                                          have c322 : k0 ≤ j5 := (nI_leI (a := k0) (b := j5) (by omega) (by omega)).mp c322
                                                          refine lv_iinc (v := nI (k0 + 1)) (lv' := [(2, .int (nI (k0 + 1))), (0, .ref mm), (1, .int (nI (cntF f))), (3, .int (nI (8 + (k0 * 64)))), (4, .int (nI ln)), (5, .int (nI j5))]) hx hb dX9_files_397 hl (k := 2) rfl (nI_inc k0 1) (by decide) rfl (fun ls hl => ?_)
                                                          refine lv_goto (tgt := 151) hx hb dX9_files_400 (by decide) ?_
                                                          exact ih_K151 (k0 + 1) (by omega) (by exact lt_s hall ⟨⟨hnR, by omega, c311⟩, fun t ht => hnew t (by omega)⟩) (by omega) _ _ _ (hP.sub [0, 1] rfl) (hD.sub [0, 1] (by decide) rfl) hS (lv_sub hl [1, 2, 0] rfl)
                                                        · skip
                                                          have c322 : ¬ (k0 ≤ j5) := fun z => c322 ((nI_leI (a := k0) (b := j5) (by omega) (by omega)).mpr z)
                                                          refine lv_iconst (v := nI 1) hx hb dX9_files_325 (by decide) ?_
                                                          refine lv_istore (lv' := [(6, .int (nI 1)), (0, .ref mm), (1, .int (nI (cntF f))), (2, .int (nI k0)), (3, .int (nI (8 + (k0 * 64)))), (4, .int (nI ln)), (5, .int (nI j5))]) hx hb dX9_files_326 hl (by decide) rfl (fun ls hl => ?_)
                                                          refine lv_iconst (v := nI 0) hx hb dX9_files_328 (by decide) ?_
                                                          refine lv_istore (lv' := [(7, .int (nI 0)), (6, .int (nI 1)), (0, .ref mm), (1, .int (nI (cntF f))), (2, .int (nI k0)), (3, .int (nI (8 + (k0 * 64)))), (4, .int (nI ln)), (5, .int (nI j5))]) hx hb dX9_files_329 hl (by decide) rfl (fun ls hl => ?_)
                                                          have K331 : ∀ (N_ : Nat) (i7 : Nat) (sm : Nat), (i7 ≤ 48) → ((sm = 1 ∧ ∀ j, j < i7 → f (8 + k0 * 64 + j) &&& 255 = f (8 + j5 * 64 + j) &&& 255) ∨ (sm = 0 ∧ ∃ j, j < 48 ∧ ¬ (f (8 + k0 * 64 + j) &&& 255 = f (8 + j5 * 64 + j) &&& 255))) → (48 - i7) < N_ → ∀ (H : Heap) (locs : List Loc) (ls : Array Slot), va_P (gD g) vwCl [(mm, .inr (7, v0 :: v1 :: .ref ai_ :: .int (nI m_imageSize) :: v4 :: v5 :: v6 :: v7 :: v8 :: v9 :: v10 :: v11 :: v12 :: v13 :: v14 :: v15 :: v16 :: v17 :: v18 :: v19 :: v20 :: v21 :: v22 :: v23 :: v24 :: v25 :: v26 :: v27 :: v28 :: v29 :: v30 :: v31 :: v32 :: v33 :: v34 :: v35 :: v36 :: v37 :: v38 :: [])), (ai_, .inl (gB g, 65535, .inl fi))] H → va_D A [(mm, .inr (7, v0 :: v1 :: .ref ai_ :: .int (nI m_imageSize) :: v4 :: v5 :: v6 :: v7 :: v8 :: v9 :: v10 :: v11 :: v12 :: v13 :: v14 :: v15 :: v16 :: v17 :: v18 :: v19 :: v20 :: v21 :: v22 :: v23 :: v24 :: v25 :: v26 :: v27 :: v28 :: v29 :: v30 :: v31 :: v32 :: v33 :: v34 :: v35 :: v36 :: v37 :: v38 :: [])), (ai_, .inl (gB g, 65535, .inl fi))] → va_S A s.heap H locs → lv_has ls 8 [(0, .ref mm), (1, .int (nI (cntF f))), (2, .int (nI k0)), (3, .int (nI (8 + (k0 * 64)))), (4, .int (nI ln)), (5, .int (nI j5)), (6, .int (nI sm)), (7, .int (nI i7))] → W p l e ({ frames := 1, cells := 0, slots := 0, locals := 25 } : Room) s m args below meth c H locs (0) (0) Q (F0 m 331 ls []) := by
                                                            intro N_
                                                            induction N_ with
                                                            | zero => intro i7 sm hi7 hsm hm_; exact absurd hm_ (Nat.not_lt_zero _)
                                                            | succ N_ ih_K331 =>
                                                              intro i7 sm hi7 hsm hm_ H locs ls hP hD hS hl
                                                              have hsm1 : sm ≤ 1 := by rcases hsm with z_ | z_ <;> omega
                                                              refine lv_iload hx hb dX9_files_331 (lv_at hl 7 rfl) ?_
                                                              refine lv_bipush (v := nI 48) hx hb dX9_files_333 (by decide) ?_
                                                              refine lv_icmp_ge (tgt := 384) hx hb dX9_files_335 (by decide) (fun c335 => ?_) (fun c335 => ?_)
                                                              · skip
                                                                have c335 : 48 ≤ i7 := (nI_leI (a := 48) (b := i7) (by omega) (by omega)).mp c335
                                                                refine lv_iload hx hb dX9_files_384 (lv_at hl 6 rfl) ?_
                                                                refine lv_if_eq (tgt := 391) hx hb dX9_files_386 (by decide) (fun c386 => ?_) (fun c386 => ?_)
                                                                · skip
                                                                  have c386 : sm = 0 := (nI_eq (a := sm) (b := 0) (by omega) (by omega)).mp c386
                                                                  have hdiff : ¬ pSameN f (8 + j5 * 64) (8 + k0 * 64) := fun z => (hsm.elim (fun w => absurd w.1 (by omega)) (fun w => w.2.elim (fun j hj => hj.2 (z j hj.1).symm)))
                                                                  refine lv_iinc (v := nI (j5 + 1)) (lv' := [(5, .int (nI (j5 + 1))), (0, .ref mm), (1, .int (nI (cntF f))), (2, .int (nI k0)), (3, .int (nI (8 + (k0 * 64)))), (4, .int (nI ln)), (6, .int (nI sm)), (7, .int (nI i7))]) hx hb dX9_files_391 hl (k := 5) rfl (nI_inc j5 1) (by decide) rfl (fun ls hl => ?_)
                                                                  refine lv_goto (tgt := 319) hx hb dX9_files_394 (by decide) ?_
                                                                  exact ih_K319 (j5 + 1) (by omega) (by exact lt_s hnew hdiff) (by omega) _ _ _ (hP.sub [0, 1] rfl) (hD.sub [0, 1] (by decide) rfl) hS (lv_sub hl [1, 2, 3, 4, 5, 0] rfl)
                                                                · skip
                                                                  have c386 : ¬ (sm = 0) := fun z => c386 ((nI_eq (a := sm) (b := 0) (by omega) (by omega)).mpr z)
                                                                  have hsame : pSameN f (8 + j5 * 64) (8 + k0 * 64) := fun j hj => (hsm.elim (fun w => (w.2 j (by omega)).symm) (fun w => absurd w.1 (by omega)))
                                                                  refine lv_iconst (v := (-1)) hx hb dX9_files_389 (by decide) ?_
                                                                  refine ct_iret (w := [(mm, .inr (7, v0 :: v1 :: .ref ai_ :: .int (nI m_imageSize) :: v4 :: v5 :: v6 :: v7 :: v8 :: v9 :: v10 :: v11 :: v12 :: v13 :: v14 :: v15 :: v16 :: v17 :: v18 :: v19 :: v20 :: v21 :: v22 :: v23 :: v24 :: v25 :: v26 :: v27 :: v28 :: v29 :: v30 :: v31 :: v32 :: v33 :: v34 :: v35 :: v36 :: v37 :: v38 :: [])), (ai_, .inl (gB g, 65535, .inl fi))]) hx hb hr rfl hlocks hQ hAe hK (hP.sub [0, 1] rfl) (hD.sub [0, 1] (by decide) rfl) hS (by omega) (by omega) dX9_files_390 ?_
                                                                  refine Or.inl (?_)
                                                                  exact ⟨rfl, rfl, by first | exact fun z => hna (z.2.2.2.2.2.2.2 k0 (by omega)).1.1 | exact fun z => absurd (z.2.2.2.2.2.2.2 k0 (by omega)).1.2.1 (by omega) | exact fun z => c311 (z.2.2.2.2.2.2.2 k0 (by omega)).1.2.2 | exact fun z => (z.2.2.2.2.2.2.2 k0 (by omega)).2 j5 (by omega) hsame⟩
                                                              · skip
                                                                have c335 : ¬ (48 ≤ i7) := fun z => c335 ((nI_leI (a := 48) (b := i7) (by omega) (by omega)).mpr z)
                                                                refine lv_iload hx hb dX9_files_338 (lv_at hl 6 rfl) ?_
                                                                refine lv_if_eq (tgt := 375) hx hb dX9_files_340 (by decide) (fun c340 => ?_) (fun c340 => ?_)
                                                                · skip
                                                                  have c340 : sm = 0 := (nI_eq (a := sm) (b := 0) (by omega) (by omega)).mp c340
                                                                  refine lv_iconst (v := nI 0) hx hb dX9_files_375 (by decide) ?_
                                                                  refine lv_istore (lv' := [(6, .int (nI 0)), (0, .ref mm), (1, .int (nI (cntF f))), (2, .int (nI k0)), (3, .int (nI (8 + (k0 * 64)))), (4, .int (nI ln)), (5, .int (nI j5)), (7, .int (nI i7))]) hx hb dX9_files_376 hl (by decide) rfl (fun ls hl => ?_)
                                                                  refine lv_iinc (v := nI (i7 + 1)) (lv' := [(7, .int (nI (i7 + 1))), (6, .int (nI 0)), (0, .ref mm), (1, .int (nI (cntF f))), (2, .int (nI k0)), (3, .int (nI (8 + (k0 * 64)))), (4, .int (nI ln)), (5, .int (nI j5))]) hx hb dX9_files_378 hl (k := 7) rfl (nI_inc i7 1) (by decide) rfl (fun ls hl => ?_)
                                                                  refine lv_goto (tgt := 331) hx hb dX9_files_381 (by decide) ?_
                                                                  exact ih_K331 (i7 + 1) 0 (by omega) (by first | exact Or.inl ⟨rfl, lt_s (hsm.elim (fun z => z.2) (fun z => absurd z.1 c340)) ((raw_eq2 (hfit _) (hfit _)).mp c368)⟩ | exact Or.inr ⟨rfl, i7, by omega, fun z => c368 ((raw_eq2 (hfit _) (hfit _)).mpr z)⟩ | exact Or.inr ⟨rfl, hsm.elim (fun z => absurd z.1 (by omega)) (fun z => z.2)⟩) (by omega) _ _ _ (hP.sub [0, 1] rfl) (hD.sub [0, 1] (by decide) rfl) hS (lv_sub hl [2, 3, 4, 5, 6, 7, 1, 0] rfl)
                                                                · skip
                                                                  have c340 : ¬ (sm = 0) := fun z => c340 ((nI_eq (a := sm) (b := 0) (by omega) (by omega)).mpr z)
                                                                  refine lv_aload_n hx hb dX9_files_343 rfl (lv_at hl 0 rfl) ?_
                                                                  refine va_get (D := gD g) (ci := 7) (v := .ref ai_) (C := RX9) (T := TX9) (N := 39) hx hb hts hinX9 hown hK hP 0 rfl rfl 2 (by decide) hf15 (fun _ h9 => h9) rfl dX9_files_344 ?_
                                                                  refine lv_iload_n hx hb dX9_files_347 rfl (lv_at hl 3 rfl) ?_
                                                                  refine lv_iload hx hb dX9_files_348 (lv_at hl 7 rfl) ?_
                                                                  refine q_iadd (v := nI (8 + (k0 * 64) + i7)) hx hb dX9_files_350 (nI_add (8 + (k0 * 64)) i7) ?_
                                                                  refine q_bald hx hb hK hP 1 rfl (8 + (k0 * 64) + i7) rfl (by omega) (by omega) dX9_files_351 ?_
                                                                  refine q_top (v := f (8 + (k0 * 64) + i7)) (hM _ (by omega)) ?_
                                                                  refine lv_aload_n hx hb dX9_files_352 rfl (lv_at hl 0 rfl) ?_
                                                                  refine va_get (D := gD g) (ci := 7) (v := .ref ai_) (C := RX9) (T := TX9) (N := 39) hx hb hts hinX9 hown hK hP 0 rfl rfl 2 (by decide) hf15 (fun _ h9 => h9) rfl dX9_files_353 ?_
                                                                  refine lv_bipush (v := nI 8) hx hb dX9_files_356 (by decide) ?_
                                                                  refine lv_bipush (v := nI 64) hx hb dX9_files_358 (by decide) ?_
                                                                  refine lv_iload hx hb dX9_files_360 (lv_at hl 5 rfl) ?_
                                                                  refine q_imul (v := nI (j5 * 64)) hx hb dX9_files_362 (by rw [pk_mul, Nat.mul_comm]) ?_
                                                                  refine q_iadd (v := nI (8 + (j5 * 64))) hx hb dX9_files_363 (nI_add 8 (j5 * 64)) ?_
                                                                  refine lv_iload hx hb dX9_files_364 (lv_at hl 7 rfl) ?_
                                                                  refine q_iadd (v := nI (8 + (j5 * 64) + i7)) hx hb dX9_files_366 (nI_add (8 + (j5 * 64)) i7) ?_
                                                                  refine q_bald hx hb hK hP 1 rfl (8 + (j5 * 64) + i7) rfl (by omega) (by omega) dX9_files_367 ?_
                                                                  refine q_top (v := f (8 + (j5 * 64) + i7)) (hM _ (by omega)) ?_
                                                                  refine lv_icmp_ne (tgt := 375) hx hb dX9_files_368 (by decide) (fun c368 => ?_) (fun c368 => ?_)
                                                                  · skip
                                                                    refine lv_iconst (v := nI 0) hx hb dX9_files_375 (by decide) ?_
                                                                    refine lv_istore (lv' := [(6, .int (nI 0)), (0, .ref mm), (1, .int (nI (cntF f))), (2, .int (nI k0)), (3, .int (nI (8 + (k0 * 64)))), (4, .int (nI ln)), (5, .int (nI j5)), (7, .int (nI i7))]) hx hb dX9_files_376 hl (by decide) rfl (fun ls hl => ?_)
                                                                    refine lv_iinc (v := nI (i7 + 1)) (lv' := [(7, .int (nI (i7 + 1))), (6, .int (nI 0)), (0, .ref mm), (1, .int (nI (cntF f))), (2, .int (nI k0)), (3, .int (nI (8 + (k0 * 64)))), (4, .int (nI ln)), (5, .int (nI j5))]) hx hb dX9_files_378 hl (k := 7) rfl (nI_inc i7 1) (by decide) rfl (fun ls hl => ?_)
                                                                    refine lv_goto (tgt := 331) hx hb dX9_files_381 (by decide) ?_
                                                                    exact ih_K331 (i7 + 1) 0 (by omega) (by first | exact Or.inl ⟨rfl, lt_s (hsm.elim (fun z => z.2) (fun z => absurd z.1 c340)) ((raw_eq2 (hfit _) (hfit _)).mp c368)⟩ | exact Or.inr ⟨rfl, i7, by omega, fun z => c368 ((raw_eq2 (hfit _) (hfit _)).mpr z)⟩ | exact Or.inr ⟨rfl, hsm.elim (fun z => absurd z.1 (by omega)) (fun z => z.2)⟩) (by omega) _ _ _ (hP.sub [0, 1] rfl) (hD.sub [0, 1] (by decide) rfl) hS (lv_sub hl [2, 3, 4, 5, 6, 7, 1, 0] rfl)
                                                                  · skip
                                                                    refine lv_iconst (v := nI 1) hx hb dX9_files_371 (by decide) ?_
                                                                    refine lv_goto (tgt := 376) hx hb dX9_files_372 (by decide) ?_
                                                                    refine lv_istore (lv' := [(6, .int (nI 1)), (0, .ref mm), (1, .int (nI (cntF f))), (2, .int (nI k0)), (3, .int (nI (8 + (k0 * 64)))), (4, .int (nI ln)), (5, .int (nI j5)), (7, .int (nI i7))]) hx hb dX9_files_376 hl (by decide) rfl (fun ls hl => ?_)
                                                                    refine lv_iinc (v := nI (i7 + 1)) (lv' := [(7, .int (nI (i7 + 1))), (6, .int (nI 1)), (0, .ref mm), (1, .int (nI (cntF f))), (2, .int (nI k0)), (3, .int (nI (8 + (k0 * 64)))), (4, .int (nI ln)), (5, .int (nI j5))]) hx hb dX9_files_378 hl (k := 7) rfl (nI_inc i7 1) (by decide) rfl (fun ls hl => ?_)
                                                                    refine lv_goto (tgt := 331) hx hb dX9_files_381 (by decide) ?_
                                                                    exact ih_K331 (i7 + 1) 1 (by omega) (by first | exact Or.inl ⟨rfl, lt_s (hsm.elim (fun z => z.2) (fun z => absurd z.1 c340)) ((raw_eq2 (hfit _) (hfit _)).mp c368)⟩ | exact Or.inr ⟨rfl, i7, by omega, fun z => c368 ((raw_eq2 (hfit _) (hfit _)).mpr z)⟩ | exact Or.inr ⟨rfl, hsm.elim (fun z => absurd z.1 (by omega)) (fun z => z.2)⟩) (by omega) _ _ _ (hP.sub [0, 1] rfl) (hD.sub [0, 1] (by decide) rfl) hS (lv_sub hl [2, 3, 4, 5, 6, 7, 1, 0] rfl)
                                                          exact K331 ((48 - 0) + 1) 0 1 (by omega) (by exact Or.inl ⟨rfl, fun j hj => absurd hj (Nat.not_lt_zero _)⟩) (Nat.lt_succ_self _) _ _ _ (hP.sub [0, 1] rfl) (hD.sub [0, 1] (by decide) rfl) hS (lv_sub hl [2, 3, 4, 5, 6, 7, 1, 0] rfl)
                                                    exact K319 ((k0 - 0) + 1) 0 (by omega) (by intro j h1; omega) (Nat.lt_succ_self _) _ _ _ (hP.sub [0, 1] rfl) (hD.sub [0, 1] (by decide) rfl) hS (lv_sub hl [1, 2, 3, 4, 5, 0] rfl)
                                                  · skip
                                                    have c311 : ¬ be4 f (8 + k0 * 64 + 60) = nI 0 := fun z => c311 ((lg_cmp_eq _ _).mpr (u32_0.mpr z))
                                                    refine lv_iconst (v := (-1)) hx hb dX9_files_314 (by decide) ?_
                                                    refine ct_iret (w := [(mm, .inr (7, v0 :: v1 :: .ref ai_ :: .int (nI m_imageSize) :: v4 :: v5 :: v6 :: v7 :: v8 :: v9 :: v10 :: v11 :: v12 :: v13 :: v14 :: v15 :: v16 :: v17 :: v18 :: v19 :: v20 :: v21 :: v22 :: v23 :: v24 :: v25 :: v26 :: v27 :: v28 :: v29 :: v30 :: v31 :: v32 :: v33 :: v34 :: v35 :: v36 :: v37 :: v38 :: [])), (ai_, .inl (gB g, 65535, .inl fi))]) hx hb hr rfl hlocks hQ hAe hK (hP.sub [0, 1] rfl) (hD.sub [0, 1] (by decide) rfl) hS (by omega) (by omega) dX9_files_315 ?_
                                                    refine Or.inl (?_)
                                                    exact ⟨rfl, rfl, by first | exact fun z => hna (z.2.2.2.2.2.2.2 k0 (by omega)).1.1 | exact fun z => absurd (z.2.2.2.2.2.2.2 k0 (by omega)).1.2.1 (by omega) | exact fun z => c311 (z.2.2.2.2.2.2.2 k0 (by omega)).1.2.2 | exact fun z => (z.2.2.2.2.2.2.2 k0 (by omega)).2 j5 (by omega) hsame⟩
                                              · skip
                                                have c224 : ¬ (48 ≤ i5) := fun z => c224 ((nI_leI (a := 48) (b := i5) (by omega) (by omega)).mpr z)
                                                refine lv_aload_n hx hb dX9_files_227 rfl (lv_at hl 0 rfl) ?_
                                                refine va_get (D := gD g) (ci := 7) (v := .ref ai_) (C := RX9) (T := TX9) (N := 39) hx hb hts hinX9 hown hK hP 0 rfl rfl 2 (by decide) hf15 (fun _ h9 => h9) rfl dX9_files_228 ?_
                                                refine lv_iload_n hx hb dX9_files_231 rfl (lv_at hl 3 rfl) ?_
                                                refine lv_iload hx hb dX9_files_232 (lv_at hl 5 rfl) ?_
                                                refine q_iadd (v := nI (8 + (k0 * 64) + i5)) hx hb dX9_files_234 (nI_add (8 + (k0 * 64)) i5) ?_
                                                refine q_bald hx hb hK hP 1 rfl (8 + (k0 * 64) + i5) rfl (by omega) (by omega) dX9_files_235 ?_
                                                refine q_top (v := f (8 + (k0 * 64) + i5)) (hM _ (by omega)) ?_
                                                refine lv_istore (lv' := [(6, .int (f (8 + (k0 * 64) + i5))), (0, .ref mm), (1, .int (nI (cntF f))), (2, .int (nI k0)), (3, .int (nI (8 + (k0 * 64)))), (4, .int (nI ln)), (5, .int (nI i5))]) hx hb dX9_files_236 hl (by decide) rfl (fun ls hl => ?_)
                                                refine lv_iload hx hb dX9_files_238 (lv_at hl 6 rfl) ?_
                                                refine lv_iload hx hb dX9_files_240 (lv_at hl 5 rfl) ?_
                                                refine lv_icmp_ge (tgt := 262) hx hb dX9_files_242 (by decide) (fun c242 => ?_) (fun c242 => ?_)
                                                · skip
                                                  have c242 : ln ≤ i5 := (nI_leI (a := ln) (b := i5) (by omega) (by omega)).mp c242
                                                  refine lv_iload hx hb dX9_files_262 (lv_at hl 0 rfl) ?_
                                                  refine lv_if_eq (tgt := 269) hx hb dX9_files_264 (by decide) (fun c264 => ?_) (fun c264 => ?_)
                                                  · skip
                                                    refine lv_iinc (v := nI (i5 + 1)) (lv' := [(5, .int (nI (i5 + 1))), (6, .int (f (8 + (k0 * 64) + i5))), (0, .ref mm), (1, .int (nI (cntF f))), (2, .int (nI k0)), (3, .int (nI (8 + (k0 * 64)))), (4, .int (nI ln))]) hx hb dX9_files_269 hl (k := 6) rfl (nI_inc i5 1) (by decide) rfl (fun ls hl => ?_)
                                                    refine lv_goto (tgt := 220) hx hb dX9_files_272 (by decide) ?_
                                                    exact ih_K220 (i5 + 1) (by omega) (by first | exact all_s (i := 8 + k0 * 64 + i5) hna2 ⟨fun _ => (raw_vis (hfit _)).mpr ⟨c249, Int32.not_lt.mpr c256⟩, fun z => absurd (show 8 + k0 * 64 + i5 < 8 + k0 * 64 + ln by omega) z⟩ | exact all_s (i := 8 + k0 * 64 + i5) hna2 ⟨fun z => absurd z (by omega), fun _ => (ra0 hfit).mp c264⟩) (by omega) _ _ _ (hP.sub [0, 1] rfl) (hD.sub [0, 1] (by decide) rfl) hS (lv_sub hl [2, 3, 4, 5, 6, 0] rfl)
                                                  · skip
                                                    have hna : ¬ pNameR f (8 + k0 * 64) := nameR_F4 hfd (i := 8 + k0 * 64 + i5) (by omega) (by omega) (by omega) (fun z => c264 ((ra0 hfit).mpr z))
                                                    refine lv_iconst (v := (-1)) hx hb dX9_files_267 (by decide) ?_
                                                    refine ct_iret (w := [(mm, .inr (7, v0 :: v1 :: .ref ai_ :: .int (nI m_imageSize) :: v4 :: v5 :: v6 :: v7 :: v8 :: v9 :: v10 :: v11 :: v12 :: v13 :: v14 :: v15 :: v16 :: v17 :: v18 :: v19 :: v20 :: v21 :: v22 :: v23 :: v24 :: v25 :: v26 :: v27 :: v28 :: v29 :: v30 :: v31 :: v32 :: v33 :: v34 :: v35 :: v36 :: v37 :: v38 :: [])), (ai_, .inl (gB g, 65535, .inl fi))]) hx hb hr rfl hlocks hQ hAe hK (hP.sub [0, 1] rfl) (hD.sub [0, 1] (by decide) rfl) hS (by omega) (by omega) dX9_files_268 ?_
                                                    refine Or.inl (?_)
                                                    exact ⟨rfl, rfl, by first | exact fun z => hna (z.2.2.2.2.2.2.2 k0 (by omega)).1.1 | exact fun z => absurd (z.2.2.2.2.2.2.2 k0 (by omega)).1.2.1 (by omega) | exact fun z => c311 (z.2.2.2.2.2.2.2 k0 (by omega)).1.2.2 | exact fun z => (z.2.2.2.2.2.2.2 k0 (by omega)).2 j5 (by omega) hsame⟩
                                                · skip
                                                  have c242 : ¬ (ln ≤ i5) := fun z => c242 ((nI_leI (a := ln) (b := i5) (by omega) (by omega)).mpr z)
                                                  refine lv_iload hx hb dX9_files_245 (lv_at hl 0 rfl) ?_
                                                  refine lv_bipush (v := nI 33) hx hb dX9_files_247 (by decide) ?_
                                                  refine lv_icmp_lt (tgt := 267) hx hb dX9_files_249 (by decide) (fun c249 => ?_) (fun c249 => ?_)
                                                  · skip
                                                    have hna : ¬ pNameR f (8 + k0 * 64) := nameR_F3 hfd (i := 8 + k0 * 64 + i5) (by omega) (by omega) (by omega) (fun z => ((raw_vis (hfit _)).mp z).1 c249)
                                                    refine lv_iconst (v := (-1)) hx hb dX9_files_267 (by decide) ?_
                                                    refine ct_iret (w := [(mm, .inr (7, v0 :: v1 :: .ref ai_ :: .int (nI m_imageSize) :: v4 :: v5 :: v6 :: v7 :: v8 :: v9 :: v10 :: v11 :: v12 :: v13 :: v14 :: v15 :: v16 :: v17 :: v18 :: v19 :: v20 :: v21 :: v22 :: v23 :: v24 :: v25 :: v26 :: v27 :: v28 :: v29 :: v30 :: v31 :: v32 :: v33 :: v34 :: v35 :: v36 :: v37 :: v38 :: [])), (ai_, .inl (gB g, 65535, .inl fi))]) hx hb hr rfl hlocks hQ hAe hK (hP.sub [0, 1] rfl) (hD.sub [0, 1] (by decide) rfl) hS (by omega) (by omega) dX9_files_268 ?_
                                                    refine Or.inl (?_)
                                                    exact ⟨rfl, rfl, by first | exact fun z => hna (z.2.2.2.2.2.2.2 k0 (by omega)).1.1 | exact fun z => absurd (z.2.2.2.2.2.2.2 k0 (by omega)).1.2.1 (by omega) | exact fun z => c311 (z.2.2.2.2.2.2.2 k0 (by omega)).1.2.2 | exact fun z => (z.2.2.2.2.2.2.2 k0 (by omega)).2 j5 (by omega) hsame⟩
                                                  · skip
                                                    refine lv_iload hx hb dX9_files_252 (lv_at hl 0 rfl) ?_
                                                    refine lv_bipush (v := nI 126) hx hb dX9_files_254 (by decide) ?_
                                                    refine lv_icmp_le (tgt := 269) hx hb dX9_files_256 (by decide) (fun c256 => ?_) (fun c256 => ?_)
                                                    · skip
                                                      refine lv_iinc (v := nI (i5 + 1)) (lv' := [(5, .int (nI (i5 + 1))), (6, .int (f (8 + (k0 * 64) + i5))), (0, .ref mm), (1, .int (nI (cntF f))), (2, .int (nI k0)), (3, .int (nI (8 + (k0 * 64)))), (4, .int (nI ln))]) hx hb dX9_files_269 hl (k := 6) rfl (nI_inc i5 1) (by decide) rfl (fun ls hl => ?_)
                                                      refine lv_goto (tgt := 220) hx hb dX9_files_272 (by decide) ?_
                                                      exact ih_K220 (i5 + 1) (by omega) (by first | exact all_s (i := 8 + k0 * 64 + i5) hna2 ⟨fun _ => (raw_vis (hfit _)).mpr ⟨c249, Int32.not_lt.mpr c256⟩, fun z => absurd (show 8 + k0 * 64 + i5 < 8 + k0 * 64 + ln by omega) z⟩ | exact all_s (i := 8 + k0 * 64 + i5) hna2 ⟨fun z => absurd z (by omega), fun _ => (ra0 hfit).mp c264⟩) (by omega) _ _ _ (hP.sub [0, 1] rfl) (hD.sub [0, 1] (by decide) rfl) hS (lv_sub hl [2, 3, 4, 5, 6, 0] rfl)
                                                    · skip
                                                      have hna : ¬ pNameR f (8 + k0 * 64) := nameR_F3 hfd (i := 8 + k0 * 64 + i5) (by omega) (by omega) (by omega) (fun z => ((raw_vis (hfit _)).mp z).2 (Int32.not_le.mp c256))
                                                      refine lv_goto (tgt := 267) hx hb dX9_files_259 (by decide) ?_
                                                      refine lv_iconst (v := (-1)) hx hb dX9_files_267 (by decide) ?_
                                                      refine ct_iret (w := [(mm, .inr (7, v0 :: v1 :: .ref ai_ :: .int (nI m_imageSize) :: v4 :: v5 :: v6 :: v7 :: v8 :: v9 :: v10 :: v11 :: v12 :: v13 :: v14 :: v15 :: v16 :: v17 :: v18 :: v19 :: v20 :: v21 :: v22 :: v23 :: v24 :: v25 :: v26 :: v27 :: v28 :: v29 :: v30 :: v31 :: v32 :: v33 :: v34 :: v35 :: v36 :: v37 :: v38 :: [])), (ai_, .inl (gB g, 65535, .inl fi))]) hx hb hr rfl hlocks hQ hAe hK (hP.sub [0, 1] rfl) (hD.sub [0, 1] (by decide) rfl) hS (by omega) (by omega) dX9_files_268 ?_
                                                      refine Or.inl (?_)
                                                      exact ⟨rfl, rfl, by first | exact fun z => hna (z.2.2.2.2.2.2.2 k0 (by omega)).1.1 | exact fun z => absurd (z.2.2.2.2.2.2.2 k0 (by omega)).1.2.1 (by omega) | exact fun z => c311 (z.2.2.2.2.2.2.2 k0 (by omega)).1.2.2 | exact fun z => (z.2.2.2.2.2.2.2 k0 (by omega)).2 j5 (by omega) hsame⟩
                                          exact K220 ((48 - 0) + 1) 0 (by omega) (by intro j h1 h2; omega) (Nat.lt_succ_self _) _ _ _ (hP.sub [0, 1] rfl) (hD.sub [0, 1] (by decide) rfl) hS (lv_sub hl [1, 2, 3, 4, 5, 0] rfl)
                                        · skip
                                          have c212 : ¬ f (8 + k0 * 64) &&& 255 = nI 47 := fun z => c212 ((ra hfit (by decide)).mpr z)
                                          have hna : ¬ pNameR f (8 + k0 * 64) := fun z => z.elim (fun e_ w => c212 w.2.1)
                                          refine lv_iconst (v := (-1)) hx hb dX9_files_215 (by decide) ?_
                                          refine ct_iret (w := [(mm, .inr (7, v0 :: v1 :: .ref ai_ :: .int (nI m_imageSize) :: v4 :: v5 :: v6 :: v7 :: v8 :: v9 :: v10 :: v11 :: v12 :: v13 :: v14 :: v15 :: v16 :: v17 :: v18 :: v19 :: v20 :: v21 :: v22 :: v23 :: v24 :: v25 :: v26 :: v27 :: v28 :: v29 :: v30 :: v31 :: v32 :: v33 :: v34 :: v35 :: v36 :: v37 :: v38 :: [])), (ai_, .inl (gB g, 65535, .inl fi))]) hx hb hr rfl hlocks hQ hAe hK (hP.sub [0, 1] rfl) (hD.sub [0, 1] (by decide) rfl) hS (by omega) (by omega) dX9_files_216 ?_
                                          refine Or.inl (?_)
                                          exact ⟨rfl, rfl, by first | exact fun z => hna (z.2.2.2.2.2.2.2 k0 (by omega)).1.1 | exact fun z => absurd (z.2.2.2.2.2.2.2 k0 (by omega)).1.2.1 (by omega) | exact fun z => c311 (z.2.2.2.2.2.2.2 k0 (by omega)).1.2.2 | exact fun z => (z.2.2.2.2.2.2.2 k0 (by omega)).2 j5 (by omega) hsame⟩
                                  · skip
                                    have c183 : ¬ f (8 + k0 * 64 + ln) &&& 255 = nI 0 := fun z => c183 ((ra0 hfit).mpr z)
                                    refine lv_iinc (v := nI (ln + 1)) (lv' := [(4, .int (nI (ln + 1))), (0, .ref mm), (1, .int (nI (cntF f))), (2, .int (nI k0)), (3, .int (nI (8 + (k0 * 64))))]) hx hb dX9_files_186 hl (k := 4) rfl (nI_inc ln 1) (by decide) rfl (fun ls hl => ?_)
                                    refine lv_goto (tgt := 167) hx hb dX9_files_189 (by decide) ?_
                                    exact ih_K167 (ln + 1) (by omega) (by exact all_s hln c183) (by omega) _ _ _ (hP.sub [0, 1] rfl) (hD.sub [0, 1] (by decide) rfl) hS (lv_sub hl [1, 2, 3, 4, 0] rfl)
                            exact K167 ((48 - 0) + 1) 0 (by omega) (by intro j h1 h2; omega) (Nat.lt_succ_self _) _ _ _ (hP.sub [0, 1] rfl) (hD.sub [0, 1] (by decide) rfl) hS (lv_sub hl [2, 3, 4, 1, 0] rfl)
                      exact K151 ((cntF f - 0) + 1) 0 (by omega) (by intro j h1; omega) (Nat.lt_succ_self _) _ _ _ (hP.sub [0, 1] rfl) (hD.sub [0, 1] (by decide) rfl) hS (lv_sub hl [2, 1, 0] rfl)
                    · skip
                      skip
                      refine lv_iconst (v := (-1)) hx hb dX9_files_147 (by decide) ?_
                      refine ct_iret (w := [(mm, .inr (7, v0 :: v1 :: .ref ai_ :: .int (nI m_imageSize) :: v4 :: v5 :: v6 :: v7 :: v8 :: v9 :: v10 :: v11 :: v12 :: v13 :: v14 :: v15 :: v16 :: v17 :: v18 :: v19 :: v20 :: v21 :: v22 :: v23 :: v24 :: v25 :: v26 :: v27 :: v28 :: v29 :: v30 :: v31 :: v32 :: v33 :: v34 :: v35 :: v36 :: v37 :: v38 :: [])), (ai_, .inl (gB g, 65535, .inl fi))]) hx hb hr rfl hlocks hQ hAe hK (hP.sub [0, 1] rfl) (hD.sub [0, 1] (by decide) rfl) hS (by omega) (by omega) dX9_files_148 ?_
                      refine Or.inl (?_)
                      exact ⟨rfl, rfl, by first | exact fun z => absurd z.2.2.1 (by omega) | exact fun z => c17 (stor_F z.2.2.2.1).1 | exact fun z => c28 (stor_F z.2.2.2.1).2.1 | exact fun z => c39 (stor_F z.2.2.2.1).2.2.1 | exact fun z => c50 (stor_F z.2.2.2.1).2.2.2 | exact fun z => c60 z.2.2.2.2.1 | exact fun z => c70 z.2.2.2.2.2.1 | exact fun z => absurd z.2.1 (by omega) | exact fun z => c144 z.2.2.2.2.2.2.1⟩
              · skip
                have c70 : ¬ f 7 &&& 255 = nI 0 := fun z => c70 ((ra0 hfit).mpr z)
                refine lv_iconst (v := (-1)) hx hb dX9_files_73 (by decide) ?_
                refine ct_iret (w := [(mm, .inr (7, v0 :: v1 :: .ref ai_ :: .int (nI m_imageSize) :: v4 :: v5 :: v6 :: v7 :: v8 :: v9 :: v10 :: v11 :: v12 :: v13 :: v14 :: v15 :: v16 :: v17 :: v18 :: v19 :: v20 :: v21 :: v22 :: v23 :: v24 :: v25 :: v26 :: v27 :: v28 :: v29 :: v30 :: v31 :: v32 :: v33 :: v34 :: v35 :: v36 :: v37 :: v38 :: [])), (ai_, .inl (gB g, 65535, .inl fi))]) hx hb hr rfl hlocks hQ hAe hK (hP.sub [0, 1] rfl) (hD.sub [0, 1] (by decide) rfl) hS (by omega) (by omega) dX9_files_74 ?_
                refine Or.inl (?_)
                exact ⟨rfl, rfl, by first | exact fun z => absurd z.2.2.1 (by omega) | exact fun z => c17 (stor_F z.2.2.2.1).1 | exact fun z => c28 (stor_F z.2.2.2.1).2.1 | exact fun z => c39 (stor_F z.2.2.2.1).2.2.1 | exact fun z => c50 (stor_F z.2.2.2.1).2.2.2 | exact fun z => c60 z.2.2.2.2.1 | exact fun z => c70 z.2.2.2.2.2.1 | exact fun z => absurd z.2.1 (by omega) | exact fun z => c144 z.2.2.2.2.2.2.1⟩

set_option maxHeartbeats 4000000 in
set_option maxRecDepth 100000 in
theorem c_mOpen (l : Launch) (g : GT) (mm : Nat) (v0 : Value) (v1 : Value) (ai_ : Nat) (m_imageSize : Nat) (m_opened : Nat) (m_fileCount : Nat) (am_ : Nat) (ap_ : Nat) (aq_ : Nat) (ac_ : Nat) (v10 : Value) (v11 : Value) (v12 : Value) (v13 : Value) (v14 : Value) (v15 : Value) (v16 : Value) (v17 : Value) (v18 : Value) (v19 : Value) (v20 : Value) (v21 : Value) (v22 : Value) (v23 : Value) (v24 : Value) (v25 : Value) (v26 : Value) (v27 : Value) (v28 : Value) (v29 : Value) (v30 : Value) (v31 : Value) (v32 : Value) (v33 : Value) (v34 : Value) (v35 : Value) (v36 : Value) (v37 : Value) (v38 : Value) (fi : Nat → Int32) (f : Nat → Int32) (fn : Nat → Int32) (fp : Nat → Int32) (fl : Nat → Int32) (fc : Nat → Int32) (hsi : m_imageSize ≤ 65535) (hM : ∀ j, j < m_imageSize → fi j = f j) (hfit : sb_Fit f) : CT l g yX9_open wsX9_open ({ frames := 2, cells := 0, slots := 0, locals := 52 } : Room) [.ref mm] [(mm, .inr (7, v0 :: v1 :: .ref ai_ :: .int (nI m_imageSize) :: .int (nI m_opened) :: .int (nI m_fileCount) :: .ref am_ :: .ref ap_ :: .ref aq_ :: .ref ac_ :: v10 :: v11 :: v12 :: v13 :: v14 :: v15 :: v16 :: v17 :: v18 :: v19 :: v20 :: v21 :: v22 :: v23 :: v24 :: v25 :: v26 :: v27 :: v28 :: v29 :: v30 :: v31 :: v32 :: v33 :: v34 :: v35 :: v36 :: v37 :: v38 :: [])), (ai_, .inl (gB g, 65535, .inl fi)), (am_, .inl (gB g, 3072, .inl fn)), (ap_, .inl (gI g, 64, .inl fp)), (aq_, .inl (gI g, 64, .inl fl)), (ac_, .inl (gI g, 64, .inl fc))] (fun r w => (r = some (.int (-1)) ∧ w = [(mm, .inr (7, v0 :: v1 :: .ref ai_ :: .int (nI m_imageSize) :: .int (nI m_opened) :: .int (nI m_fileCount) :: .ref am_ :: .ref ap_ :: .ref aq_ :: .ref ac_ :: v10 :: v11 :: v12 :: v13 :: v14 :: v15 :: v16 :: v17 :: v18 :: v19 :: v20 :: v21 :: v22 :: v23 :: v24 :: v25 :: v26 :: v27 :: v28 :: v29 :: v30 :: v31 :: v32 :: v33 :: v34 :: v35 :: v36 :: v37 :: v38 :: [])), (ai_, .inl (gB g, 65535, .inl fi)), (am_, .inl (gB g, 3072, .inl fn)), (ap_, .inl (gI g, 64, .inl fp)), (aq_, .inl (gI g, 64, .inl fl)), (ac_, .inl (gI g, 64, .inl fc))] ∧ (¬ (6 ≤ m_imageSize ∧ pRight f m_imageSize (cntF f)))) ∨ (∃ (n1 : Nat → Int32) (p1 : Nat → Int32) (l1 : Nat → Int32) (c1 : Nat → Int32), r = some (.int (nI (cntF f))) ∧ w = [(mm, .inr (7, v0 :: v1 :: .ref ai_ :: .int (nI m_imageSize) :: .int (nI 1) :: .int (nI (cntF f)) :: .ref am_ :: .ref ap_ :: .ref aq_ :: .ref ac_ :: v10 :: v11 :: v12 :: v13 :: v14 :: v15 :: v16 :: v17 :: v18 :: v19 :: v20 :: v21 :: v22 :: v23 :: v24 :: v25 :: v26 :: v27 :: v28 :: v29 :: v30 :: v31 :: v32 :: v33 :: v34 :: v35 :: v36 :: v37 :: v38 :: [])), (ai_, .inl (gB g, 65535, .inl fi)), (am_, .inl (gB g, 3072, .inl n1)), (ap_, .inl (gI g, 64, .inl p1)), (aq_, .inl (gI g, 64, .inl l1)), (ac_, .inl (gI g, 64, .inl c1))] ∧ (6 ≤ m_imageSize) ∧ (pRight f m_imageSize (cntF f)) ∧ (∀ t, t < cntF f → ∀ j, j < 48 → n1 (48 * t + j) = f (8 + t * 64 + j)) ∧ (∀ t, t < cntF f → p1 t = be4 f (8 + t * 64 + 48)) ∧ (∀ t, t < cntF f → l1 t = be4 f (8 + t * 64 + 52)) ∧ (∀ t, t < cntF f → c1 t = be4 f (8 + t * 64 + 56)))) (0) (0) := by
  refine ct_of (cc := cX9_open) (maxL := 4) (ret := (some .int)) (by decide) rfl (Nat.le_of_ble_eq_true rfl) ?_
  intro p e s m args below meth c A Q hx hb hr hml hown hts hlocks hnam hAe hQ hA hG hK hP hD hS ls hl
  have hl : lv_has ls 4 [(0, .ref mm)] := hl
  have hown : s.vm.findClass RX9 = some m.cls := hown
  have hinX9 : ∀ w ∈ u_ws RX9 TX9 39, w ∈ wsX9_open := by decide +kernel
  have hf15 := hts (.fieldLink RX9 15 "RequestReaderModel" "image" "[B") (by decide +kernel)
  have hf18 := hts (.fieldLink RX9 18 "RequestReaderModel" "names" "[B") (by decide +kernel)
  have hf21 := hts (.fieldLink RX9 21 "RequestReaderModel" "filePlaces" "[I") (by decide +kernel)
  have hf25 := hts (.fieldLink RX9 25 "RequestReaderModel" "fileLengths" "[I") (by decide +kernel)
  have hf28 := hts (.fieldLink RX9 28 "RequestReaderModel" "fileChecks" "[I") (by decide +kernel)
  have hf57 := hts (.fieldLink RX9 57 "RequestReaderModel" "opened" "Z") (by decide +kernel)
  have hf86 := hts (.fieldLink RX9 86 "RequestReaderModel" "fileCount" "I") (by decide +kernel)
  have hcl := cnt_lt f
  refine lv_aload_n hx hb dX9_open_0 rfl (lv_at hl 0 rfl) ?_
  refine ct_callV (wr := [(am_, .inl (gB g, 3072, .inl fn)), (ap_, .inl (gI g, 64, .inl fp)), (aq_, .inl (gI g, 64, .inl fl)), (ac_, .inl (gI g, 64, .inl fc))]) hx hb hml hown hts hK hP hD hS hA hG hl.1 (c_mFiles l g mm ((v0 : Value)) ((v1 : Value)) ai_ m_imageSize ((.int (nI m_opened) : Value)) ((.int (nI m_fileCount) : Value)) ((.ref am_ : Value)) ((.ref ap_ : Value)) ((.ref aq_ : Value)) ((.ref ac_ : Value)) ((v10 : Value)) ((v11 : Value)) ((v12 : Value)) ((v13 : Value)) ((v14 : Value)) ((v15 : Value)) ((v16 : Value)) ((v17 : Value)) ((v18 : Value)) ((v19 : Value)) ((v20 : Value)) ((v21 : Value)) ((v22 : Value)) ((v23 : Value)) ((v24 : Value)) ((v25 : Value)) ((v26 : Value)) ((v27 : Value)) ((v28 : Value)) ((v29 : Value)) ((v30 : Value)) ((v31 : Value)) ((v32 : Value)) ((v33 : Value)) ((v34 : Value)) ((v35 : Value)) ((v36 : Value)) ((v37 : Value)) ((v38 : Value)) fi f (by omega) (by assumption) (by assumption)) (cwV 0 hts gX9_open_X9_files rfl rfl rfl (by decide +kernel) ⟨Nat.le_of_ble_eq_true rfl, Nat.le_of_ble_eq_true rfl⟩) (va_recv hK hP (ci := 7) (q0 := 0) rfl rfl) rfl rfl (Nat.le_of_ble_eq_true rfl) dX9_open_1 ⟨show 0 + 0 ≤ 0 by omega, show 0 + 0 ≤ 0 by omega⟩ [0, 1] [2, 3, 4, 5] rfl rfl (by decide) (by decide) (by decide) (fun r_ w_ H locs hp_ hP hD hS => ?_)
  rcases hp_ with ⟨rfl, rfl, hno_1⟩ | ⟨rfl, rfl, h6_1, hR_1⟩
  · skip
    have hP : va_P (gD g) vwCl [(am_, .inl (gB g, 3072, .inl fn)), (ap_, .inl (gI g, 64, .inl fp)), (aq_, .inl (gI g, 64, .inl fl)), (ac_, .inl (gI g, 64, .inl fc)), (mm, .inr (7, v0 :: v1 :: .ref ai_ :: .int (nI m_imageSize) :: .int (nI m_opened) :: .int (nI m_fileCount) :: .ref am_ :: .ref ap_ :: .ref aq_ :: .ref ac_ :: v10 :: v11 :: v12 :: v13 :: v14 :: v15 :: v16 :: v17 :: v18 :: v19 :: v20 :: v21 :: v22 :: v23 :: v24 :: v25 :: v26 :: v27 :: v28 :: v29 :: v30 :: v31 :: v32 :: v33 :: v34 :: v35 :: v36 :: v37 :: v38 :: [])), (ai_, .inl (gB g, 65535, .inl fi))] H := hP
    have hD : va_D A [(am_, .inl (gB g, 3072, .inl fn)), (ap_, .inl (gI g, 64, .inl fp)), (aq_, .inl (gI g, 64, .inl fl)), (ac_, .inl (gI g, 64, .inl fc)), (mm, .inr (7, v0 :: v1 :: .ref ai_ :: .int (nI m_imageSize) :: .int (nI m_opened) :: .int (nI m_fileCount) :: .ref am_ :: .ref ap_ :: .ref aq_ :: .ref ac_ :: v10 :: v11 :: v12 :: v13 :: v14 :: v15 :: v16 :: v17 :: v18 :: v19 :: v20 :: v21 :: v22 :: v23 :: v24 :: v25 :: v26 :: v27 :: v28 :: v29 :: v30 :: v31 :: v32 :: v33 :: v34 :: v35 :: v36 :: v37 :: v38 :: [])), (ai_, .inl (gB g, 65535, .inl fi))] := hD
    have hno_1 : ¬ (6 ≤ m_imageSize ∧ pRight f m_imageSize (cntF f)) := hno_1
    refine W.eq (g2 := F0 m 4 ls [.int (-1)]) rfl ?_
    refine lv_istore_n (lv' := [(1, .int (-1)), (0, .ref mm)]) hx hb dX9_open_4 rfl hl (by decide) rfl (fun ls hl => ?_)
    refine lv_iload_n hx hb dX9_open_5 rfl (lv_at hl 0 rfl) ?_
    refine lv_if_ge (tgt := 11) hx hb dX9_open_6 (by decide) (fun c6 => absurd c6 (by decide)) (fun _ => ?_)
    refine lv_iconst (v := (-1)) hx hb dX9_open_9 (by decide) ?_
    refine ct_iret (w := [(mm, .inr (7, v0 :: v1 :: .ref ai_ :: .int (nI m_imageSize) :: .int (nI m_opened) :: .int (nI m_fileCount) :: .ref am_ :: .ref ap_ :: .ref aq_ :: .ref ac_ :: v10 :: v11 :: v12 :: v13 :: v14 :: v15 :: v16 :: v17 :: v18 :: v19 :: v20 :: v21 :: v22 :: v23 :: v24 :: v25 :: v26 :: v27 :: v28 :: v29 :: v30 :: v31 :: v32 :: v33 :: v34 :: v35 :: v36 :: v37 :: v38 :: [])), (ai_, .inl (gB g, 65535, .inl fi)), (am_, .inl (gB g, 3072, .inl fn)), (ap_, .inl (gI g, 64, .inl fp)), (aq_, .inl (gI g, 64, .inl fl)), (ac_, .inl (gI g, 64, .inl fc))]) hx hb hr rfl hlocks hQ hAe hK (hP.sub [4, 5, 0, 1, 2, 3] rfl) (hD.sub [4, 5, 0, 1, 2, 3] (by decide) rfl) hS (by omega) (by omega) dX9_open_10 ?_
    refine Or.inl (?_)
    exact ⟨rfl, rfl, by assumption⟩
  · skip
    have hP : va_P (gD g) vwCl [(am_, .inl (gB g, 3072, .inl fn)), (ap_, .inl (gI g, 64, .inl fp)), (aq_, .inl (gI g, 64, .inl fl)), (ac_, .inl (gI g, 64, .inl fc)), (mm, .inr (7, v0 :: v1 :: .ref ai_ :: .int (nI m_imageSize) :: .int (nI m_opened) :: .int (nI m_fileCount) :: .ref am_ :: .ref ap_ :: .ref aq_ :: .ref ac_ :: v10 :: v11 :: v12 :: v13 :: v14 :: v15 :: v16 :: v17 :: v18 :: v19 :: v20 :: v21 :: v22 :: v23 :: v24 :: v25 :: v26 :: v27 :: v28 :: v29 :: v30 :: v31 :: v32 :: v33 :: v34 :: v35 :: v36 :: v37 :: v38 :: [])), (ai_, .inl (gB g, 65535, .inl fi))] H := hP
    have hD : va_D A [(am_, .inl (gB g, 3072, .inl fn)), (ap_, .inl (gI g, 64, .inl fp)), (aq_, .inl (gI g, 64, .inl fl)), (ac_, .inl (gI g, 64, .inl fc)), (mm, .inr (7, v0 :: v1 :: .ref ai_ :: .int (nI m_imageSize) :: .int (nI m_opened) :: .int (nI m_fileCount) :: .ref am_ :: .ref ap_ :: .ref aq_ :: .ref ac_ :: v10 :: v11 :: v12 :: v13 :: v14 :: v15 :: v16 :: v17 :: v18 :: v19 :: v20 :: v21 :: v22 :: v23 :: v24 :: v25 :: v26 :: v27 :: v28 :: v29 :: v30 :: v31 :: v32 :: v33 :: v34 :: v35 :: v36 :: v37 :: v38 :: [])), (ai_, .inl (gB g, 65535, .inl fi))] := hD
    have h6_1 : 6 ≤ m_imageSize := h6_1
    have hR_1 : pRight f m_imageSize (cntF f) := hR_1
    refine W.eq (g2 := F0 m 4 ls [.int (nI (cntF f))]) rfl ?_
    have hr1 := hR_1.1
    have hr2 := hR_1.2.1
    refine lv_istore_n (lv' := [(1, .int (nI (cntF f))), (0, .ref mm)]) hx hb dX9_open_4 rfl hl (by decide) rfl (fun ls hl => ?_)
    refine lv_iload_n hx hb dX9_open_5 rfl (lv_at hl 0 rfl) ?_
    refine lv_if_ge (tgt := 11) hx hb dX9_open_6 (by decide) (fun c6 => ?_) (fun c6 => ?_)
    · skip
      have c6 : 0 ≤ cntF f := (nI_leI (a := 0) (b := cntF f) (by omega) (by omega)).mp c6
      refine lv_aload_n hx hb dX9_open_11 rfl (lv_at hl 1 rfl) ?_
      refine lv_iconst (v := nI 1) hx hb dX9_open_12 (by decide) ?_
      refine va_put (D := gD g) (ci := 7) (v := .int (nI 1)) (ty := .boolean) (C := RX9) (T := TX9) (N := 39) hx hb hts hinX9 tyX9 tyX9_ok nmX9 hown hK hP hD hS 4 rfl rfl 4 (by decide) hf57 (fun _ h9 => h9) rfl (by decide +kernel) rfl rfl (Nat.le_of_ble_eq_true rfl) dX9_open_13 (fun H locs hP hD hS => ?_)
      have hP : va_P (gD g) vwCl [(am_, .inl (gB g, 3072, .inl fn)), (ap_, .inl (gI g, 64, .inl fp)), (aq_, .inl (gI g, 64, .inl fl)), (ac_, .inl (gI g, 64, .inl fc)), (mm, .inr (7, v0 :: v1 :: .ref ai_ :: .int (nI m_imageSize) :: .int (nI 1) :: .int (nI m_fileCount) :: .ref am_ :: .ref ap_ :: .ref aq_ :: .ref ac_ :: v10 :: v11 :: v12 :: v13 :: v14 :: v15 :: v16 :: v17 :: v18 :: v19 :: v20 :: v21 :: v22 :: v23 :: v24 :: v25 :: v26 :: v27 :: v28 :: v29 :: v30 :: v31 :: v32 :: v33 :: v34 :: v35 :: v36 :: v37 :: v38 :: [])), (ai_, .inl (gB g, 65535, .inl fi))] H := hP
      have hD : va_D A [(am_, .inl (gB g, 3072, .inl fn)), (ap_, .inl (gI g, 64, .inl fp)), (aq_, .inl (gI g, 64, .inl fl)), (ac_, .inl (gI g, 64, .inl fc)), (mm, .inr (7, v0 :: v1 :: .ref ai_ :: .int (nI m_imageSize) :: .int (nI 1) :: .int (nI m_fileCount) :: .ref am_ :: .ref ap_ :: .ref aq_ :: .ref ac_ :: v10 :: v11 :: v12 :: v13 :: v14 :: v15 :: v16 :: v17 :: v18 :: v19 :: v20 :: v21 :: v22 :: v23 :: v24 :: v25 :: v26 :: v27 :: v28 :: v29 :: v30 :: v31 :: v32 :: v33 :: v34 :: v35 :: v36 :: v37 :: v38 :: [])), (ai_, .inl (gB g, 65535, .inl fi))] := hD
      refine lv_aload_n hx hb dX9_open_16 rfl (lv_at hl 1 rfl) ?_
      refine lv_iload_n hx hb dX9_open_17 rfl (lv_at hl 0 rfl) ?_
      refine va_put (D := gD g) (ci := 7) (v := .int (nI (cntF f))) (ty := .int) (C := RX9) (T := TX9) (N := 39) hx hb hts hinX9 tyX9 tyX9_ok nmX9 hown hK hP hD hS 4 rfl rfl 5 (by decide) hf86 (fun _ h9 => h9) rfl (by decide +kernel) rfl rfl (Nat.le_of_ble_eq_true rfl) dX9_open_18 (fun H locs hP hD hS => ?_)
      have hP : va_P (gD g) vwCl [(am_, .inl (gB g, 3072, .inl fn)), (ap_, .inl (gI g, 64, .inl fp)), (aq_, .inl (gI g, 64, .inl fl)), (ac_, .inl (gI g, 64, .inl fc)), (mm, .inr (7, v0 :: v1 :: .ref ai_ :: .int (nI m_imageSize) :: .int (nI 1) :: .int (nI (cntF f)) :: .ref am_ :: .ref ap_ :: .ref aq_ :: .ref ac_ :: v10 :: v11 :: v12 :: v13 :: v14 :: v15 :: v16 :: v17 :: v18 :: v19 :: v20 :: v21 :: v22 :: v23 :: v24 :: v25 :: v26 :: v27 :: v28 :: v29 :: v30 :: v31 :: v32 :: v33 :: v34 :: v35 :: v36 :: v37 :: v38 :: [])), (ai_, .inl (gB g, 65535, .inl fi))] H := hP
      have hD : va_D A [(am_, .inl (gB g, 3072, .inl fn)), (ap_, .inl (gI g, 64, .inl fp)), (aq_, .inl (gI g, 64, .inl fl)), (ac_, .inl (gI g, 64, .inl fc)), (mm, .inr (7, v0 :: v1 :: .ref ai_ :: .int (nI m_imageSize) :: .int (nI 1) :: .int (nI (cntF f)) :: .ref am_ :: .ref ap_ :: .ref aq_ :: .ref ac_ :: v10 :: v11 :: v12 :: v13 :: v14 :: v15 :: v16 :: v17 :: v18 :: v19 :: v20 :: v21 :: v22 :: v23 :: v24 :: v25 :: v26 :: v27 :: v28 :: v29 :: v30 :: v31 :: v32 :: v33 :: v34 :: v35 :: v36 :: v37 :: v38 :: [])), (ai_, .inl (gB g, 65535, .inl fi))] := hD
      refine lv_iconst (v := nI 0) hx hb dX9_open_21 (by decide) ?_
      refine lv_istore_n (lv' := [(2, .int (nI 0)), (1, .int (nI (cntF f))), (0, .ref mm)]) hx hb dX9_open_22 rfl hl (by decide) rfl (fun ls hl => ?_)
      have K23 : ∀ (N_ : Nat) (k0 : Nat) (n1 : Nat → Int32) (p1 : Nat → Int32) (l1 : Nat → Int32) (c1 : Nat → Int32), (k0 ≤ cntF f) → (∀ t, t < k0 → ∀ j, j < 48 → n1 (48 * t + j) = f (8 + t * 64 + j)) → (∀ t, t < k0 → p1 t = be4 f (8 + t * 64 + 48)) → (∀ t, t < k0 → l1 t = be4 f (8 + t * 64 + 52)) → (∀ t, t < k0 → c1 t = be4 f (8 + t * 64 + 56)) → (cntF f - k0) < N_ → ∀ (H : Heap) (locs : List Loc) (ls : Array Slot), va_P (gD g) vwCl [(am_, .inl (gB g, 3072, .inl n1)), (ap_, .inl (gI g, 64, .inl p1)), (aq_, .inl (gI g, 64, .inl l1)), (ac_, .inl (gI g, 64, .inl c1)), (mm, .inr (7, v0 :: v1 :: .ref ai_ :: .int (nI m_imageSize) :: .int (nI 1) :: .int (nI (cntF f)) :: .ref am_ :: .ref ap_ :: .ref aq_ :: .ref ac_ :: v10 :: v11 :: v12 :: v13 :: v14 :: v15 :: v16 :: v17 :: v18 :: v19 :: v20 :: v21 :: v22 :: v23 :: v24 :: v25 :: v26 :: v27 :: v28 :: v29 :: v30 :: v31 :: v32 :: v33 :: v34 :: v35 :: v36 :: v37 :: v38 :: [])), (ai_, .inl (gB g, 65535, .inl fi))] H → va_D A [(am_, .inl (gB g, 3072, .inl n1)), (ap_, .inl (gI g, 64, .inl p1)), (aq_, .inl (gI g, 64, .inl l1)), (ac_, .inl (gI g, 64, .inl c1)), (mm, .inr (7, v0 :: v1 :: .ref ai_ :: .int (nI m_imageSize) :: .int (nI 1) :: .int (nI (cntF f)) :: .ref am_ :: .ref ap_ :: .ref aq_ :: .ref ac_ :: v10 :: v11 :: v12 :: v13 :: v14 :: v15 :: v16 :: v17 :: v18 :: v19 :: v20 :: v21 :: v22 :: v23 :: v24 :: v25 :: v26 :: v27 :: v28 :: v29 :: v30 :: v31 :: v32 :: v33 :: v34 :: v35 :: v36 :: v37 :: v38 :: [])), (ai_, .inl (gB g, 65535, .inl fi))] → va_S A s.heap H locs → lv_has ls 4 [(0, .ref mm), (1, .int (nI (cntF f))), (2, .int (nI k0))] → W p l e ({ frames := 2, cells := 0, slots := 0, locals := 52 } : Room) s m args below meth c H locs (0) (0) Q (F0 m 23 ls []) := by
        intro N_
        induction N_ with
        | zero => intro k0 n1 p1 l1 c1 hk0 en ep el ec hm_; exact absurd hm_ (Nat.not_lt_zero _)
        | succ N_ ih_K23 =>
          intro k0 n1 p1 l1 c1 hk0 en ep el ec hm_ H locs ls hP hD hS hl
          refine lv_iload_n hx hb dX9_open_23 rfl (lv_at hl 2 rfl) ?_
          refine lv_iload_n hx hb dX9_open_24 rfl (lv_at hl 1 rfl) ?_
          refine lv_icmp_ge (tgt := 136) hx hb dX9_open_25 (by decide) (fun c25 => ?_) (fun c25 => ?_)
          · skip
            have c25 : cntF f ≤ k0 := (nI_leI (a := cntF f) (b := k0) (by omega) (by omega)).mp c25
            refine lv_iload_n hx hb dX9_open_136 rfl (lv_at hl 1 rfl) ?_
            refine ct_iret (w := [(mm, .inr (7, v0 :: v1 :: .ref ai_ :: .int (nI m_imageSize) :: .int (nI 1) :: .int (nI (cntF f)) :: .ref am_ :: .ref ap_ :: .ref aq_ :: .ref ac_ :: v10 :: v11 :: v12 :: v13 :: v14 :: v15 :: v16 :: v17 :: v18 :: v19 :: v20 :: v21 :: v22 :: v23 :: v24 :: v25 :: v26 :: v27 :: v28 :: v29 :: v30 :: v31 :: v32 :: v33 :: v34 :: v35 :: v36 :: v37 :: v38 :: [])), (ai_, .inl (gB g, 65535, .inl fi)), (am_, .inl (gB g, 3072, .inl n1)), (ap_, .inl (gI g, 64, .inl p1)), (aq_, .inl (gI g, 64, .inl l1)), (ac_, .inl (gI g, 64, .inl c1))]) hx hb hr rfl hlocks hQ hAe hK (hP.sub [4, 5, 0, 1, 2, 3] rfl) (hD.sub [4, 5, 0, 1, 2, 3] (by decide) rfl) hS (by omega) (by omega) dX9_open_137 ?_
            refine Or.inr ((?_))
            exact ⟨n1, p1, l1, c1, rfl, rfl, by omega, by assumption, by exact fun t ht j hj => en t (by omega) j hj, by exact fun t ht => ep t (by omega), by exact fun t ht => el t (by omega), by exact fun t ht => ec t (by omega)⟩
          · skip
            have c25 : ¬ (cntF f ≤ k0) := fun z => c25 ((nI_leI (a := cntF f) (b := k0) (by omega) (by omega)).mpr z)
            refine lv_iconst (v := nI 0) hx hb dX9_open_28 (by decide) ?_
            refine lv_istore_n (lv' := [(3, .int (nI 0)), (0, .ref mm), (1, .int (nI (cntF f))), (2, .int (nI k0))]) hx hb dX9_open_29 rfl hl (by decide) rfl (fun ls hl => ?_)
            have K30 : ∀ (N_ : Nat) (i : Nat) (n2 : Nat → Int32), (i ≤ 48) → (∀ t, t < k0 → ∀ j, j < 48 → n2 (48 * t + j) = f (8 + t * 64 + j)) → (∀ j, j < i → n2 (48 * k0 + j) = f (8 + k0 * 64 + j)) → (48 - i) < N_ → ∀ (H : Heap) (locs : List Loc) (ls : Array Slot), va_P (gD g) vwCl [(am_, .inl (gB g, 3072, .inl n2)), (ap_, .inl (gI g, 64, .inl p1)), (aq_, .inl (gI g, 64, .inl l1)), (ac_, .inl (gI g, 64, .inl c1)), (mm, .inr (7, v0 :: v1 :: .ref ai_ :: .int (nI m_imageSize) :: .int (nI 1) :: .int (nI (cntF f)) :: .ref am_ :: .ref ap_ :: .ref aq_ :: .ref ac_ :: v10 :: v11 :: v12 :: v13 :: v14 :: v15 :: v16 :: v17 :: v18 :: v19 :: v20 :: v21 :: v22 :: v23 :: v24 :: v25 :: v26 :: v27 :: v28 :: v29 :: v30 :: v31 :: v32 :: v33 :: v34 :: v35 :: v36 :: v37 :: v38 :: [])), (ai_, .inl (gB g, 65535, .inl fi))] H → va_D A [(am_, .inl (gB g, 3072, .inl n2)), (ap_, .inl (gI g, 64, .inl p1)), (aq_, .inl (gI g, 64, .inl l1)), (ac_, .inl (gI g, 64, .inl c1)), (mm, .inr (7, v0 :: v1 :: .ref ai_ :: .int (nI m_imageSize) :: .int (nI 1) :: .int (nI (cntF f)) :: .ref am_ :: .ref ap_ :: .ref aq_ :: .ref ac_ :: v10 :: v11 :: v12 :: v13 :: v14 :: v15 :: v16 :: v17 :: v18 :: v19 :: v20 :: v21 :: v22 :: v23 :: v24 :: v25 :: v26 :: v27 :: v28 :: v29 :: v30 :: v31 :: v32 :: v33 :: v34 :: v35 :: v36 :: v37 :: v38 :: [])), (ai_, .inl (gB g, 65535, .inl fi))] → va_S A s.heap H locs → lv_has ls 4 [(0, .ref mm), (1, .int (nI (cntF f))), (2, .int (nI k0)), (3, .int (nI i))] → W p l e ({ frames := 2, cells := 0, slots := 0, locals := 52 } : Room) s m args below meth c H locs (0) (0) Q (F0 m 30 ls []) := by
              intro N_
              induction N_ with
              | zero => intro i n2 hi en2 ei hm_; exact absurd hm_ (Nat.not_lt_zero _)
              | succ N_ ih_K30 =>
                intro i n2 hi en2 ei hm_ H locs ls hP hD hS hl
                refine lv_iload_n hx hb dX9_open_30 rfl (lv_at hl 3 rfl) ?_
                refine lv_bipush (v := nI 48) hx hb dX9_open_31 (by decide) ?_
                refine lv_icmp_ge (tgt := 67) hx hb dX9_open_33 (by decide) (fun c33 => ?_) (fun c33 => ?_)
                · skip
                  have c33 : 48 ≤ i := (nI_leI (a := 48) (b := i) (by omega) (by omega)).mp c33
                  refine lv_aload_n hx hb dX9_open_67 rfl (lv_at hl 0 rfl) ?_
                  refine va_get (D := gD g) (ci := 7) (v := .ref ap_) (C := RX9) (T := TX9) (N := 39) hx hb hts hinX9 hown hK hP 4 rfl rfl 7 (by decide) hf21 (fun _ h9 => h9) rfl dX9_open_68 ?_
                  refine lv_iload_n hx hb dX9_open_71 rfl (lv_at hl 2 rfl) ?_
                  refine lv_aload_n hx hb dX9_open_72 rfl (lv_at hl 0 rfl) ?_
                  refine lv_bipush (v := nI 8) hx hb dX9_open_73 (by decide) ?_
                  refine lv_bipush (v := nI 64) hx hb dX9_open_75 (by decide) ?_
                  refine lv_iload_n hx hb dX9_open_77 rfl (lv_at hl 2 rfl) ?_
                  refine q_imul (v := nI (k0 * 64)) hx hb dX9_open_78 (by rw [pk_mul, Nat.mul_comm]) ?_
                  refine q_iadd (v := nI (8 + (k0 * 64))) hx hb dX9_open_79 (nI_add 8 (k0 * 64)) ?_
                  refine lv_bipush (v := nI 48) hx hb dX9_open_80 (by decide) ?_
                  refine q_iadd (v := nI (8 + (k0 * 64) + 48)) hx hb dX9_open_82 (nI_add (8 + (k0 * 64)) 48) ?_
                  refine ct_callV (wr := [(am_, .inl (gB g, 3072, .inl n2)), (ap_, .inl (gI g, 64, .inl p1)), (aq_, .inl (gI g, 64, .inl l1)), (ac_, .inl (gI g, 64, .inl c1))]) hx hb hml hown hts hK hP hD hS hA hG hl.1 (c_mWordAt l g mm ((v0 : Value)) ((v1 : Value)) ai_ ((.int (nI m_imageSize) : Value)) ((.int (nI 1) : Value)) ((.int (nI (cntF f)) : Value)) ((.ref am_ : Value)) ((.ref ap_ : Value)) ((.ref aq_ : Value)) ((.ref ac_ : Value)) ((v10 : Value)) ((v11 : Value)) ((v12 : Value)) ((v13 : Value)) ((v14 : Value)) ((v15 : Value)) ((v16 : Value)) ((v17 : Value)) ((v18 : Value)) ((v19 : Value)) ((v20 : Value)) ((v21 : Value)) ((v22 : Value)) ((v23 : Value)) ((v24 : Value)) ((v25 : Value)) ((v26 : Value)) ((v27 : Value)) ((v28 : Value)) ((v29 : Value)) ((v30 : Value)) ((v31 : Value)) ((v32 : Value)) ((v33 : Value)) ((v34 : Value)) ((v35 : Value)) ((v36 : Value)) ((v37 : Value)) ((v38 : Value)) fi f m_imageSize (8 + (k0 * 64) + 48) (by omega) (by assumption) (by omega)) (cwV 1 hts gX9_open_X9_imageWord rfl rfl rfl (by decide +kernel) ⟨Nat.le_of_ble_eq_true rfl, Nat.le_of_ble_eq_true rfl⟩) (va_recv hK hP (ci := 7) (q0 := 4) rfl rfl) rfl rfl (Nat.le_of_ble_eq_true rfl) dX9_open_83 ⟨show 0 + 0 ≤ 0 by omega, show 0 + 0 ≤ 0 by omega⟩ [4, 5] [0, 1, 2, 3] rfl rfl (by decide) (by decide) (by decide) (fun r_ w_ H locs hp_ hP hD hS => ?_)
                  obtain ⟨rfl, rfl⟩ := hp_
                  have hP : va_P (gD g) vwCl [(am_, .inl (gB g, 3072, .inl n2)), (ap_, .inl (gI g, 64, .inl p1)), (aq_, .inl (gI g, 64, .inl l1)), (ac_, .inl (gI g, 64, .inl c1)), (mm, .inr (7, v0 :: v1 :: .ref ai_ :: .int (nI m_imageSize) :: .int (nI 1) :: .int (nI (cntF f)) :: .ref am_ :: .ref ap_ :: .ref aq_ :: .ref ac_ :: v10 :: v11 :: v12 :: v13 :: v14 :: v15 :: v16 :: v17 :: v18 :: v19 :: v20 :: v21 :: v22 :: v23 :: v24 :: v25 :: v26 :: v27 :: v28 :: v29 :: v30 :: v31 :: v32 :: v33 :: v34 :: v35 :: v36 :: v37 :: v38 :: [])), (ai_, .inl (gB g, 65535, .inl fi))] H := hP
                  have hD : va_D A [(am_, .inl (gB g, 3072, .inl n2)), (ap_, .inl (gI g, 64, .inl p1)), (aq_, .inl (gI g, 64, .inl l1)), (ac_, .inl (gI g, 64, .inl c1)), (mm, .inr (7, v0 :: v1 :: .ref ai_ :: .int (nI m_imageSize) :: .int (nI 1) :: .int (nI (cntF f)) :: .ref am_ :: .ref ap_ :: .ref aq_ :: .ref ac_ :: v10 :: v11 :: v12 :: v13 :: v14 :: v15 :: v16 :: v17 :: v18 :: v19 :: v20 :: v21 :: v22 :: v23 :: v24 :: v25 :: v26 :: v27 :: v28 :: v29 :: v30 :: v31 :: v32 :: v33 :: v34 :: v35 :: v36 :: v37 :: v38 :: [])), (ai_, .inl (gB g, 65535, .inl fi))] := hD
                  refine W.eq (g2 := F0 m 86 ls [.long (lN (u32 (be4 f (8 + (k0 * 64) + 48)))), .int (nI k0), .ref ap_]) rfl ?_
                  refine lv_l2i (v := be4 f (8 + k0 * 64 + 48)) hx hb dX9_open_86 (low_be4 _ _) ?_
                  refine q_iast hx hb hK hP hD hS 1 rfl (k0) rfl (by omega) (by omega) dX9_open_87 (fun H locs hP hD hS => ?_)
                  have hP : va_P (gD g) vwCl [(am_, .inl (gB g, 3072, .inl n2)), (ap_, .inl (gI g, 64, .inl (upd p1 k0 (be4 f (8 + k0 * 64 + 48))))), (aq_, .inl (gI g, 64, .inl l1)), (ac_, .inl (gI g, 64, .inl c1)), (mm, .inr (7, v0 :: v1 :: .ref ai_ :: .int (nI m_imageSize) :: .int (nI 1) :: .int (nI (cntF f)) :: .ref am_ :: .ref ap_ :: .ref aq_ :: .ref ac_ :: v10 :: v11 :: v12 :: v13 :: v14 :: v15 :: v16 :: v17 :: v18 :: v19 :: v20 :: v21 :: v22 :: v23 :: v24 :: v25 :: v26 :: v27 :: v28 :: v29 :: v30 :: v31 :: v32 :: v33 :: v34 :: v35 :: v36 :: v37 :: v38 :: [])), (ai_, .inl (gB g, 65535, .inl fi))] H := hP
                  have hD : va_D A [(am_, .inl (gB g, 3072, .inl n2)), (ap_, .inl (gI g, 64, .inl (upd p1 k0 (be4 f (8 + k0 * 64 + 48))))), (aq_, .inl (gI g, 64, .inl l1)), (ac_, .inl (gI g, 64, .inl c1)), (mm, .inr (7, v0 :: v1 :: .ref ai_ :: .int (nI m_imageSize) :: .int (nI 1) :: .int (nI (cntF f)) :: .ref am_ :: .ref ap_ :: .ref aq_ :: .ref ac_ :: v10 :: v11 :: v12 :: v13 :: v14 :: v15 :: v16 :: v17 :: v18 :: v19 :: v20 :: v21 :: v22 :: v23 :: v24 :: v25 :: v26 :: v27 :: v28 :: v29 :: v30 :: v31 :: v32 :: v33 :: v34 :: v35 :: v36 :: v37 :: v38 :: [])), (ai_, .inl (gB g, 65535, .inl fi))] := hD
                  refine lv_aload_n hx hb dX9_open_88 rfl (lv_at hl 0 rfl) ?_
                  refine va_get (D := gD g) (ci := 7) (v := .ref aq_) (C := RX9) (T := TX9) (N := 39) hx hb hts hinX9 hown hK hP 4 rfl rfl 8 (by decide) hf25 (fun _ h9 => h9) rfl dX9_open_89 ?_
                  refine lv_iload_n hx hb dX9_open_92 rfl (lv_at hl 2 rfl) ?_
                  refine lv_aload_n hx hb dX9_open_93 rfl (lv_at hl 0 rfl) ?_
                  refine lv_bipush (v := nI 8) hx hb dX9_open_94 (by decide) ?_
                  refine lv_bipush (v := nI 64) hx hb dX9_open_96 (by decide) ?_
                  refine lv_iload_n hx hb dX9_open_98 rfl (lv_at hl 2 rfl) ?_
                  refine q_imul (v := nI (k0 * 64)) hx hb dX9_open_99 (by rw [pk_mul, Nat.mul_comm]) ?_
                  refine q_iadd (v := nI (8 + (k0 * 64))) hx hb dX9_open_100 (nI_add 8 (k0 * 64)) ?_
                  refine lv_bipush (v := nI 52) hx hb dX9_open_101 (by decide) ?_
                  refine q_iadd (v := nI (8 + (k0 * 64) + 52)) hx hb dX9_open_103 (nI_add (8 + (k0 * 64)) 52) ?_
                  refine ct_callV (wr := [(am_, .inl (gB g, 3072, .inl n2)), (ap_, .inl (gI g, 64, .inl (upd p1 k0 (be4 f (8 + k0 * 64 + 48))))), (aq_, .inl (gI g, 64, .inl l1)), (ac_, .inl (gI g, 64, .inl c1))]) hx hb hml hown hts hK hP hD hS hA hG hl.1 (c_mWordAt l g mm ((v0 : Value)) ((v1 : Value)) ai_ ((.int (nI m_imageSize) : Value)) ((.int (nI 1) : Value)) ((.int (nI (cntF f)) : Value)) ((.ref am_ : Value)) ((.ref ap_ : Value)) ((.ref aq_ : Value)) ((.ref ac_ : Value)) ((v10 : Value)) ((v11 : Value)) ((v12 : Value)) ((v13 : Value)) ((v14 : Value)) ((v15 : Value)) ((v16 : Value)) ((v17 : Value)) ((v18 : Value)) ((v19 : Value)) ((v20 : Value)) ((v21 : Value)) ((v22 : Value)) ((v23 : Value)) ((v24 : Value)) ((v25 : Value)) ((v26 : Value)) ((v27 : Value)) ((v28 : Value)) ((v29 : Value)) ((v30 : Value)) ((v31 : Value)) ((v32 : Value)) ((v33 : Value)) ((v34 : Value)) ((v35 : Value)) ((v36 : Value)) ((v37 : Value)) ((v38 : Value)) fi f m_imageSize (8 + (k0 * 64) + 52) (by omega) (by assumption) (by omega)) (cwV 1 hts gX9_open_X9_imageWord rfl rfl rfl (by decide +kernel) ⟨Nat.le_of_ble_eq_true rfl, Nat.le_of_ble_eq_true rfl⟩) (va_recv hK hP (ci := 7) (q0 := 4) rfl rfl) rfl rfl (Nat.le_of_ble_eq_true rfl) dX9_open_104 ⟨show 0 + 0 ≤ 0 by omega, show 0 + 0 ≤ 0 by omega⟩ [4, 5] [0, 1, 2, 3] rfl rfl (by decide) (by decide) (by decide) (fun r_ w_ H locs hp_ hP hD hS => ?_)
                  obtain ⟨rfl, rfl⟩ := hp_
                  have hP : va_P (gD g) vwCl [(am_, .inl (gB g, 3072, .inl n2)), (ap_, .inl (gI g, 64, .inl (upd p1 k0 (be4 f (8 + k0 * 64 + 48))))), (aq_, .inl (gI g, 64, .inl l1)), (ac_, .inl (gI g, 64, .inl c1)), (mm, .inr (7, v0 :: v1 :: .ref ai_ :: .int (nI m_imageSize) :: .int (nI 1) :: .int (nI (cntF f)) :: .ref am_ :: .ref ap_ :: .ref aq_ :: .ref ac_ :: v10 :: v11 :: v12 :: v13 :: v14 :: v15 :: v16 :: v17 :: v18 :: v19 :: v20 :: v21 :: v22 :: v23 :: v24 :: v25 :: v26 :: v27 :: v28 :: v29 :: v30 :: v31 :: v32 :: v33 :: v34 :: v35 :: v36 :: v37 :: v38 :: [])), (ai_, .inl (gB g, 65535, .inl fi))] H := hP
                  have hD : va_D A [(am_, .inl (gB g, 3072, .inl n2)), (ap_, .inl (gI g, 64, .inl (upd p1 k0 (be4 f (8 + k0 * 64 + 48))))), (aq_, .inl (gI g, 64, .inl l1)), (ac_, .inl (gI g, 64, .inl c1)), (mm, .inr (7, v0 :: v1 :: .ref ai_ :: .int (nI m_imageSize) :: .int (nI 1) :: .int (nI (cntF f)) :: .ref am_ :: .ref ap_ :: .ref aq_ :: .ref ac_ :: v10 :: v11 :: v12 :: v13 :: v14 :: v15 :: v16 :: v17 :: v18 :: v19 :: v20 :: v21 :: v22 :: v23 :: v24 :: v25 :: v26 :: v27 :: v28 :: v29 :: v30 :: v31 :: v32 :: v33 :: v34 :: v35 :: v36 :: v37 :: v38 :: [])), (ai_, .inl (gB g, 65535, .inl fi))] := hD
                  refine W.eq (g2 := F0 m 107 ls [.long (lN (u32 (be4 f (8 + (k0 * 64) + 52)))), .int (nI k0), .ref aq_]) rfl ?_
                  refine lv_l2i (v := be4 f (8 + k0 * 64 + 52)) hx hb dX9_open_107 (low_be4 _ _) ?_
                  refine q_iast hx hb hK hP hD hS 2 rfl (k0) rfl (by omega) (by omega) dX9_open_108 (fun H locs hP hD hS => ?_)
                  have hP : va_P (gD g) vwCl [(am_, .inl (gB g, 3072, .inl n2)), (ap_, .inl (gI g, 64, .inl (upd p1 k0 (be4 f (8 + k0 * 64 + 48))))), (aq_, .inl (gI g, 64, .inl (upd l1 k0 (be4 f (8 + k0 * 64 + 52))))), (ac_, .inl (gI g, 64, .inl c1)), (mm, .inr (7, v0 :: v1 :: .ref ai_ :: .int (nI m_imageSize) :: .int (nI 1) :: .int (nI (cntF f)) :: .ref am_ :: .ref ap_ :: .ref aq_ :: .ref ac_ :: v10 :: v11 :: v12 :: v13 :: v14 :: v15 :: v16 :: v17 :: v18 :: v19 :: v20 :: v21 :: v22 :: v23 :: v24 :: v25 :: v26 :: v27 :: v28 :: v29 :: v30 :: v31 :: v32 :: v33 :: v34 :: v35 :: v36 :: v37 :: v38 :: [])), (ai_, .inl (gB g, 65535, .inl fi))] H := hP
                  have hD : va_D A [(am_, .inl (gB g, 3072, .inl n2)), (ap_, .inl (gI g, 64, .inl (upd p1 k0 (be4 f (8 + k0 * 64 + 48))))), (aq_, .inl (gI g, 64, .inl (upd l1 k0 (be4 f (8 + k0 * 64 + 52))))), (ac_, .inl (gI g, 64, .inl c1)), (mm, .inr (7, v0 :: v1 :: .ref ai_ :: .int (nI m_imageSize) :: .int (nI 1) :: .int (nI (cntF f)) :: .ref am_ :: .ref ap_ :: .ref aq_ :: .ref ac_ :: v10 :: v11 :: v12 :: v13 :: v14 :: v15 :: v16 :: v17 :: v18 :: v19 :: v20 :: v21 :: v22 :: v23 :: v24 :: v25 :: v26 :: v27 :: v28 :: v29 :: v30 :: v31 :: v32 :: v33 :: v34 :: v35 :: v36 :: v37 :: v38 :: [])), (ai_, .inl (gB g, 65535, .inl fi))] := hD
                  refine lv_aload_n hx hb dX9_open_109 rfl (lv_at hl 0 rfl) ?_
                  refine va_get (D := gD g) (ci := 7) (v := .ref ac_) (C := RX9) (T := TX9) (N := 39) hx hb hts hinX9 hown hK hP 4 rfl rfl 9 (by decide) hf28 (fun _ h9 => h9) rfl dX9_open_110 ?_
                  refine lv_iload_n hx hb dX9_open_113 rfl (lv_at hl 2 rfl) ?_
                  refine lv_aload_n hx hb dX9_open_114 rfl (lv_at hl 0 rfl) ?_
                  refine lv_bipush (v := nI 8) hx hb dX9_open_115 (by decide) ?_
                  refine lv_bipush (v := nI 64) hx hb dX9_open_117 (by decide) ?_
                  refine lv_iload_n hx hb dX9_open_119 rfl (lv_at hl 2 rfl) ?_
                  refine q_imul (v := nI (k0 * 64)) hx hb dX9_open_120 (by rw [pk_mul, Nat.mul_comm]) ?_
                  refine q_iadd (v := nI (8 + (k0 * 64))) hx hb dX9_open_121 (nI_add 8 (k0 * 64)) ?_
                  refine lv_bipush (v := nI 56) hx hb dX9_open_122 (by decide) ?_
                  refine q_iadd (v := nI (8 + (k0 * 64) + 56)) hx hb dX9_open_124 (nI_add (8 + (k0 * 64)) 56) ?_
                  refine ct_callV (wr := [(am_, .inl (gB g, 3072, .inl n2)), (ap_, .inl (gI g, 64, .inl (upd p1 k0 (be4 f (8 + k0 * 64 + 48))))), (aq_, .inl (gI g, 64, .inl (upd l1 k0 (be4 f (8 + k0 * 64 + 52))))), (ac_, .inl (gI g, 64, .inl c1))]) hx hb hml hown hts hK hP hD hS hA hG hl.1 (c_mWordAt l g mm ((v0 : Value)) ((v1 : Value)) ai_ ((.int (nI m_imageSize) : Value)) ((.int (nI 1) : Value)) ((.int (nI (cntF f)) : Value)) ((.ref am_ : Value)) ((.ref ap_ : Value)) ((.ref aq_ : Value)) ((.ref ac_ : Value)) ((v10 : Value)) ((v11 : Value)) ((v12 : Value)) ((v13 : Value)) ((v14 : Value)) ((v15 : Value)) ((v16 : Value)) ((v17 : Value)) ((v18 : Value)) ((v19 : Value)) ((v20 : Value)) ((v21 : Value)) ((v22 : Value)) ((v23 : Value)) ((v24 : Value)) ((v25 : Value)) ((v26 : Value)) ((v27 : Value)) ((v28 : Value)) ((v29 : Value)) ((v30 : Value)) ((v31 : Value)) ((v32 : Value)) ((v33 : Value)) ((v34 : Value)) ((v35 : Value)) ((v36 : Value)) ((v37 : Value)) ((v38 : Value)) fi f m_imageSize (8 + (k0 * 64) + 56) (by omega) (by assumption) (by omega)) (cwV 1 hts gX9_open_X9_imageWord rfl rfl rfl (by decide +kernel) ⟨Nat.le_of_ble_eq_true rfl, Nat.le_of_ble_eq_true rfl⟩) (va_recv hK hP (ci := 7) (q0 := 4) rfl rfl) rfl rfl (Nat.le_of_ble_eq_true rfl) dX9_open_125 ⟨show 0 + 0 ≤ 0 by omega, show 0 + 0 ≤ 0 by omega⟩ [4, 5] [0, 1, 2, 3] rfl rfl (by decide) (by decide) (by decide) (fun r_ w_ H locs hp_ hP hD hS => ?_)
                  obtain ⟨rfl, rfl⟩ := hp_
                  have hP : va_P (gD g) vwCl [(am_, .inl (gB g, 3072, .inl n2)), (ap_, .inl (gI g, 64, .inl (upd p1 k0 (be4 f (8 + k0 * 64 + 48))))), (aq_, .inl (gI g, 64, .inl (upd l1 k0 (be4 f (8 + k0 * 64 + 52))))), (ac_, .inl (gI g, 64, .inl c1)), (mm, .inr (7, v0 :: v1 :: .ref ai_ :: .int (nI m_imageSize) :: .int (nI 1) :: .int (nI (cntF f)) :: .ref am_ :: .ref ap_ :: .ref aq_ :: .ref ac_ :: v10 :: v11 :: v12 :: v13 :: v14 :: v15 :: v16 :: v17 :: v18 :: v19 :: v20 :: v21 :: v22 :: v23 :: v24 :: v25 :: v26 :: v27 :: v28 :: v29 :: v30 :: v31 :: v32 :: v33 :: v34 :: v35 :: v36 :: v37 :: v38 :: [])), (ai_, .inl (gB g, 65535, .inl fi))] H := hP
                  have hD : va_D A [(am_, .inl (gB g, 3072, .inl n2)), (ap_, .inl (gI g, 64, .inl (upd p1 k0 (be4 f (8 + k0 * 64 + 48))))), (aq_, .inl (gI g, 64, .inl (upd l1 k0 (be4 f (8 + k0 * 64 + 52))))), (ac_, .inl (gI g, 64, .inl c1)), (mm, .inr (7, v0 :: v1 :: .ref ai_ :: .int (nI m_imageSize) :: .int (nI 1) :: .int (nI (cntF f)) :: .ref am_ :: .ref ap_ :: .ref aq_ :: .ref ac_ :: v10 :: v11 :: v12 :: v13 :: v14 :: v15 :: v16 :: v17 :: v18 :: v19 :: v20 :: v21 :: v22 :: v23 :: v24 :: v25 :: v26 :: v27 :: v28 :: v29 :: v30 :: v31 :: v32 :: v33 :: v34 :: v35 :: v36 :: v37 :: v38 :: [])), (ai_, .inl (gB g, 65535, .inl fi))] := hD
                  refine W.eq (g2 := F0 m 128 ls [.long (lN (u32 (be4 f (8 + (k0 * 64) + 56)))), .int (nI k0), .ref ac_]) rfl ?_
                  refine lv_l2i (v := be4 f (8 + k0 * 64 + 56)) hx hb dX9_open_128 (low_be4 _ _) ?_
                  refine q_iast hx hb hK hP hD hS 3 rfl (k0) rfl (by omega) (by omega) dX9_open_129 (fun H locs hP hD hS => ?_)
                  have hP : va_P (gD g) vwCl [(am_, .inl (gB g, 3072, .inl n2)), (ap_, .inl (gI g, 64, .inl (upd p1 k0 (be4 f (8 + k0 * 64 + 48))))), (aq_, .inl (gI g, 64, .inl (upd l1 k0 (be4 f (8 + k0 * 64 + 52))))), (ac_, .inl (gI g, 64, .inl (upd c1 k0 (be4 f (8 + k0 * 64 + 56))))), (mm, .inr (7, v0 :: v1 :: .ref ai_ :: .int (nI m_imageSize) :: .int (nI 1) :: .int (nI (cntF f)) :: .ref am_ :: .ref ap_ :: .ref aq_ :: .ref ac_ :: v10 :: v11 :: v12 :: v13 :: v14 :: v15 :: v16 :: v17 :: v18 :: v19 :: v20 :: v21 :: v22 :: v23 :: v24 :: v25 :: v26 :: v27 :: v28 :: v29 :: v30 :: v31 :: v32 :: v33 :: v34 :: v35 :: v36 :: v37 :: v38 :: [])), (ai_, .inl (gB g, 65535, .inl fi))] H := hP
                  have hD : va_D A [(am_, .inl (gB g, 3072, .inl n2)), (ap_, .inl (gI g, 64, .inl (upd p1 k0 (be4 f (8 + k0 * 64 + 48))))), (aq_, .inl (gI g, 64, .inl (upd l1 k0 (be4 f (8 + k0 * 64 + 52))))), (ac_, .inl (gI g, 64, .inl (upd c1 k0 (be4 f (8 + k0 * 64 + 56))))), (mm, .inr (7, v0 :: v1 :: .ref ai_ :: .int (nI m_imageSize) :: .int (nI 1) :: .int (nI (cntF f)) :: .ref am_ :: .ref ap_ :: .ref aq_ :: .ref ac_ :: v10 :: v11 :: v12 :: v13 :: v14 :: v15 :: v16 :: v17 :: v18 :: v19 :: v20 :: v21 :: v22 :: v23 :: v24 :: v25 :: v26 :: v27 :: v28 :: v29 :: v30 :: v31 :: v32 :: v33 :: v34 :: v35 :: v36 :: v37 :: v38 :: [])), (ai_, .inl (gB g, 65535, .inl fi))] := hD
                  refine lv_iinc (v := nI (k0 + 1)) (lv' := [(2, .int (nI (k0 + 1))), (0, .ref mm), (1, .int (nI (cntF f))), (3, .int (nI i))]) hx hb dX9_open_130 hl (k := 2) rfl (nI_inc k0 1) (by decide) rfl (fun ls hl => ?_)
                  refine lv_goto (tgt := 23) hx hb dX9_open_133 (by decide) ?_
                  exact ih_K23 (k0 + 1) n2 (upd p1 k0 (be4 f (8 + k0 * 64 + 48))) (upd l1 k0 (be4 f (8 + k0 * 64 + 52))) (upd c1 k0 (be4 f (8 + k0 * 64 + 56))) (by omega) (by exact lt_s (fun t ht j hj => en2 t ht j hj) (fun j hj => ei j (by omega))) (by exact lt_s (fun t ht => (pk_un (by omega)).trans (ep t ht)) pk_us) (by exact lt_s (fun t ht => (pk_un (by omega)).trans (el t ht)) pk_us) (by exact lt_s (fun t ht => (pk_un (by omega)).trans (ec t ht)) pk_us) (by omega) _ _ _ (hP.sub [0, 1, 2, 3, 4, 5] rfl) (hD.sub [0, 1, 2, 3, 4, 5] (by decide) rfl) hS (lv_sub hl [1, 2, 0] rfl)
                · skip
                  have c33 : ¬ (48 ≤ i) := fun z => c33 ((nI_leI (a := 48) (b := i) (by omega) (by omega)).mpr z)
                  refine lv_aload_n hx hb dX9_open_36 rfl (lv_at hl 0 rfl) ?_
                  refine va_get (D := gD g) (ci := 7) (v := .ref am_) (C := RX9) (T := TX9) (N := 39) hx hb hts hinX9 hown hK hP 4 rfl rfl 6 (by decide) hf18 (fun _ h9 => h9) rfl dX9_open_37 ?_
                  refine lv_bipush (v := nI 48) hx hb dX9_open_40 (by decide) ?_
                  refine lv_iload_n hx hb dX9_open_42 rfl (lv_at hl 2 rfl) ?_
                  refine q_imul (v := nI (48 * k0)) hx hb dX9_open_43 (pk_mul 48 k0) ?_
                  refine lv_iload_n hx hb dX9_open_44 rfl (lv_at hl 3 rfl) ?_
                  refine q_iadd (v := nI (48 * k0 + i)) hx hb dX9_open_45 (nI_add (48 * k0) i) ?_
                  refine lv_aload_n hx hb dX9_open_46 rfl (lv_at hl 0 rfl) ?_
                  refine va_get (D := gD g) (ci := 7) (v := .ref ai_) (C := RX9) (T := TX9) (N := 39) hx hb hts hinX9 hown hK hP 4 rfl rfl 2 (by decide) hf15 (fun _ h9 => h9) rfl dX9_open_47 ?_
                  refine lv_bipush (v := nI 8) hx hb dX9_open_50 (by decide) ?_
                  refine lv_bipush (v := nI 64) hx hb dX9_open_52 (by decide) ?_
                  refine lv_iload_n hx hb dX9_open_54 rfl (lv_at hl 2 rfl) ?_
                  refine q_imul (v := nI (k0 * 64)) hx hb dX9_open_55 (by rw [pk_mul, Nat.mul_comm]) ?_
                  refine q_iadd (v := nI (8 + (k0 * 64))) hx hb dX9_open_56 (nI_add 8 (k0 * 64)) ?_
                  refine lv_iload_n hx hb dX9_open_57 rfl (lv_at hl 3 rfl) ?_
                  refine q_iadd (v := nI (8 + (k0 * 64) + i)) hx hb dX9_open_58 (nI_add (8 + (k0 * 64)) i) ?_
                  refine q_bald hx hb hK hP 5 rfl (8 + (k0 * 64) + i) rfl (by omega) (by omega) dX9_open_59 ?_
                  refine q_top (v := f (8 + (k0 * 64) + i)) (hM _ (by omega)) ?_
                  refine q_bast hx hb hK hP hD hS 0 rfl (48 * k0 + i) rfl (by omega) (by omega) dX9_open_60 (fun H locs hP hD hS => ?_)
                  have hP : va_P (gD g) vwCl [(am_, .inl (gB g, 3072, .inl (upd n2 (48 * k0 + i) ((f (8 + (k0 * 64) + i)).toInt8.toInt32)))), (ap_, .inl (gI g, 64, .inl p1)), (aq_, .inl (gI g, 64, .inl l1)), (ac_, .inl (gI g, 64, .inl c1)), (mm, .inr (7, v0 :: v1 :: .ref ai_ :: .int (nI m_imageSize) :: .int (nI 1) :: .int (nI (cntF f)) :: .ref am_ :: .ref ap_ :: .ref aq_ :: .ref ac_ :: v10 :: v11 :: v12 :: v13 :: v14 :: v15 :: v16 :: v17 :: v18 :: v19 :: v20 :: v21 :: v22 :: v23 :: v24 :: v25 :: v26 :: v27 :: v28 :: v29 :: v30 :: v31 :: v32 :: v33 :: v34 :: v35 :: v36 :: v37 :: v38 :: [])), (ai_, .inl (gB g, 65535, .inl fi))] H := hP
                  have hD : va_D A [(am_, .inl (gB g, 3072, .inl (upd n2 (48 * k0 + i) ((f (8 + (k0 * 64) + i)).toInt8.toInt32)))), (ap_, .inl (gI g, 64, .inl p1)), (aq_, .inl (gI g, 64, .inl l1)), (ac_, .inl (gI g, 64, .inl c1)), (mm, .inr (7, v0 :: v1 :: .ref ai_ :: .int (nI m_imageSize) :: .int (nI 1) :: .int (nI (cntF f)) :: .ref am_ :: .ref ap_ :: .ref aq_ :: .ref ac_ :: v10 :: v11 :: v12 :: v13 :: v14 :: v15 :: v16 :: v17 :: v18 :: v19 :: v20 :: v21 :: v22 :: v23 :: v24 :: v25 :: v26 :: v27 :: v28 :: v29 :: v30 :: v31 :: v32 :: v33 :: v34 :: v35 :: v36 :: v37 :: v38 :: [])), (ai_, .inl (gB g, 65535, .inl fi))] := hD
                  refine lv_iinc (v := nI (i + 1)) (lv' := [(3, .int (nI (i + 1))), (0, .ref mm), (1, .int (nI (cntF f))), (2, .int (nI k0))]) hx hb dX9_open_61 hl (k := 3) rfl (nI_inc i 1) (by decide) rfl (fun ls hl => ?_)
                  refine lv_goto (tgt := 30) hx hb dX9_open_64 (by decide) ?_
                  exact ih_K30 (i + 1) (upd n2 (48 * k0 + i) ((f (8 + (k0 * 64) + i)).toInt8.toInt32)) (by omega) (by exact fun t ht j hj => (pk_un (by omega)).trans (en2 t ht j hj)) (by exact lt_s (fun j hj => (pk_un (by omega)).trans (ei j hj)) (pk_us.trans (fit8 hfit _))) (by omega) _ _ _ (hP.sub [0, 1, 2, 3, 4, 5] rfl) (hD.sub [0, 1, 2, 3, 4, 5] (by decide) rfl) hS (lv_sub hl [1, 2, 3, 0] rfl)
            exact K30 ((48 - 0) + 1) 0 n1 (by omega) (by exact en) (by intro j hj; omega) (Nat.lt_succ_self _) _ _ _ (hP.sub [0, 1, 2, 3, 4, 5] rfl) (hD.sub [0, 1, 2, 3, 4, 5] (by decide) rfl) hS (lv_sub hl [1, 2, 3, 0] rfl)
      exact K23 ((cntF f - 0) + 1) 0 fn fp fl fc (by omega) (by intro t ht; omega) (by intro t ht; omega) (by intro t ht; omega) (by intro t ht; omega) (Nat.lt_succ_self _) _ _ _ (hP.sub [0, 1, 2, 3, 4, 5] rfl) (hD.sub [0, 1, 2, 3, 4, 5] (by decide) rfl) hS (lv_sub hl [2, 1, 0] rfl)
    · skip
      have c6 : ¬ (0 ≤ cntF f) := fun z => c6 ((nI_leI (a := 0) (b := cntF f) (by omega) (by omega)).mpr z)
      exact absurd (Nat.zero_le _) c6
