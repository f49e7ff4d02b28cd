theorem fit8 {f : Nat → Int32} (h : sb_Fit f) (j : Nat) : (f j).toInt8.toInt32 = f j := fit_i8 (h j)

set_option maxHeartbeats 4000000 in
set_option maxRecDepth 100000 in
theorem c_mWord (l : Launch) (g : GT) (mm : Nat) (at_ : Nat) (m_trayed : Nat) (v2 : Value) (v3 : Value) (v4 : Value) (v5 : Value) (v6 : Value) (v7 : Value) (v8 : Value) (v9 : Value) (v10 : Value) (v11 : Value) (v12 : Value) (v13 : Value) (v14 : Value) (v15 : Value) (v16 : Value) (v17 : Value) (v18 : Value) (v19 : Value) (v20 : Value) (v21 : Value) (v22 : Value) (v23 : Value) (v24 : Value) (v25 : Value) (v26 : Value) (v27 : Value) (v28 : Value) (v29 : Value) (v30 : Value) (v31 : Value) (v32 : Value) (v33 : Value) (v34 : Value) (v35 : Value) (v36 : Value) (v37 : Value) (v38 : Value) (ft : Nat → Int32) (x : Int32) (hk : m_trayed + 4 ≤ 65540) : CT l g yX9_word wsX9_word ({ frames := 0, cells := 0, slots := 0, locals := 0 } : Room) [.ref mm, .int x] [(mm, .inr (7, .ref at_ :: .int (nI m_trayed) :: v2 :: v3 :: v4 :: v5 :: v6 :: v7 :: v8 :: v9 :: v10 :: v11 :: v12 :: v13 :: v14 :: v15 :: v16 :: v17 :: v18 :: v19 :: v20 :: v21 :: v22 :: v23 :: v24 :: v25 :: v26 :: v27 :: v28 :: v29 :: v30 :: v31 :: v32 :: v33 :: v34 :: v35 :: v36 :: v37 :: v38 :: [])), (at_, .inl (gB g, 65540, .inl ft))] (fun r w => (∃ (f1 : Nat → Int32), r = none ∧ w = [(mm, .inr (7, .ref at_ :: .int (nI (m_trayed + 4)) :: v2 :: v3 :: v4 :: v5 :: v6 :: v7 :: v8 :: v9 :: v10 :: v11 :: v12 :: v13 :: v14 :: v15 :: v16 :: v17 :: v18 :: v19 :: v20 :: v21 :: v22 :: v23 :: v24 :: v25 :: v26 :: v27 :: v28 :: v29 :: v30 :: v31 :: v32 :: v33 :: v34 :: v35 :: v36 :: v37 :: v38 :: [])), (at_, .inl (gB g, 65540, .inl f1))] ∧ (∀ j, j < m_trayed → f1 j = ft j) ∧ (∀ j, j < 4 → f1 (m_trayed + j) = wB x j))) (0) (0) := by
  refine ct_of (cc := cX9_word) (maxL := 3) (ret := none) (by decide) rfl (Nat.le_of_ble_eq_true rfl) ?_
  intro p e s m args below meth c A Q hx hb hr hml hown hts hlocks hnam hAe hQ hA hG hK hP hD hS ls hl
  have hl : lv_has ls 3 [(0, .ref mm), (1, .int x)] := hl
  have hown : s.vm.findClass RX9 = some m.cls := hown
  have hinX9 : ∀ w ∈ u_ws RX9 TX9 39, w ∈ wsX9_word := by decide +kernel
  have hf10 := hts (.fieldLink RX9 10 "RequestReaderModel" "tray" "[B") (by decide +kernel)
  have hf46 := hts (.fieldLink RX9 46 "RequestReaderModel" "trayed" "I") (by decide +kernel)
  refine lv_iconst (v := nI 0) hx hb dX9_word_0 (by decide) ?_
  refine lv_istore_n (lv' := [(2, .int (nI 0)), (0, .ref mm), (1, .int x)]) hx hb dX9_word_1 rfl hl (by decide) rfl (fun ls hl => ?_)
  have K2 : ∀ (N_ : Nat) (i : Nat) (f1 : Nat → Int32), (i ≤ 4) → (∀ j, j < m_trayed → f1 j = ft j) → (∀ j, j < i → f1 (m_trayed + j) = wB x j) → (4 - i) < N_ → ∀ (H : Heap) (locs : List Loc) (ls : Array Slot), va_P (gD g) vwCl [(mm, .inr (7, .ref at_ :: .int (nI (m_trayed + i)) :: v2 :: v3 :: v4 :: v5 :: v6 :: v7 :: v8 :: v9 :: v10 :: v11 :: v12 :: v13 :: v14 :: v15 :: v16 :: v17 :: v18 :: v19 :: v20 :: v21 :: v22 :: v23 :: v24 :: v25 :: v26 :: v27 :: v28 :: v29 :: v30 :: v31 :: v32 :: v33 :: v34 :: v35 :: v36 :: v37 :: v38 :: [])), (at_, .inl (gB g, 65540, .inl f1))] H → va_D A [(mm, .inr (7, .ref at_ :: .int (nI (m_trayed + i)) :: v2 :: v3 :: v4 :: v5 :: v6 :: v7 :: v8 :: v9 :: v10 :: v11 :: v12 :: v13 :: v14 :: v15 :: v16 :: v17 :: v18 :: v19 :: v20 :: v21 :: v22 :: v23 :: v24 :: v25 :: v26 :: v27 :: v28 :: v29 :: v30 :: v31 :: v32 :: v33 :: v34 :: v35 :: v36 :: v37 :: v38 :: [])), (at_, .inl (gB g, 65540, .inl f1))] → va_S A s.heap H locs → lv_has ls 3 [(0, .ref mm), (1, .int x), (2, .int (nI i))] → W p l e ({ frames := 0, cells := 0, slots := 0, locals := 0 } : Room) s m args below meth c H locs (0) (0) Q (F0 m 2 ls []) := by
    intro N_
    induction N_ with
    | zero => intro i f1 hi ef ew hm_; exact absurd hm_ (Nat.not_lt_zero _)
    | succ N_ ih_K2 =>
      intro i f1 hi ef ew hm_ H locs ls hP hD hS hl
      refine lv_iload_n hx hb dX9_word_2 rfl (lv_at hl 2 rfl) ?_
      refine lv_iconst (v := nI 4) hx hb dX9_word_3 (by decide) ?_
      refine lv_icmp_ge (tgt := 42) hx hb dX9_word_4 (by decide) (fun c4 => ?_) (fun c4 => ?_)
      · skip
        have c4 : 4 ≤ i := (nI_leI (a := 4) (b := i) (by omega) (by omega)).mp c4
        have ei : i = 4 := by omega
        refine ct_vret (w := [(mm, .inr (7, .ref at_ :: .int (nI (m_trayed + i)) :: v2 :: v3 :: v4 :: v5 :: v6 :: v7 :: v8 :: v9 :: v10 :: v11 :: v12 :: v13 :: v14 :: v15 :: v16 :: v17 :: v18 :: v19 :: v20 :: v21 :: v22 :: v23 :: v24 :: v25 :: v26 :: v27 :: v28 :: v29 :: v30 :: v31 :: v32 :: v33 :: v34 :: v35 :: v36 :: v37 :: v38 :: [])), (at_, .inl (gB g, 65540, .inl f1))]) hx hb hr hlocks hQ hAe hK (hP.sub [0, 1] rfl) (hD.sub [0, 1] (by decide) rfl) hS (by omega) (by omega) dX9_word_42 ?_
        exact ⟨f1, rfl, by rw [ei], by assumption, by exact fun j hj => ew j (by omega)⟩
      · skip
        have c4 : ¬ (4 ≤ i) := fun z => c4 ((nI_leI (a := 4) (b := i) (by omega) (by omega)).mpr z)
        refine lv_aload_n hx hb dX9_word_7 rfl (lv_at hl 0 rfl) ?_
        refine va_get (D := gD g) (ci := 7) (v := .ref at_) (C := RX9) (T := TX9) (N := 39) hx hb hts hinX9 hown hK hP 0 rfl rfl 0 (by decide) hf10 (fun _ h9 => h9) rfl dX9_word_8 ?_
        refine lv_aload_n hx hb dX9_word_11 rfl (lv_at hl 0 rfl) ?_
        refine va_get (D := gD g) (ci := 7) (v := .int (nI (m_trayed + i))) (C := RX9) (T := TX9) (N := 39) hx hb hts hinX9 hown hK hP 0 rfl rfl 1 (by decide) hf46 (fun _ h9 => h9) rfl dX9_word_12 ?_
        refine lv_iload_n hx hb dX9_word_15 rfl (lv_at hl 1 rfl) ?_
        refine lv_bipush (v := nI 24) hx hb dX9_word_16 (by decide) ?_
        refine lv_bipush (v := nI 8) hx hb dX9_word_18 (by decide) ?_
        refine lv_iload_n hx hb dX9_word_20 rfl (lv_at hl 2 rfl) ?_
        refine q_imul (v := nI (8 * i)) hx hb dX9_word_21 (pk_mul 8 i) ?_
        refine q_isub (v := nI (24 - (8 * i))) hx hb dX9_word_22 (pk_sub (a := 24) (b := 8 * i) (by omega)) ?_
        refine q_ishr (v := x >>> (nI (24 - (8 * i)) &&& 31)) hx hb dX9_word_23 (rfl) ?_
        refine lv_i2b (v := wB x i) hx hb dX9_word_24 (sar_b (by omega)) ?_
        refine q_bast hx hb hK hP hD hS 1 rfl (m_trayed + i) rfl (by omega) (by omega) dX9_word_25 (fun H locs hP hD hS => ?_)
        have hP : va_P (gD g) vwCl [(mm, .inr (7, .ref at_ :: .int (nI (m_trayed + i)) :: v2 :: v3 :: v4 :: v5 :: v6 :: v7 :: v8 :: v9 :: v10 :: v11 :: v12 :: v13 :: v14 :: v15 :: v16 :: v17 :: v18 :: v19 :: v20 :: v21 :: v22 :: v23 :: v24 :: v25 :: v26 :: v27 :: v28 :: v29 :: v30 :: v31 :: v32 :: v33 :: v34 :: v35 :: v36 :: v37 :: v38 :: [])), (at_, .inl (gB g, 65540, .inl (upd f1 (m_trayed + i) ((wB x i).toInt8.toInt32))))] H := hP
        have hD : va_D A [(mm, .inr (7, .ref at_ :: .int (nI (m_trayed + i)) :: v2 :: v3 :: v4 :: v5 :: v6 :: v7 :: v8 :: v9 :: v10 :: v11 :: v12 :: v13 :: v14 :: v15 :: v16 :: v17 :: v18 :: v19 :: v20 :: v21 :: v22 :: v23 :: v24 :: v25 :: v26 :: v27 :: v28 :: v29 :: v30 :: v31 :: v32 :: v33 :: v34 :: v35 :: v36 :: v37 :: v38 :: [])), (at_, .inl (gB g, 65540, .inl (upd f1 (m_trayed + i) ((wB x i).toInt8.toInt32))))] := hD
        refine lv_aload_n hx hb dX9_word_26 rfl (lv_at hl 0 rfl) ?_
        refine lv_dup hx hb dX9_word_27 rfl ?_
        refine va_get (D := gD g) (ci := 7) (v := .int (nI (m_trayed + i))) (C := RX9) (T := TX9) (N := 39) hx hb hts hinX9 hown hK hP 0 rfl rfl 1 (by decide) hf46 (fun _ h9 => h9) rfl dX9_word_28 ?_
        refine lv_iconst (v := nI 1) hx hb dX9_word_31 (by decide) ?_
        refine q_iadd (v := nI (m_trayed + i + 1)) hx hb dX9_word_32 (nI_add (m_trayed + i) 1) ?_
        refine va_put (D := gD g) (ci := 7) (v := .int (nI (m_trayed + i + 1))) (ty := .int) (C := RX9) (T := TX9) (N := 39) hx hb hts hinX9 tyX9 tyX9_ok nmX9 hown hK hP hD hS 0 rfl rfl 1 (by decide) hf46 (fun _ h9 => h9) rfl (by decide +kernel) rfl rfl (Nat.le_of_ble_eq_true rfl) dX9_word_33 (fun H locs hP hD hS => ?_)
        have hP : va_P (gD g) vwCl [(mm, .inr (7, .ref at_ :: .int (nI (m_trayed + i + 1)) :: v2 :: v3 :: v4 :: v5 :: v6 :: v7 :: v8 :: v9 :: v10 :: v11 :: v12 :: v13 :: v14 :: v15 :: v16 :: v17 :: v18 :: v19 :: v20 :: v21 :: v22 :: v23 :: v24 :: v25 :: v26 :: v27 :: v28 :: v29 :: v30 :: v31 :: v32 :: v33 :: v34 :: v35 :: v36 :: v37 :: v38 :: [])), (at_, .inl (gB g, 65540, .inl (upd f1 (m_trayed + i) ((wB x i).toInt8.toInt32))))] H := hP
        have hD : va_D A [(mm, .inr (7, .ref at_ :: .int (nI (m_trayed + i + 1)) :: v2 :: v3 :: v4 :: v5 :: v6 :: v7 :: v8 :: v9 :: v10 :: v11 :: v12 :: v13 :: v14 :: v15 :: v16 :: v17 :: v18 :: v19 :: v20 :: v21 :: v22 :: v23 :: v24 :: v25 :: v26 :: v27 :: v28 :: v29 :: v30 :: v31 :: v32 :: v33 :: v34 :: v35 :: v36 :: v37 :: v38 :: [])), (at_, .inl (gB g, 65540, .inl (upd f1 (m_trayed + i) ((wB x i).toInt8.toInt32))))] := hD
        refine lv_iinc (v := nI (i + 1)) (lv' := [(2, .int (nI (i + 1))), (0, .ref mm), (1, .int x)]) hx hb dX9_word_36 hl (k := 2) rfl (nI_inc i 1) (by decide) rfl (fun ls hl => ?_)
        refine lv_goto (tgt := 2) hx hb dX9_word_39 (by decide) ?_
        exact ih_K2 (i + 1) (upd f1 (m_trayed + i) ((wB x i).toInt8.toInt32)) (by omega) (by exact fun j hj => (pk_un (by omega)).trans (ef j hj)) (by exact lt_s (fun j hj => (pk_un (by omega)).trans (ew j hj)) (pk_us.trans (b8b8 _))) (by omega) _ _ _ (hP.sub [0, 1] rfl) (hD.sub [0, 1] (by decide) rfl) hS (lv_sub hl [1, 2, 0] rfl)
  exact K2 ((4 - 0) + 1) 0 ft (by omega) (by exact fun j _ => rfl) (by intro j h1; omega) (Nat.lt_succ_self _) _ _ _ (hP.sub [0, 1] rfl) (hD.sub [0, 1] (by decide) rfl) hS (lv_sub hl [1, 2, 0] rfl)

set_option maxHeartbeats 4000000 in
set_option maxRecDepth 100000 in
theorem c_mFeed (l : Launch) (g : GT) (mm : Nat) (at_ : Nat) (m_trayed : Nat) (v2 : Value) (v3 : Value) (v4 : Value) (v5 : Value) (v6 : Value) (v7 : Value) (v8 : Value) (v9 : Value) (v10 : Value) (v11 : Value) (v12 : Value) (v13 : Value) (v14 : Value) (v15 : Value) (v16 : Value) (v17 : Value) (v18 : Value) (v19 : Value) (v20 : Value) (v21 : Value) (v22 : Value) (v23 : Value) (v24 : Value) (v25 : Value) (v26 : Value) (v27 : Value) (v28 : Value) (v29 : Value) (v30 : Value) (v31 : Value) (v32 : Value) (v33 : Value) (v34 : Value) (v35 : Value) (v36 : Value) (v37 : Value) (v38 : Value) (ft : Nat → Int32) (x1 : Int32) (x2 : Int32) (x3 : Int32) (x4 : Int32) (x5 : Int32) (hb1 : m_trayed ≤ 65540) : CT l g yX9_feed wsX9_feed ({ frames := 1, cells := 0, slots := 0, locals := 22 } : Room) [.ref mm, .int x1, .int x2, .int x3, .int x4, .int x5] [(mm, .inr (7, .ref at_ :: .int (nI m_trayed) :: v2 :: v3 :: v4 :: v5 :: v6 :: v7 :: v8 :: v9 :: v10 :: v11 :: v12 :: v13 :: v14 :: v15 :: v16 :: v17 :: v18 :: v19 :: v20 :: v21 :: v22 :: v23 :: v24 :: v25 :: v26 :: v27 :: v28 :: v29 :: v30 :: v31 :: v32 :: v33 :: v34 :: v35 :: v36 :: v37 :: v38 :: [])), (at_, .inl (gB g, 65540, .inl ft))] (fun r w => (r = some (.int (-1)) ∧ w = [(mm, .inr (7, .ref at_ :: .int (nI m_trayed) :: v2 :: v3 :: v4 :: v5 :: v6 :: v7 :: v8 :: v9 :: v10 :: v11 :: v12 :: v13 :: v14 :: v15 :: v16 :: v17 :: v18 :: v19 :: v20 :: v21 :: v22 :: v23 :: v24 :: v25 :: v26 :: v27 :: v28 :: v29 :: v30 :: v31 :: v32 :: v33 :: v34 :: v35 :: v36 :: v37 :: v38 :: [])), (at_, .inl (gB g, 65540, .inl ft))] ∧ (65520 < m_trayed)) ∨ (∃ (f1 : Nat → Int32), r = some (.int (nI (m_trayed + 20))) ∧ w = [(mm, .inr (7, .ref at_ :: .int (nI (m_trayed + 20)) :: v2 :: v3 :: v4 :: v5 :: v6 :: v7 :: v8 :: v9 :: v10 :: v11 :: v12 :: v13 :: v14 :: v15 :: v16 :: v17 :: v18 :: v19 :: v20 :: v21 :: v22 :: v23 :: v24 :: v25 :: v26 :: v27 :: v28 :: v29 :: v30 :: v31 :: v32 :: v33 :: v34 :: v35 :: v36 :: v37 :: v38 :: [])), (at_, .inl (gB g, 65540, .inl f1))] ∧ (m_trayed ≤ 65520) ∧ (∀ j, j < m_trayed → f1 j = ft j) ∧ (∀ j, j < 4 → f1 (m_trayed + 0 + j) = wB x1 j) ∧ (∀ j, j < 4 → f1 (m_trayed + 4 + j) = wB x2 j) ∧ (∀ j, j < 4 → f1 (m_trayed + 8 + j) = wB x3 j) ∧ (∀ j, j < 4 → f1 (m_trayed + 12 + j) = wB x4 j) ∧ (∀ j, j < 4 → f1 (m_trayed + 16 + j) = wB x5 j))) (0) (0) := by
  refine ct_of (cc := cX9_feed) (maxL := 6) (ret := (some .int)) (by decide) rfl (Nat.le_of_ble_eq_true rfl) ?_
  intro p e s m args below meth c A Q hx hb hr hml hown hts hlocks hnam hAe hQ hA hG hK hP hD hS ls hl
  have hl : lv_has ls 6 [(0, .ref mm), (1, .int x1), (2, .int x2), (3, .int x3), (4, .int x4), (5, .int x5)] := hl
  have hown : s.vm.findClass RX9 = some m.cls := hown
  have hinX9 : ∀ w ∈ u_ws RX9 TX9 39, w ∈ wsX9_feed := by decide +kernel
  have hf46 := hts (.fieldLink RX9 46 "RequestReaderModel" "trayed" "I") (by decide +kernel)
  refine lv_aload_n hx hb dX9_feed_0 rfl (lv_at hl 0 rfl) ?_
  refine va_get (D := gD g) (ci := 7) (v := .int (nI m_trayed)) (C := RX9) (T := TX9) (N := 39) hx hb hts hinX9 hown hK hP 0 rfl rfl 1 (by decide) hf46 (fun _ h9 => h9) rfl dX9_feed_1 ?_
  refine lv_bipush (v := nI 20) hx hb dX9_feed_4 (by decide) ?_
  refine q_iadd (v := nI (m_trayed + 20)) hx hb dX9_feed_6 (nI_add m_trayed 20) ?_
  refine lv_ldc hx hb hown (hts (.constant RX9 9 (65540)) (by decide +kernel)) dX9_feed_7 ?_
  refine q_top (v := nI 65540) (by decide) ?_
  refine lv_icmp_le (tgt := 14) hx hb dX9_feed_9 (by decide) (fun c9 => ?_) (fun c9 => ?_)
  · skip
    have c9 : m_trayed + 20 ≤ 65540 := (nI_leI (a := m_trayed + 20) (b := 65540) (by omega) (by omega)).mp c9
    refine lv_aload_n hx hb dX9_feed_14 rfl (lv_at hl 0 rfl) ?_
    refine lv_iload_n hx hb dX9_feed_15 rfl (lv_at hl 1 rfl) ?_
    refine ct_callV (wr := []) hx hb hml hown hts hK hP hD hS hA hG hl.1 (c_mWord l g mm at_ m_trayed ((v2 : Value)) ((v3 : Value)) ((v4 : Value)) ((v5 : Value)) ((v6 : Value)) ((v7 : Value)) ((v8 : Value)) ((v9 : Value)) ((v10 : Value)) ((v11 : Value)) ((v12 : Value)) ((v13 : Value)) ((v14 : Value)) ((v15 : Value)) ((v16 : Value)) ((v17 : Value)) ((v18 : Value)) ((v19 : Value)) ((v20 : Value)) ((v21 : Value)) ((v22 : Value)) ((v23 : Value)) ((v24 : Value)) ((v25 : Value)) ((v26 : Value)) ((v27 : Value)) ((v28 : Value)) ((v29 : Value)) ((v30 : Value)) ((v31 : Value)) ((v32 : Value)) ((v33 : Value)) ((v34 : Value)) ((v35 : Value)) ((v36 : Value)) ((v37 : Value)) ((v38 : Value)) ft x1 (by omega)) (cwV 1 hts gX9_feed_X9_word rfl rfl rfl (by decide +kernel) ⟨Nat.le_of_ble_eq_true rfl, Nat.le_of_ble_eq_true rfl⟩) (va_recv hK hP (ci := 7) (q0 := 0) rfl rfl) rfl rfl (Nat.le_of_ble_eq_true rfl) dX9_feed_16 ⟨show 0 + 0 ≤ 0 by omega, show 0 + 0 ≤ 0 by omega⟩ [0, 1] [] rfl rfl (by decide) (by decide) (by decide) (fun r_ w_ H locs hp_ hP hD hS => ?_)
    obtain ⟨f1_16, rfl, rfl, ef_16, ew_16⟩ := hp_
    have hP : va_P (gD g) vwCl [(mm, .inr (7, .ref at_ :: .int (nI (m_trayed + 4)) :: v2 :: v3 :: v4 :: v5 :: v6 :: v7 :: v8 :: v9 :: v10 :: v11 :: v12 :: v13 :: v14 :: v15 :: v16 :: v17 :: v18 :: v19 :: v20 :: v21 :: v22 :: v23 :: v24 :: v25 :: v26 :: v27 :: v28 :: v29 :: v30 :: v31 :: v32 :: v33 :: v34 :: v35 :: v36 :: v37 :: v38 :: [])), (at_, .inl (gB g, 65540, .inl f1_16))] H := hP
    have hD : va_D A [(mm, .inr (7, .ref at_ :: .int (nI (m_trayed + 4)) :: v2 :: v3 :: v4 :: v5 :: v6 :: v7 :: v8 :: v9 :: v10 :: v11 :: v12 :: v13 :: v14 :: v15 :: v16 :: v17 :: v18 :: v19 :: v20 :: v21 :: v22 :: v23 :: v24 :: v25 :: v26 :: v27 :: v28 :: v29 :: v30 :: v31 :: v32 :: v33 :: v34 :: v35 :: v36 :: v37 :: v38 :: [])), (at_, .inl (gB g, 65540, .inl f1_16))] := hD
    have ef_16 : ∀ j, j < m_trayed → f1_16 j = ft j := ef_16
    have ew_16 : ∀ j, j < 4 → f1_16 (m_trayed + j) = wB x1 j := ew_16
    refine W.eq (g2 := F0 m 19 ls []) rfl ?_
    refine lv_aload_n hx hb dX9_feed_19 rfl (lv_at hl 0 rfl) ?_
    refine lv_iload_n hx hb dX9_feed_20 rfl (lv_at hl 2 rfl) ?_
    refine ct_callV (wr := []) hx hb hml hown hts hK hP hD hS hA hG hl.1 (c_mWord l g mm at_ (m_trayed + 4) ((v2 : Value)) ((v3 : Value)) ((v4 : Value)) ((v5 : Value)) ((v6 : Value)) ((v7 : Value)) ((v8 : Value)) ((v9 : Value)) ((v10 : Value)) ((v11 : Value)) ((v12 : Value)) ((v13 : Value)) ((v14 : Value)) ((v15 : Value)) ((v16 : Value)) ((v17 : Value)) ((v18 : Value)) ((v19 : Value)) ((v20 : Value)) ((v21 : Value)) ((v22 : Value)) ((v23 : Value)) ((v24 : Value)) ((v25 : Value)) ((v26 : Value)) ((v27 : Value)) ((v28 : Value)) ((v29 : Value)) ((v30 : Value)) ((v31 : Value)) ((v32 : Value)) ((v33 : Value)) ((v34 : Value)) ((v35 : Value)) ((v36 : Value)) ((v37 : Value)) ((v38 : Value)) f1_16 x2 (by omega)) (cwV 1 hts gX9_feed_X9_word rfl rfl rfl (by decide +kernel) ⟨Nat.le_of_ble_eq_true rfl, Nat.le_of_ble_eq_true rfl⟩) (va_recv hK hP (ci := 7) (q0 := 0) rfl rfl) rfl rfl (Nat.le_of_ble_eq_true rfl) dX9_feed_21 ⟨show 0 + 0 ≤ 0 by omega, show 0 + 0 ≤ 0 by omega⟩ [0, 1] [] rfl rfl (by decide) (by decide) (by decide) (fun r_ w_ H locs hp_ hP hD hS => ?_)
    obtain ⟨f1_21, rfl, rfl, ef_21, ew_21⟩ := hp_
    have hP : va_P (gD g) vwCl [(mm, .inr (7, .ref at_ :: .int (nI ((m_trayed + 4) + 4)) :: v2 :: v3 :: v4 :: v5 :: v6 :: v7 :: v8 :: v9 :: v10 :: v11 :: v12 :: v13 :: v14 :: v15 :: v16 :: v17 :: v18 :: v19 :: v20 :: v21 :: v22 :: v23 :: v24 :: v25 :: v26 :: v27 :: v28 :: v29 :: v30 :: v31 :: v32 :: v33 :: v34 :: v35 :: v36 :: v37 :: v38 :: [])), (at_, .inl (gB g, 65540, .inl f1_21))] H := hP
    have hD : va_D A [(mm, .inr (7, .ref at_ :: .int (nI ((m_trayed + 4) + 4)) :: v2 :: v3 :: v4 :: v5 :: v6 :: v7 :: v8 :: v9 :: v10 :: v11 :: v12 :: v13 :: v14 :: v15 :: v16 :: v17 :: v18 :: v19 :: v20 :: v21 :: v22 :: v23 :: v24 :: v25 :: v26 :: v27 :: v28 :: v29 :: v30 :: v31 :: v32 :: v33 :: v34 :: v35 :: v36 :: v37 :: v38 :: [])), (at_, .inl (gB g, 65540, .inl f1_21))] := hD
    have ef_21 : ∀ j, j < (m_trayed + 4) → f1_21 j = f1_16 j := ef_21
    have ew_21 : ∀ j, j < 4 → f1_21 ((m_trayed + 4) + j) = wB x2 j := ew_21
    refine W.eq (g2 := F0 m 24 ls []) rfl ?_
    refine lv_aload_n hx hb dX9_feed_24 rfl (lv_at hl 0 rfl) ?_
    refine lv_iload_n hx hb dX9_feed_25 rfl (lv_at hl 3 rfl) ?_
    refine ct_callV (wr := []) hx hb hml hown hts hK hP hD hS hA hG hl.1 (c_mWord l g mm at_ ((m_trayed + 4) + 4) ((v2 : Value)) ((v3 : Value)) ((v4 : Value)) ((v5 : Value)) ((v6 : Value)) ((v7 : Value)) ((v8 : Value)) ((v9 : Value)) ((v10 : Value)) ((v11 : Value)) ((v12 : Value)) ((v13 : Value)) ((v14 : Value)) ((v15 : Value)) ((v16 : Value)) ((v17 : Value)) ((v18 : Value)) ((v19 : Value)) ((v20 : Value)) ((v21 : Value)) ((v22 : Value)) ((v23 : Value)) ((v24 : Value)) ((v25 : Value)) ((v26 : Value)) ((v27 : Value)) ((v28 : Value)) ((v29 : Value)) ((v30 : Value)) ((v31 : Value)) ((v32 : Value)) ((v33 : Value)) ((v34 : Value)) ((v35 : Value)) ((v36 : Value)) ((v37 : Value)) ((v38 : Value)) f1_21 x3 (by omega)) (cwV 1 hts gX9_feed_X9_word rfl rfl rfl (by decide +kernel) ⟨Nat.le_of_ble_eq_true rfl, Nat.le_of_ble_eq_true rfl⟩) (va_recv hK hP (ci := 7) (q0 := 0) rfl rfl) rfl rfl (Nat.le_of_ble_eq_true rfl) dX9_feed_26 ⟨show 0 + 0 ≤ 0 by omega, show 0 + 0 ≤ 0 by omega⟩ [0, 1] [] rfl rfl (by decide) (by decide) (by decide) (fun r_ w_ H locs hp_ hP hD hS => ?_)
    obtain ⟨f1_26, rfl, rfl, ef_26, ew_26⟩ := hp_
    have hP : va_P (gD g) vwCl [(mm, .inr (7, .ref at_ :: .int (nI (((m_trayed + 4) + 4) + 4)) :: v2 :: v3 :: v4 :: v5 :: v6 :: v7 :: v8 :: v9 :: v10 :: v11 :: v12 :: v13 :: v14 :: v15 :: v16 :: v17 :: v18 :: v19 :: v20 :: v21 :: v22 :: v23 :: v24 :: v25 :: v26 :: v27 :: v28 :: v29 :: v30 :: v31 :: v32 :: v33 :: v34 :: v35 :: v36 :: v37 :: v38 :: [])), (at_, .inl (gB g, 65540, .inl f1_26))] H := hP
    have hD : va_D A [(mm, .inr (7, .ref at_ :: .int (nI (((m_trayed + 4) + 4) + 4)) :: v2 :: v3 :: v4 :: v5 :: v6 :: v7 :: v8 :: v9 :: v10 :: v11 :: v12 :: v13 :: v14 :: v15 :: v16 :: v17 :: v18 :: v19 :: v20 :: v21 :: v22 :: v23 :: v24 :: v25 :: v26 :: v27 :: v28 :: v29 :: v30 :: v31 :: v32 :: v33 :: v34 :: v35 :: v36 :: v37 :: v38 :: [])), (at_, .inl (gB g, 65540, .inl f1_26))] := hD
    have ef_26 : ∀ j, j < ((m_trayed + 4) + 4) → f1_26 j = f1_21 j := ef_26
    have ew_26 : ∀ j, j < 4 → f1_26 (((m_trayed + 4) + 4) + j) = wB x3 j := ew_26
    refine W.eq (g2 := F0 m 29 ls []) rfl ?_
    refine lv_aload_n hx hb dX9_feed_29 rfl (lv_at hl 0 rfl) ?_
    refine lv_iload hx hb dX9_feed_30 (lv_at hl 4 rfl) ?_
    refine ct_callV (wr := []) hx hb hml hown hts hK hP hD hS hA hG hl.1 (c_mWord l g mm at_ (((m_trayed + 4) + 4) + 4) ((v2 : Value)) ((v3 : Value)) ((v4 : Value)) ((v5 : Value)) ((v6 : Value)) ((v7 : Value)) ((v8 : Value)) ((v9 : Value)) ((v10 : Value)) ((v11 : Value)) ((v12 : Value)) ((v13 : Value)) ((v14 : Value)) ((v15 : Value)) ((v16 : Value)) ((v17 : Value)) ((v18 : Value)) ((v19 : Value)) ((v20 : Value)) ((v21 : Value)) ((v22 : Value)) ((v23 : Value)) ((v24 : Value)) ((v25 : Value)) ((v26 : Value)) ((v27 : Value)) ((v28 : Value)) ((v29 : Value)) ((v30 : Value)) ((v31 : Value)) ((v32 : Value)) ((v33 : Value)) ((v34 : Value)) ((v35 : Value)) ((v36 : Value)) ((v37 : Value)) ((v38 : Value)) f1_26 x4 (by omega)) (cwV 1 hts gX9_feed_X9_word rfl rfl rfl (by decide +kernel) ⟨Nat.le_of_ble_eq_true rfl, Nat.le_of_ble_eq_true rfl⟩) (va_recv hK hP (ci := 7) (q0 := 0) rfl rfl) rfl rfl (Nat.le_of_ble_eq_true rfl) dX9_feed_32 ⟨show 0 + 0 ≤ 0 by omega, show 0 + 0 ≤ 0 by omega⟩ [0, 1] [] rfl rfl (by decide) (by decide) (by decide) (fun r_ w_ H locs hp_ hP hD hS => ?_)
    obtain ⟨f1_32, rfl, rfl, ef_32, ew_32⟩ := hp_
    have hP : va_P (gD g) vwCl [(mm, .inr (7, .ref at_ :: .int (nI ((((m_trayed + 4) + 4) + 4) + 4)) :: v2 :: v3 :: v4 :: v5 :: v6 :: v7 :: v8 :: v9 :: v10 :: v11 :: v12 :: v13 :: v14 :: v15 :: v16 :: v17 :: v18 :: v19 :: v20 :: v21 :: v22 :: v23 :: v24 :: v25 :: v26 :: v27 :: v28 :: v29 :: v30 :: v31 :: v32 :: v33 :: v34 :: v35 :: v36 :: v37 :: v38 :: [])), (at_, .inl (gB g, 65540, .inl f1_32))] H := hP
    have hD : va_D A [(mm, .inr (7, .ref at_ :: .int (nI ((((m_trayed + 4) + 4) + 4) + 4)) :: v2 :: v3 :: v4 :: v5 :: v6 :: v7 :: v8 :: v9 :: v10 :: v11 :: v12 :: v13 :: v14 :: v15 :: v16 :: v17 :: v18 :: v19 :: v20 :: v21 :: v22 :: v23 :: v24 :: v25 :: v26 :: v27 :: v28 :: v29 :: v30 :: v31 :: v32 :: v33 :: v34 :: v35 :: v36 :: v37 :: v38 :: [])), (at_, .inl (gB g, 65540, .inl f1_32))] := hD
    have ef_32 : ∀ j, j < (((m_trayed + 4) + 4) + 4) → f1_32 j = f1_26 j := ef_32
    have ew_32 : ∀ j, j < 4 → f1_32 ((((m_trayed + 4) + 4) + 4) + j) = wB x4 j := ew_32
    refine W.eq (g2 := F0 m 35 ls []) rfl ?_
    refine lv_aload_n hx hb dX9_feed_35 rfl (lv_at hl 0 rfl) ?_
    refine lv_iload hx hb dX9_feed_36 (lv_at hl 5 rfl) ?_
    refine ct_callV (wr := []) hx hb hml hown hts hK hP hD hS hA hG hl.1 (c_mWord l g mm at_ ((((m_trayed + 4) + 4) + 4) + 4) ((v2 : Value)) ((v3 : Value)) ((v4 : Value)) ((v5 : Value)) ((v6 : Value)) ((v7 : Value)) ((v8 : Value)) ((v9 : Value)) ((v10 : Value)) ((v11 : Value)) ((v12 : Value)) ((v13 : Value)) ((v14 : Value)) ((v15 : Value)) ((v16 : Value)) ((v17 : Value)) ((v18 : Value)) ((v19 : Value)) ((v20 : Value)) ((v21 : Value)) ((v22 : Value)) ((v23 : Value)) ((v24 : Value)) ((v25 : Value)) ((v26 : Value)) ((v27 : Value)) ((v28 : Value)) ((v29 : Value)) ((v30 : Value)) ((v31 : Value)) ((v32 : Value)) ((v33 : Value)) ((v34 : Value)) ((v35 : Value)) ((v36 : Value)) ((v37 : Value)) ((v38 : Value)) f1_32 x5 (by omega)) (cwV 1 hts gX9_feed_X9_word rfl rfl rfl (by decide +kernel) ⟨Nat.le_of_ble_eq_true rfl, Nat.le_of_ble_eq_true rfl⟩) (va_recv hK hP (ci := 7) (q0 := 0) rfl rfl) rfl rfl (Nat.le_of_ble_eq_true rfl) dX9_feed_38 ⟨show 0 + 0 ≤ 0 by omega, show 0 + 0 ≤ 0 by omega⟩ [0, 1] [] rfl rfl (by decide) (by decide) (by decide) (fun r_ w_ H locs hp_ hP hD hS => ?_)
    obtain ⟨f1_38, rfl, rfl, ef_38, ew_38⟩ := hp_
    have hP : va_P (gD g) vwCl [(mm, .inr (7, .ref at_ :: .int (nI (((((m_trayed + 4) + 4) + 4) + 4) + 4)) :: v2 :: v3 :: v4 :: v5 :: v6 :: v7 :: v8 :: v9 :: v10 :: v11 :: v12 :: v13 :: v14 :: v15 :: v16 :: v17 :: v18 :: v19 :: v20 :: v21 :: v22 :: v23 :: v24 :: v25 :: v26 :: v27 :: v28 :: v29 :: v30 :: v31 :: v32 :: v33 :: v34 :: v35 :: v36 :: v37 :: v38 :: [])), (at_, .inl (gB g, 65540, .inl f1_38))] H := hP
    have hD : va_D A [(mm, .inr (7, .ref at_ :: .int (nI (((((m_trayed + 4) + 4) + 4) + 4) + 4)) :: v2 :: v3 :: v4 :: v5 :: v6 :: v7 :: v8 :: v9 :: v10 :: v11 :: v12 :: v13 :: v14 :: v15 :: v16 :: v17 :: v18 :: v19 :: v20 :: v21 :: v22 :: v23 :: v24 :: v25 :: v26 :: v27 :: v28 :: v29 :: v30 :: v31 :: v32 :: v33 :: v34 :: v35 :: v36 :: v37 :: v38 :: [])), (at_, .inl (gB g, 65540, .inl f1_38))] := hD
    have ef_38 : ∀ j, j < ((((m_trayed + 4) + 4) + 4) + 4) → f1_38 j = f1_32 j := ef_38
    have ew_38 : ∀ j, j < 4 → f1_38 (((((m_trayed + 4) + 4) + 4) + 4) + j) = wB x5 j := ew_38
    refine W.eq (g2 := F0 m 41 ls []) rfl ?_
    refine lv_aload_n hx hb dX9_feed_41 rfl (lv_at hl 0 rfl) ?_
    refine va_get (D := gD g) (ci := 7) (v := .int (nI (((((m_trayed + 4) + 4) + 4) + 4) + 4))) (C := RX9) (T := TX9) (N := 39) hx hb hts hinX9 hown hK hP 0 rfl rfl 1 (by decide) hf46 (fun _ h9 => h9) rfl dX9_feed_42 ?_
    refine ct_iret (w := [(mm, .inr (7, .ref at_ :: .int (nI (((((m_trayed + 4) + 4) + 4) + 4) + 4)) :: v2 :: v3 :: v4 :: v5 :: v6 :: v7 :: v8 :: v9 :: v10 :: v11 :: v12 :: v13 :: v14 :: v15 :: v16 :: v17 :: v18 :: v19 :: v20 :: v21 :: v22 :: v23 :: v24 :: v25 :: v26 :: v27 :: v28 :: v29 :: v30 :: v31 :: v32 :: v33 :: v34 :: v35 :: v36 :: v37 :: v38 :: [])), (at_, .inl (gB g, 65540, .inl f1_38))]) hx hb hr rfl hlocks hQ hAe hK (hP.sub [0, 1] rfl) (hD.sub [0, 1] (by decide) rfl) hS (by omega) (by omega) dX9_feed_45 ?_
    refine Or.inr ((?_))
    exact ⟨f1_38, rfl, rfl, by omega, by exact fun j hj => (ef_38 j (by omega)).trans ((ef_32 j (by omega)).trans ((ef_26 j (by omega)).trans ((ef_21 j (by omega)).trans (ef_16 j hj)))), by exact (keep4 (keep4 (keep4 (keep4 ew_16 ef_21 (by omega)) ef_26 (by omega)) ef_32 (by omega)) ef_38 (by omega)), by exact (keep4 (keep4 (keep4 ew_21 ef_26 (by omega)) ef_32 (by omega)) ef_38 (by omega)), by exact (keep4 (keep4 ew_26 ef_32 (by omega)) ef_38 (by omega)), by exact (keep4 ew_32 ef_38 (by omega)), by exact ew_38⟩
  · skip
    have c9 : ¬ (m_trayed + 20 ≤ 65540) := fun z => c9 ((nI_leI (a := m_trayed + 20) (b := 65540) (by omega) (by omega)).mpr z)
    refine lv_iconst (v := (-1)) hx hb dX9_feed_12 (by decide) ?_
    refine ct_iret (w := [(mm, .inr (7, .ref at_ :: .int (nI m_trayed) :: v2 :: v3 :: v4 :: v5 :: v6 :: v7 :: v8 :: v9 :: v10 :: v11 :: v12 :: v13 :: v14 :: v15 :: v16 :: v17 :: v18 :: v19 :: v20 :: v21 :: v22 :: v23 :: v24 :: v25 :: v26 :: v27 :: v28 :: v29 :: v30 :: v31 :: v32 :: v33 :: v34 :: v35 :: v36 :: v37 :: v38 :: [])), (at_, .inl (gB g, 65540, .inl ft))]) hx hb hr rfl hlocks hQ hAe hK (hP.sub [0, 1] rfl) (hD.sub [0, 1] (by decide) rfl) hS (by omega) (by omega) dX9_feed_13 ?_
    refine Or.inl (?_)
    exact ⟨rfl, rfl, by omega⟩

set_option maxHeartbeats 4000000 in
set_option maxRecDepth 100000 in
theorem c_mEnd (l : Launch) (g : GT) (mm : Nat) (v0 : Value) (m_trayed : Nat) (v2 : Value) (v3 : Value) (v4 : Value) (v5 : Value) (v6 : Value) (v7 : Value) (v8 : Value) (v9 : Value) (v10 : Value) (v11 : Value) (v12 : Value) (v13 : Value) (v14 : Value) (v15 : Value) (v16 : Value) (v17 : Value) (v18 : Value) (v19 : Value) (v20 : Value) (v21 : Value) (v22 : Value) (v23 : Value) (v24 : Value) (v25 : Value) (v26 : Value) (v27 : Value) (v28 : Value) (v29 : Value) (v30 : Value) (v31 : Value) (v32 : Value) (v33 : Value) (v34 : Value) (v35 : Value) (v36 : Value) (v37 : Value) (v38 : Value) (x : Int32) (hb1 : m_trayed ≤ 65540) : CT l g yX9_end wsX9_end ({ frames := 0, cells := 0, slots := 0, locals := 0 } : Room) [.ref mm, .int x] [(mm, .inr (7, v0 :: .int (nI m_trayed) :: v2 :: v3 :: v4 :: v5 :: v6 :: v7 :: v8 :: v9 :: v10 :: v11 :: v12 :: v13 :: v14 :: v15 :: v16 :: v17 :: v18 :: v19 :: v20 :: v21 :: v22 :: v23 :: v24 :: v25 :: v26 :: v27 :: v28 :: v29 :: v30 :: v31 :: v32 :: v33 :: v34 :: v35 :: v36 :: v37 :: v38 :: []))] (fun r w => (r = some (.int (-1)) ∧ w = [(mm, .inr (7, v0 :: .int (nI m_trayed) :: v2 :: v3 :: v4 :: v5 :: v6 :: v7 :: v8 :: v9 :: v10 :: v11 :: v12 :: v13 :: v14 :: v15 :: v16 :: v17 :: v18 :: v19 :: v20 :: v21 :: v22 :: v23 :: v24 :: v25 :: v26 :: v27 :: v28 :: v29 :: v30 :: v31 :: v32 :: v33 :: v34 :: v35 :: v36 :: v37 :: v38 :: []))] ∧ (x < 0 ∨ nI m_trayed < x)) ∨ (∃ (j : Nat), r = some (.int (nI j)) ∧ w = [(mm, .inr (7, v0 :: .int (nI j) :: v2 :: v3 :: v4 :: v5 :: v6 :: v7 :: v8 :: v9 :: v10 :: v11 :: v12 :: v13 :: v14 :: v15 :: v16 :: v17 :: v18 :: v19 :: v20 :: v21 :: v22 :: v23 :: v24 :: v25 :: v26 :: v27 :: v28 :: v29 :: v30 :: v31 :: v32 :: v33 :: v34 :: v35 :: v36 :: v37 :: v38 :: []))] ∧ (x = nI j) ∧ (j ≤ m_trayed))) (0) (0) := by
  refine ct_of (cc := cX9_end) (maxL := 2) (ret := (some .int)) (by decide) rfl (Nat.le_of_ble_eq_true rfl) ?_
  intro p e s m args below meth c A Q hx hb hr hml hown hts hlocks hnam hAe hQ hA hG hK hP hD hS ls hl
  have hl : lv_has ls 2 [(0, .ref mm), (1, .int x)] := hl
  have hown : s.vm.findClass RX9 = some m.cls := hown
  have hinX9 : ∀ w ∈ u_ws RX9 TX9 39, w ∈ wsX9_end := by decide +kernel
  have hf46 := hts (.fieldLink RX9 46 "RequestReaderModel" "trayed" "I") (by decide +kernel)
  refine lv_iload_n hx hb dX9_end_0 rfl (lv_at hl 1 rfl) ?_
  refine lv_if_lt (tgt := 12) hx hb dX9_end_1 (by decide) (fun c1 => ?_) (fun c1 => ?_)
  · skip
    refine lv_iconst (v := (-1)) hx hb dX9_end_12 (by decide) ?_
    refine ct_iret (w := [(mm, .inr (7, v0 :: .int (nI m_trayed) :: v2 :: v3 :: v4 :: v5 :: v6 :: v7 :: v8 :: v9 :: v10 :: v11 :: v12 :: v13 :: v14 :: v15 :: v16 :: v17 :: v18 :: v19 :: v20 :: v21 :: v22 :: v23 :: v24 :: v25 :: v26 :: v27 :: v28 :: v29 :: v30 :: v31 :: v32 :: v33 :: v34 :: v35 :: v36 :: v37 :: v38 :: []))]) hx hb hr rfl hlocks hQ hAe hK (hP.sub [0] rfl) (hD.sub [0] (by decide) rfl) hS (by omega) (by omega) dX9_end_13 ?_
    refine Or.inl (?_)
    exact ⟨rfl, rfl, by first | exact Or.inl c1 | exact Or.inr (Int32.not_le.mp c9)⟩
  · skip
    refine lv_iload_n hx hb dX9_end_4 rfl (lv_at hl 1 rfl) ?_
    refine lv_aload_n hx hb dX9_end_5 rfl (lv_at hl 0 rfl) ?_
    refine va_get (D := gD g) (ci := 7) (v := .int (nI m_trayed)) (C := RX9) (T := TX9) (N := 39) hx hb hts hinX9 hown hK hP 0 rfl rfl 1 (by decide) hf46 (fun _ h9 => h9) rfl dX9_end_6 ?_
    refine lv_icmp_le (tgt := 14) hx hb dX9_end_9 (by decide) (fun c9 => ?_) (fun c9 => ?_)
    · skip
      obtain ⟨j, hj, rfl⟩ := nI_of c1
      have hj2 : j ≤ m_trayed := (nI_leI hj (by omega)).mp c9
      refine lv_aload_n hx hb dX9_end_14 rfl (lv_at hl 0 rfl) ?_
      refine lv_iload_n hx hb dX9_end_15 rfl (lv_at hl 1 rfl) ?_
      refine va_put (D := gD g) (ci := 7) (v := .int (nI j)) (ty := .int) (C := RX9) (T := TX9) (N := 39) hx hb hts hinX9 tyX9 tyX9_ok nmX9 hown hK hP hD hS 0 rfl rfl 1 (by decide) hf46 (fun _ h9 => h9) rfl (by decide +kernel) rfl rfl (Nat.le_of_ble_eq_true rfl) dX9_end_16 (fun H locs hP hD hS => ?_)
      have hP : va_P (gD g) vwCl [(mm, .inr (7, v0 :: .int (nI j) :: v2 :: v3 :: v4 :: v5 :: v6 :: v7 :: v8 :: v9 :: v10 :: v11 :: v12 :: v13 :: v14 :: v15 :: v16 :: v17 :: v18 :: v19 :: v20 :: v21 :: v22 :: v23 :: v24 :: v25 :: v26 :: v27 :: v28 :: v29 :: v30 :: v31 :: v32 :: v33 :: v34 :: v35 :: v36 :: v37 :: v38 :: []))] H := hP
      have hD : va_D A [(mm, .inr (7, v0 :: .int (nI j) :: v2 :: v3 :: v4 :: v5 :: v6 :: v7 :: v8 :: v9 :: v10 :: v11 :: v12 :: v13 :: v14 :: v15 :: v16 :: v17 :: v18 :: v19 :: v20 :: v21 :: v22 :: v23 :: v24 :: v25 :: v26 :: v27 :: v28 :: v29 :: v30 :: v31 :: v32 :: v33 :: v34 :: v35 :: v36 :: v37 :: v38 :: []))] := hD
      refine lv_iload_n hx hb dX9_end_19 rfl (lv_at hl 1 rfl) ?_
      refine ct_iret (w := [(mm, .inr (7, v0 :: .int (nI j) :: v2 :: v3 :: v4 :: v5 :: v6 :: v7 :: v8 :: v9 :: v10 :: v11 :: v12 :: v13 :: v14 :: v15 :: v16 :: v17 :: v18 :: v19 :: v20 :: v21 :: v22 :: v23 :: v24 :: v25 :: v26 :: v27 :: v28 :: v29 :: v30 :: v31 :: v32 :: v33 :: v34 :: v35 :: v36 :: v37 :: v38 :: []))]) hx hb hr rfl hlocks hQ hAe hK (hP.sub [0] rfl) (hD.sub [0] (by decide) rfl) hS (by omega) (by omega) dX9_end_20 ?_
      refine Or.inr ((?_))
      exact ⟨j, rfl, rfl, by rfl, by omega⟩
    · skip
      refine lv_iconst (v := (-1)) hx hb dX9_end_12 (by decide) ?_
      refine ct_iret (w := [(mm, .inr (7, v0 :: .int (nI m_trayed) :: v2 :: v3 :: v4 :: v5 :: v6 :: v7 :: v8 :: v9 :: v10 :: v11 :: v12 :: v13 :: v14 :: v15 :: v16 :: v17 :: v18 :: v19 :: v20 :: v21 :: v22 :: v23 :: v24 :: v25 :: v26 :: v27 :: v28 :: v29 :: v30 :: v31 :: v32 :: v33 :: v34 :: v35 :: v36 :: v37 :: v38 :: []))]) hx hb hr rfl hlocks hQ hAe hK (hP.sub [0] rfl) (hD.sub [0] (by decide) rfl) hS (by omega) (by omega) dX9_end_13 ?_
      refine Or.inl (?_)
      exact ⟨rfl, rfl, by first | exact Or.inl c1 | exact Or.inr (Int32.not_le.mp c9)⟩

set_option maxHeartbeats 4000000 in
set_option maxRecDepth 100000 in
theorem c_mInstall (l : Launch) (g : GT) (mm : Nat) (at_ : Nat) (m_trayed : Nat) (ai_ : Nat) (m_imageSize : Nat) (m_opened : Nat) (v5 : Value) (v6 : Value) (v7 : Value) (v8 : Value) (v9 : Value) (v10 : Value) (m_heldBytes : Nat) (m_leave : Nat) (v13 : Value) (v14 : Value) (m_answerLength : Nat) (m_bodyLength : Nat) (v17 : Value) (v18 : Value) (v19 : Value) (v20 : Value) (v21 : Value) (v22 : Value) (v23 : Value) (v24 : Value) (v25 : Value) (v26 : Value) (v27 : Value) (v28 : Value) (v29 : Value) (v30 : Value) (v31 : Value) (v32 : Value) (v33 : Value) (v34 : Value) (v35 : Value) (v36 : Value) (v37 : Value) (v38 : Value) (ft : Nat → Int32) (fi : Nat → Int32) (f : Nat → Int32) (hb1 : m_trayed ≤ 65540) (hM : ∀ j, j < m_trayed → ft j = f j) (hfit : sb_Fit f) : CT l g yX9_install wsX9_install ({ frames := 0, cells := 0, slots := 0, locals := 0 } : Room) [.ref mm] [(mm, .inr (7, .ref at_ :: .int (nI m_trayed) :: .ref ai_ :: .int (nI m_imageSize) :: .int (nI m_opened) :: v5 :: v6 :: v7 :: v8 :: v9 :: v10 :: .int (nI m_heldBytes) :: .int (nI m_leave) :: v13 :: v14 :: .int (nI m_answerLength) :: .int (nI m_bodyLength) :: v17 :: v18 :: v19 :: v20 :: v21 :: v22 :: v23 :: v24 :: v25 :: v26 :: v27 :: v28 :: v29 :: v30 :: v31 :: v32 :: v33 :: v34 :: v35 :: v36 :: v37 :: v38 :: [])), (at_, .inl (gB g, 65540, .inl ft)), (ai_, .inl (gB g, 65535, .inl fi))] (fun r w => (r = some (.int (-1)) ∧ w = [(mm, .inr (7, .ref at_ :: .int (nI m_trayed) :: .ref ai_ :: .int (nI m_imageSize) :: .int (nI m_opened) :: v5 :: v6 :: v7 :: v8 :: v9 :: v10 :: .int (nI m_heldBytes) :: .int (nI m_leave) :: v13 :: v14 :: .int (nI m_answerLength) :: .int (nI m_bodyLength) :: v17 :: v18 :: v19 :: v20 :: v21 :: v22 :: v23 :: v24 :: v25 :: v26 :: v27 :: v28 :: v29 :: v30 :: v31 :: v32 :: v33 :: v34 :: v35 :: v36 :: v37 :: v38 :: [])), (at_, .inl (gB g, 65540, .inl ft)), (ai_, .inl (gB g, 65535, .inl fi))] ∧ (65535 < m_trayed)) ∨ (∃ (f1 : Nat → Int32), r = some (.int (nI m_trayed)) ∧ w = [(mm, .inr (7, .ref at_ :: .int (nI 0) :: .ref ai_ :: .int (nI m_trayed) :: .int (nI 0) :: v5 :: v6 :: v7 :: v8 :: v9 :: v10 :: .int (nI 0) :: .int (nI 0) :: v13 :: v14 :: .int (nI 0) :: .int (nI 0) :: v17 :: v18 :: v19 :: v20 :: v21 :: v22 :: v23 :: v24 :: v25 :: v26 :: v27 :: v28 :: v29 :: v30 :: v31 :: v32 :: v33 :: v34 :: v35 :: v36 :: v37 :: v38 :: [])), (at_, .inl (gB g, 65540, .inl ft)), (ai_, .inl (gB g, 65535, .inl f1))] ∧ (m_trayed ≤ 65535) ∧ (∀ j, j < m_trayed → f1 j = f j))) (0) (0) := by
  refine ct_of (cc := cX9_install) (maxL := 2) (ret := (some .int)) (by decide) rfl (Nat.le_of_ble_eq_true rfl) ?_
  intro p e s m args below meth c A Q hx hb hr hml hown hts hlocks hnam hAe hQ hA hG hK hP hD hS ls hl
  have hl : lv_has ls 2 [(0, .ref mm)] := hl
  have hown : s.vm.findClass RX9 = some m.cls := hown
  have hinX9 : ∀ w ∈ u_ws RX9 TX9 39, w ∈ wsX9_install := by decide +kernel
  have hf10 := hts (.fieldLink RX9 10 "RequestReaderModel" "tray" "[B") (by decide +kernel)
  have hf15 := hts (.fieldLink RX9 15 "RequestReaderModel" "image" "[B") (by decide +kernel)
  have hf46 := hts (.fieldLink RX9 46 "RequestReaderModel" "trayed" "I") (by decide +kernel)
  have hf54 := hts (.fieldLink RX9 54 "RequestReaderModel" "imageSize" "I") (by decide +kernel)
  have hf57 := hts (.fieldLink RX9 57 "RequestReaderModel" "opened" "Z") (by decide +kernel)
  have hf61 := hts (.fieldLink RX9 61 "RequestReaderModel" "heldBytes" "I") (by decide +kernel)
  have hf64 := hts (.fieldLink RX9 64 "RequestReaderModel" "leave" "I") (by decide +kernel)
  have hf67 := hts (.fieldLink RX9 67 "RequestReaderModel" "answerLength" "I") (by decide +kernel)
  have hf70 := hts (.fieldLink RX9 70 "RequestReaderModel" "bodyLength" "I") (by decide +kernel)
  refine lv_aload_n hx hb dX9_install_0 rfl (lv_at hl 0 rfl) ?_
  refine va_get (D := gD g) (ci := 7) (v := .int (nI m_trayed)) (C := RX9) (T := TX9) (N := 39) hx hb hts hinX9 hown hK hP 0 rfl rfl 1 (by decide) hf46 (fun _ h9 => h9) rfl dX9_install_1 ?_
  refine lv_ldc hx hb hown (hts (.constant RX9 14 (65535)) (by decide +kernel)) dX9_install_4 ?_
  refine q_top (v := nI 65535) (by decide) ?_
  refine lv_icmp_le (tgt := 11) hx hb dX9_install_6 (by decide) (fun c6 => ?_) (fun c6 => ?_)
  · skip
    have c6 : m_trayed ≤ 65535 := (nI_leI (a := m_trayed) (b := 65535) (by omega) (by omega)).mp c6
    refine lv_iconst (v := nI 0) hx hb dX9_install_11 (by decide) ?_
    refine lv_istore_n (lv' := [(1, .int (nI 0)), (0, .ref mm)]) hx hb dX9_install_12 rfl hl (by decide) rfl (fun ls hl => ?_)
    have K13 : ∀ (N_ : Nat) (i : Nat) (f1 : Nat → Int32), (i ≤ m_trayed) → (∀ j, j < i → f1 j = f j) → (m_trayed - i) < N_ → ∀ (H : Heap) (locs : List Loc) (ls : Array Slot), va_P (gD g) vwCl [(mm, .inr (7, .ref at_ :: .int (nI m_trayed) :: .ref ai_ :: .int (nI m_imageSize) :: .int (nI m_opened) :: v5 :: v6 :: v7 :: v8 :: v9 :: v10 :: .int (nI m_heldBytes) :: .int (nI m_leave) :: v13 :: v14 :: .int (nI m_answerLength) :: .int (nI m_bodyLength) :: v17 :: v18 :: v19 :: v20 :: v21 :: v22 :: v23 :: v24 :: v25 :: v26 :: v27 :: v28 :: v29 :: v30 :: v31 :: v32 :: v33 :: v34 :: v35 :: v36 :: v37 :: v38 :: [])), (at_, .inl (gB g, 65540, .inl ft)), (ai_, .inl (gB g, 65535, .inl f1))] H → va_D A [(mm, .inr (7, .ref at_ :: .int (nI m_trayed) :: .ref ai_ :: .int (nI m_imageSize) :: .int (nI m_opened) :: v5 :: v6 :: v7 :: v8 :: v9 :: v10 :: .int (nI m_heldBytes) :: .int (nI m_leave) :: v13 :: v14 :: .int (nI m_answerLength) :: .int (nI m_bodyLength) :: v17 :: v18 :: v19 :: v20 :: v21 :: v22 :: v23 :: v24 :: v25 :: v26 :: v27 :: v28 :: v29 :: v30 :: v31 :: v32 :: v33 :: v34 :: v35 :: v36 :: v37 :: v38 :: [])), (at_, .inl (gB g, 65540, .inl ft)), (ai_, .inl (gB g, 65535, .inl f1))] → va_S A s.heap H locs → lv_has ls 2 [(0, .ref mm), (1, .int (nI i))] → W p l e ({ frames := 0, cells := 0, slots := 0, locals := 0 } : Room) s m args below meth c H locs (0) (0) Q (F0 m 13 ls []) := by
      intro N_
      induction N_ with
      | zero => intro i f1 hi ec hm_; exact absurd hm_ (Nat.not_lt_zero _)
      | succ N_ ih_K13 =>
        intro i f1 hi ec hm_ H locs ls hP hD hS hl
        refine lv_iload_n hx hb dX9_install_13 rfl (lv_at hl 1 rfl) ?_
        refine lv_aload_n hx hb dX9_install_14 rfl (lv_at hl 0 rfl) ?_
        refine va_get (D := gD g) (ci := 7) (v := .int (nI m_trayed)) (C := RX9) (T := TX9) (N := 39) hx hb hts hinX9 hown hK hP 0 rfl rfl 1 (by decide) hf46 (fun _ h9 => h9) rfl dX9_install_15 ?_
        refine lv_icmp_ge (tgt := 39) hx hb dX9_install_18 (by decide) (fun c18 => ?_) (fun c18 => ?_)
        · skip
          have c18 : m_trayed ≤ i := (nI_leI (a := m_trayed) (b := i) (by omega) (by omega)).mp c18
          refine lv_aload_n hx hb dX9_install_39 rfl (lv_at hl 0 rfl) ?_
          refine lv_aload_n hx hb dX9_install_40 rfl (lv_at hl 0 rfl) ?_
          refine va_get (D := gD g) (ci := 7) (v := .int (nI m_trayed)) (C := RX9) (T := TX9) (N := 39) hx hb hts hinX9 hown hK hP 0 rfl rfl 1 (by decide) hf46 (fun _ h9 => h9) rfl dX9_install_41 ?_
          refine va_put (D := gD g) (ci := 7) (v := .int (nI m_trayed)) (ty := .int) (C := RX9) (T := TX9) (N := 39) hx hb hts hinX9 tyX9 tyX9_ok nmX9 hown hK hP hD hS 0 rfl rfl 3 (by decide) hf54 (fun _ h9 => h9) rfl (by decide +kernel) rfl rfl (Nat.le_of_ble_eq_true rfl) dX9_install_44 (fun H locs hP hD hS => ?_)
          have hP : va_P (gD g) vwCl [(mm, .inr (7, .ref at_ :: .int (nI m_trayed) :: .ref ai_ :: .int (nI m_trayed) :: .int (nI m_opened) :: v5 :: v6 :: v7 :: v8 :: v9 :: v10 :: .int (nI m_heldBytes) :: .int (nI m_leave) :: v13 :: v14 :: .int (nI m_answerLength) :: .int (nI m_bodyLength) :: v17 :: v18 :: v19 :: v20 :: v21 :: v22 :: v23 :: v24 :: v25 :: v26 :: v27 :: v28 :: v29 :: v30 :: v31 :: v32 :: v33 :: v34 :: v35 :: v36 :: v37 :: v38 :: [])), (at_, .inl (gB g, 65540, .inl ft)), (ai_, .inl (gB g, 65535, .inl f1))] H := hP
          have hD : va_D A [(mm, .inr (7, .ref at_ :: .int (nI m_trayed) :: .ref ai_ :: .int (nI m_trayed) :: .int (nI m_opened) :: v5 :: v6 :: v7 :: v8 :: v9 :: v10 :: .int (nI m_heldBytes) :: .int (nI m_leave) :: v13 :: v14 :: .int (nI m_answerLength) :: .int (nI m_bodyLength) :: v17 :: v18 :: v19 :: v20 :: v21 :: v22 :: v23 :: v24 :: v25 :: v26 :: v27 :: v28 :: v29 :: v30 :: v31 :: v32 :: v33 :: v34 :: v35 :: v36 :: v37 :: v38 :: [])), (at_, .inl (gB g, 65540, .inl ft)), (ai_, .inl (gB g, 65535, .inl f1))] := hD
          refine lv_aload_n hx hb dX9_install_47 rfl (lv_at hl 0 rfl) ?_
          refine lv_iconst (v := nI 0) hx hb dX9_install_48 (by decide) ?_
          refine va_put (D := gD g) (ci := 7) (v := .int (nI 0)) (ty := .int) (C := RX9) (T := TX9) (N := 39) hx hb hts hinX9 tyX9 tyX9_ok nmX9 hown hK hP hD hS 0 rfl rfl 1 (by decide) hf46 (fun _ h9 => h9) rfl (by decide +kernel) rfl rfl (Nat.le_of_ble_eq_true rfl) dX9_install_49 (fun H locs hP hD hS => ?_)
          have hP : va_P (gD g) vwCl [(mm, .inr (7, .ref at_ :: .int (nI 0) :: .ref ai_ :: .int (nI m_trayed) :: .int (nI m_opened) :: v5 :: v6 :: v7 :: v8 :: v9 :: v10 :: .int (nI m_heldBytes) :: .int (nI m_leave) :: v13 :: v14 :: .int (nI m_answerLength) :: .int (nI m_bodyLength) :: v17 :: v18 :: v19 :: v20 :: v21 :: v22 :: v23 :: v24 :: v25 :: v26 :: v27 :: v28 :: v29 :: v30 :: v31 :: v32 :: v33 :: v34 :: v35 :: v36 :: v37 :: v38 :: [])), (at_, .inl (gB g, 65540, .inl ft)), (ai_, .inl (gB g, 65535, .inl f1))] H := hP
          have hD : va_D A [(mm, .inr (7, .ref at_ :: .int (nI 0) :: .ref ai_ :: .int (nI m_trayed) :: .int (nI m_opened) :: v5 :: v6 :: v7 :: v8 :: v9 :: v10 :: .int (nI m_heldBytes) :: .int (nI m_leave) :: v13 :: v14 :: .int (nI m_answerLength) :: .int (nI m_bodyLength) :: v17 :: v18 :: v19 :: v20 :: v21 :: v22 :: v23 :: v24 :: v25 :: v26 :: v27 :: v28 :: v29 :: v30 :: v31 :: v32 :: v33 :: v34 :: v35 :: v36 :: v37 :: v38 :: [])), (at_, .inl (gB g, 65540, .inl ft)), (ai_, .inl (gB g, 65535, .inl f1))] := hD
          refine lv_aload_n hx hb dX9_install_52 rfl (lv_at hl 0 rfl) ?_
          refine lv_iconst (v := nI 0) hx hb dX9_install_53 (by decide) ?_
          refine va_put (D := gD g) (ci := 7) (v := .int (nI 0)) (ty := .boolean) (C := RX9) (T := TX9) (N := 39) hx hb hts hinX9 tyX9 tyX9_ok nmX9 hown hK hP hD hS 0 rfl rfl 4 (by decide) hf57 (fun _ h9 => h9) rfl (by decide +kernel) rfl rfl (Nat.le_of_ble_eq_true rfl) dX9_install_54 (fun H locs hP hD hS => ?_)
          have hP : va_P (gD g) vwCl [(mm, .inr (7, .ref at_ :: .int (nI 0) :: .ref ai_ :: .int (nI m_trayed) :: .int (nI 0) :: v5 :: v6 :: v7 :: v8 :: v9 :: v10 :: .int (nI m_heldBytes) :: .int (nI m_leave) :: v13 :: v14 :: .int (nI m_answerLength) :: .int (nI m_bodyLength) :: v17 :: v18 :: v19 :: v20 :: v21 :: v22 :: v23 :: v24 :: v25 :: v26 :: v27 :: v28 :: v29 :: v30 :: v31 :: v32 :: v33 :: v34 :: v35 :: v36 :: v37 :: v38 :: [])), (at_, .inl (gB g, 65540, .inl ft)), (ai_, .inl (gB g, 65535, .inl f1))] H := hP
          have hD : va_D A [(mm, .inr (7, .ref at_ :: .int (nI 0) :: .ref ai_ :: .int (nI m_trayed) :: .int (nI 0) :: v5 :: v6 :: v7 :: v8 :: v9 :: v10 :: .int (nI m_heldBytes) :: .int (nI m_leave) :: v13 :: v14 :: .int (nI m_answerLength) :: .int (nI m_bodyLength) :: v17 :: v18 :: v19 :: v20 :: v21 :: v22 :: v23 :: v24 :: v25 :: v26 :: v27 :: v28 :: v29 :: v30 :: v31 :: v32 :: v33 :: v34 :: v35 :: v36 :: v37 :: v38 :: [])), (at_, .inl (gB g, 65540, .inl ft)), (ai_, .inl (gB g, 65535, .inl f1))] := hD
          refine lv_aload_n hx hb dX9_install_57 rfl (lv_at hl 0 rfl) ?_
          refine lv_iconst (v := nI 0) hx hb dX9_install_58 (by decide) ?_
          refine va_put (D := gD g) (ci := 7) (v := .int (nI 0)) (ty := .int) (C := RX9) (T := TX9) (N := 39) hx hb hts hinX9 tyX9 tyX9_ok nmX9 hown hK hP hD hS 0 rfl rfl 11 (by decide) hf61 (fun _ h9 => h9) rfl (by decide +kernel) rfl rfl (Nat.le_of_ble_eq_true rfl) dX9_install_59 (fun H locs hP hD hS => ?_)
          have hP : va_P (gD g) vwCl [(mm, .inr (7, .ref at_ :: .int (nI 0) :: .ref ai_ :: .int (nI m_trayed) :: .int (nI 0) :: v5 :: v6 :: v7 :: v8 :: v9 :: v10 :: .int (nI 0) :: .int (nI m_leave) :: v13 :: v14 :: .int (nI m_answerLength) :: .int (nI m_bodyLength) :: v17 :: v18 :: v19 :: v20 :: v21 :: v22 :: v23 :: v24 :: v25 :: v26 :: v27 :: v28 :: v29 :: v30 :: v31 :: v32 :: v33 :: v34 :: v35 :: v36 :: v37 :: v38 :: [])), (at_, .inl (gB g, 65540, .inl ft)), (ai_, .inl (gB g, 65535, .inl f1))] H := hP
          have hD : va_D A [(mm, .inr (7, .ref at_ :: .int (nI 0) :: .ref ai_ :: .int (nI m_trayed) :: .int (nI 0) :: v5 :: v6 :: v7 :: v8 :: v9 :: v10 :: .int (nI 0) :: .int (nI m_leave) :: v13 :: v14 :: .int (nI m_answerLength) :: .int (nI m_bodyLength) :: v17 :: v18 :: v19 :: v20 :: v21 :: v22 :: v23 :: v24 :: v25 :: v26 :: v27 :: v28 :: v29 :: v30 :: v31 :: v32 :: v33 :: v34 :: v35 :: v36 :: v37 :: v38 :: [])), (at_, .inl (gB g, 65540, .inl ft)), (ai_, .inl (gB g, 65535, .inl f1))] := hD
          refine lv_aload_n hx hb dX9_install_62 rfl (lv_at hl 0 rfl) ?_
          refine lv_iconst (v := nI 0) hx hb dX9_install_63 (by decide) ?_
          refine va_put (D := gD g) (ci := 7) (v := .int (nI 0)) (ty := .int) (C := RX9) (T := TX9) (N := 39) hx hb hts hinX9 tyX9 tyX9_ok nmX9 hown hK hP hD hS 0 rfl rfl 12 (by decide) hf64 (fun _ h9 => h9) rfl (by decide +kernel) rfl rfl (Nat.le_of_ble_eq_true rfl) dX9_install_64 (fun H locs hP hD hS => ?_)
          have hP : va_P (gD g) vwCl [(mm, .inr (7, .ref at_ :: .int (nI 0) :: .ref ai_ :: .int (nI m_trayed) :: .int (nI 0) :: v5 :: v6 :: v7 :: v8 :: v9 :: v10 :: .int (nI 0) :: .int (nI 0) :: v13 :: v14 :: .int (nI m_answerLength) :: .int (nI m_bodyLength) :: v17 :: v18 :: v19 :: v20 :: v21 :: v22 :: v23 :: v24 :: v25 :: v26 :: v27 :: v28 :: v29 :: v30 :: v31 :: v32 :: v33 :: v34 :: v35 :: v36 :: v37 :: v38 :: [])), (at_, .inl (gB g, 65540, .inl ft)), (ai_, .inl (gB g, 65535, .inl f1))] H := hP
          have hD : va_D A [(mm, .inr (7, .ref at_ :: .int (nI 0) :: .ref ai_ :: .int (nI m_trayed) :: .int (nI 0) :: v5 :: v6 :: v7 :: v8 :: v9 :: v10 :: .int (nI 0) :: .int (nI 0) :: v13 :: v14 :: .int (nI m_answerLength) :: .int (nI m_bodyLength) :: v17 :: v18 :: v19 :: v20 :: v21 :: v22 :: v23 :: v24 :: v25 :: v26 :: v27 :: v28 :: v29 :: v30 :: v31 :: v32 :: v33 :: v34 :: v35 :: v36 :: v37 :: v38 :: [])), (at_, .inl (gB g, 65540, .inl ft)), (ai_, .inl (gB g, 65535, .inl f1))] := hD
          refine lv_aload_n hx hb dX9_install_67 rfl (lv_at hl 0 rfl) ?_
          refine lv_iconst (v := nI 0) hx hb dX9_install_68 (by decide) ?_
          refine va_put (D := gD g) (ci := 7) (v := .int (nI 0)) (ty := .int) (C := RX9) (T := TX9) (N := 39) hx hb hts hinX9 tyX9 tyX9_ok nmX9 hown hK hP hD hS 0 rfl rfl 15 (by decide) hf67 (fun _ h9 => h9) rfl (by decide +kernel) rfl rfl (Nat.le_of_ble_eq_true rfl) dX9_install_69 (fun H locs hP hD hS => ?_)
          have hP : va_P (gD g) vwCl [(mm, .inr (7, .ref at_ :: .int (nI 0) :: .ref ai_ :: .int (nI m_trayed) :: .int (nI 0) :: v5 :: v6 :: v7 :: v8 :: v9 :: v10 :: .int (nI 0) :: .int (nI 0) :: v13 :: v14 :: .int (nI 0) :: .int (nI m_bodyLength) :: v17 :: v18 :: v19 :: v20 :: v21 :: v22 :: v23 :: v24 :: v25 :: v26 :: v27 :: v28 :: v29 :: v30 :: v31 :: v32 :: v33 :: v34 :: v35 :: v36 :: v37 :: v38 :: [])), (at_, .inl (gB g, 65540, .inl ft)), (ai_, .inl (gB g, 65535, .inl f1))] H := hP
          have hD : va_D A [(mm, .inr (7, .ref at_ :: .int (nI 0) :: .ref ai_ :: .int (nI m_trayed) :: .int (nI 0) :: v5 :: v6 :: v7 :: v8 :: v9 :: v10 :: .int (nI 0) :: .int (nI 0) :: v13 :: v14 :: .int (nI 0) :: .int (nI m_bodyLength) :: v17 :: v18 :: v19 :: v20 :: v21 :: v22 :: v23 :: v24 :: v25 :: v26 :: v27 :: v28 :: v29 :: v30 :: v31 :: v32 :: v33 :: v34 :: v35 :: v36 :: v37 :: v38 :: [])), (at_, .inl (gB g, 65540, .inl ft)), (ai_, .inl (gB g, 65535, .inl f1))] := hD
          refine lv_aload_n hx hb dX9_install_72 rfl (lv_at hl 0 rfl) ?_
          refine lv_iconst (v := nI 0) hx hb dX9_install_73 (by decide) ?_
          refine va_put (D := gD g) (ci := 7) (v := .int (nI 0)) (ty := .int) (C := RX9) (T := TX9) (N := 39) hx hb hts hinX9 tyX9 tyX9_ok nmX9 hown hK hP hD hS 0 rfl rfl 16 (by decide) hf70 (fun _ h9 => h9) rfl (by decide +kernel) rfl rfl (Nat.le_of_ble_eq_true rfl) dX9_install_74 (fun H locs hP hD hS => ?_)
          have hP : va_P (gD g) vwCl [(mm, .inr (7, .ref at_ :: .int (nI 0) :: .ref ai_ :: .int (nI m_trayed) :: .int (nI 0) :: v5 :: v6 :: v7 :: v8 :: v9 :: v10 :: .int (nI 0) :: .int (nI 0) :: v13 :: v14 :: .int (nI 0) :: .int (nI 0) :: v17 :: v18 :: v19 :: v20 :: v21 :: v22 :: v23 :: v24 :: v25 :: v26 :: v27 :: v28 :: v29 :: v30 :: v31 :: v32 :: v33 :: v34 :: v35 :: v36 :: v37 :: v38 :: [])), (at_, .inl (gB g, 65540, .inl ft)), (ai_, .inl (gB g, 65535, .inl f1))] H := hP
          have hD : va_D A [(mm, .inr (7, .ref at_ :: .int (nI 0) :: .ref ai_ :: .int (nI m_trayed) :: .int (nI 0) :: v5 :: v6 :: v7 :: v8 :: v9 :: v10 :: .int (nI 0) :: .int (nI 0) :: v13 :: v14 :: .int (nI 0) :: .int (nI 0) :: v17 :: v18 :: v19 :: v20 :: v21 :: v22 :: v23 :: v24 :: v25 :: v26 :: v27 :: v28 :: v29 :: v30 :: v31 :: v32 :: v33 :: v34 :: v35 :: v36 :: v37 :: v38 :: [])), (at_, .inl (gB g, 65540, .inl ft)), (ai_, .inl (gB g, 65535, .inl f1))] := hD
          refine lv_aload_n hx hb dX9_install_77 rfl (lv_at hl 0 rfl) ?_
          refine va_get (D := gD g) (ci := 7) (v := .int (nI m_trayed)) (C := RX9) (T := TX9) (N := 39) hx hb hts hinX9 hown hK hP 0 rfl rfl 3 (by decide) hf54 (fun _ h9 => h9) rfl dX9_install_78 ?_
          refine ct_iret (w := [(mm, .inr (7, .ref at_ :: .int (nI 0) :: .ref ai_ :: .int (nI m_trayed) :: .int (nI 0) :: v5 :: v6 :: v7 :: v8 :: v9 :: v10 :: .int (nI 0) :: .int (nI 0) :: v13 :: v14 :: .int (nI 0) :: .int (nI 0) :: v17 :: v18 :: v19 :: v20 :: v21 :: v22 :: v23 :: v24 :: v25 :: v26 :: v27 :: v28 :: v29 :: v30 :: v31 :: v32 :: v33 :: v34 :: v35 :: v36 :: v37 :: v38 :: [])), (at_, .inl (gB g, 65540, .inl ft)), (ai_, .inl (gB g, 65535, .inl f1))]) hx hb hr rfl hlocks hQ hAe hK (hP.sub [0, 1, 2] rfl) (hD.sub [0, 1, 2] (by decide) rfl) hS (by omega) (by omega) dX9_install_81 ?_
          refine Or.inr ((?_))
          exact ⟨f1, rfl, rfl, by omega, by exact fun j hj => ec j (by omega)⟩
        · skip
          have c18 : ¬ (m_trayed ≤ i) := fun z => c18 ((nI_leI (a := m_trayed) (b := i) (by omega) (by omega)).mpr z)
          refine lv_aload_n hx hb dX9_install_21 rfl (lv_at hl 0 rfl) ?_
          refine va_get (D := gD g) (ci := 7) (v := .ref ai_) (C := RX9) (T := TX9) (N := 39) hx hb hts hinX9 hown hK hP 0 rfl rfl 2 (by decide) hf15 (fun _ h9 => h9) rfl dX9_install_22 ?_
          refine lv_iload_n hx hb dX9_install_25 rfl (lv_at hl 1 rfl) ?_
          refine lv_aload_n hx hb dX9_install_26 rfl (lv_at hl 0 rfl) ?_
          refine va_get (D := gD g) (ci := 7) (v := .ref at_) (C := RX9) (T := TX9) (N := 39) hx hb hts hinX9 hown hK hP 0 rfl rfl 0 (by decide) hf10 (fun _ h9 => h9) rfl dX9_install_27 ?_
          refine lv_iload_n hx hb dX9_install_30 rfl (lv_at hl 1 rfl) ?_
          refine q_bald hx hb hK hP 1 rfl (i) rfl (by omega) (by omega) dX9_install_31 ?_
          refine q_top (v := f i) (hM _ (by omega)) ?_
          refine q_bast hx hb hK hP hD hS 2 rfl (i) rfl (by omega) (by omega) dX9_install_32 (fun H locs hP hD hS => ?_)
          have hP : va_P (gD g) vwCl [(mm, .inr (7, .ref at_ :: .int (nI m_trayed) :: .ref ai_ :: .int (nI m_imageSize) :: .int (nI m_opened) :: v5 :: v6 :: v7 :: v8 :: v9 :: v10 :: .int (nI m_heldBytes) :: .int (nI m_leave) :: v13 :: v14 :: .int (nI m_answerLength) :: .int (nI m_bodyLength) :: v17 :: v18 :: v19 :: v20 :: v21 :: v22 :: v23 :: v24 :: v25 :: v26 :: v27 :: v28 :: v29 :: v30 :: v31 :: v32 :: v33 :: v34 :: v35 :: v36 :: v37 :: v38 :: [])), (at_, .inl (gB g, 65540, .inl ft)), (ai_, .inl (gB g, 65535, .inl (upd f1 i ((f i).toInt8.toInt32))))] H := hP
          have hD : va_D A [(mm, .inr (7, .ref at_ :: .int (nI m_trayed) :: .ref ai_ :: .int (nI m_imageSize) :: .int (nI m_opened) :: v5 :: v6 :: v7 :: v8 :: v9 :: v10 :: .int (nI m_heldBytes) :: .int (nI m_leave) :: v13 :: v14 :: .int (nI m_answerLength) :: .int (nI m_bodyLength) :: v17 :: v18 :: v19 :: v20 :: v21 :: v22 :: v23 :: v24 :: v25 :: v26 :: v27 :: v28 :: v29 :: v30 :: v31 :: v32 :: v33 :: v34 :: v35 :: v36 :: v37 :: v38 :: [])), (at_, .inl (gB g, 65540, .inl ft)), (ai_, .inl (gB g, 65535, .inl (upd f1 i ((f i).toInt8.toInt32))))] := hD
          refine lv_iinc (v := nI (i + 1)) (lv' := [(1, .int (nI (i + 1))), (0, .ref mm)]) hx hb dX9_install_33 hl (k := 1) rfl (nI_inc i 1) (by decide) rfl (fun ls hl => ?_)
          refine lv_goto (tgt := 13) hx hb dX9_install_36 (by decide) ?_
          exact ih_K13 (i + 1) (upd f1 i ((f i).toInt8.toInt32)) (by omega) (by exact lt_s (fun j hj => (pk_un (by omega)).trans (ec j hj)) (pk_us.trans (fit8 hfit _))) (by omega) _ _ _ (hP.sub [0, 1, 2] rfl) (hD.sub [0, 1, 2] (by decide) rfl) hS (lv_sub hl [1, 0] rfl)
    exact K13 ((m_trayed - 0) + 1) 0 fi (by omega) (by intro j h1; omega) (Nat.lt_succ_self _) _ _ _ (hP.sub [0, 1, 2] rfl) (hD.sub [0, 1, 2] (by decide) rfl) hS (lv_sub hl [1, 0] rfl)
  · skip
    have c6 : ¬ (m_trayed ≤ 65535) := fun z => c6 ((nI_leI (a := m_trayed) (b := 65535) (by omega) (by omega)).mpr z)
    refine lv_iconst (v := (-1)) hx hb dX9_install_9 (by decide) ?_
    refine ct_iret (w := [(mm, .inr (7, .ref at_ :: .int (nI m_trayed) :: .ref ai_ :: .int (nI m_imageSize) :: .int (nI m_opened) :: v5 :: v6 :: v7 :: v8 :: v9 :: v10 :: .int (nI m_heldBytes) :: .int (nI m_leave) :: v13 :: v14 :: .int (nI m_answerLength) :: .int (nI m_bodyLength) :: v17 :: v18 :: v19 :: v20 :: v21 :: v22 :: v23 :: v24 :: v25 :: v26 :: v27 :: v28 :: v29 :: v30 :: v31 :: v32 :: v33 :: v34 :: v35 :: v36 :: v37 :: v38 :: [])), (at_, .inl (gB g, 65540, .inl ft)), (ai_, .inl (gB g, 65535, .inl fi))]) hx hb hr rfl hlocks hQ hAe hK (hP.sub [0, 1, 2] rfl) (hD.sub [0, 1, 2] (by decide) rfl) hS (by omega) (by omega) dX9_install_10 ?_
    refine Or.inl (?_)
    exact ⟨rfl, rfl, by omega⟩

set_option maxHeartbeats 4000000 in
set_option maxRecDepth 100000 in
theorem c_mWordAt (l : Launch) (g : GT) (mm : Nat) (v0 : Value) (v1 : Value) (ai_ : Nat) (v3 : Value) (v4 : Value) (v5 : Value) (v6 : Value) (v7 : Value) (v8 : Value) (v9 : Value) (v10 : Value) (v11 : Value) (v12 : Value) (v13 : Value) (v14 : Value) (v15 : Value) (v16 : Value) (v17 : Value) (v18 : Value) (v19 : Value) (v20 : Value) (v21 : Value) (v22 : Value) (v23 : Value) (v24 : Value) (v25 : Value) (v26 : Value) (v27 : Value) (v28 : Value) (v29 : Value) (v30 : Value) (v31 : Value) (v32 : Value) (v33 : Value) (v34 : Value) (v35 : Value) (v36 : Value) (v37 : Value) (v38 : Value) (fi : Nat → Int32) (f : Nat → Int32) (si : Nat) (a : Nat) (hsi : si ≤ 65535) (hM : ∀ j, j < si → fi j = f j) (ha : a + 4 ≤ si) : CT l g yX9_imageWord wsX9_imageWord ({ frames := 0, cells := 0, slots := 0, locals := 0 } : Room) [.ref mm, .int (nI a)] [(mm, .inr (7, v0 :: v1 :: .ref ai_ :: v3 :: v4 :: v5 :: v6 :: v7 :: v8 :: v9 :: v10 :: v11 :: v12 :: v13 :: v14 :: v15 :: v16 :: v17 :: v18 :: v19 :: v20 :: v21 :: v22 :: v23 :: v24 :: v25 :: v26 :: v27 :: v28 :: v29 :: v30 :: v31 :: v32 :: v33 :: v34 :: v35 :: v36 :: v37 :: v38 :: [])), (ai_, .inl (gB g, 65535, .inl fi))] (fun r w => (r = some (.long (lN (u32 (be4 f a)))) ∧ w = [(mm, .inr (7, v0 :: v1 :: .ref ai_ :: v3 :: v4 :: v5 :: v6 :: v7 :: v8 :: v9 :: v10 :: v11 :: v12 :: v13 :: v14 :: v15 :: v16 :: v17 :: v18 :: v19 :: v20 :: v21 :: v22 :: v23 :: v24 :: v25 :: v26 :: v27 :: v28 :: v29 :: v30 :: v31 :: v32 :: v33 :: v34 :: v35 :: v36 :: v37 :: v38 :: [])), (ai_, .inl (gB g, 65535, .inl fi))])) (0) (0) := by
  refine ct_of (cc := cX9_imageWord) (maxL := 5) (ret := (some .long)) (by decide) rfl (Nat.le_of_ble_eq_true rfl) ?_
  intro p e s m args below meth c A Q hx hb hr hml hown hts hlocks hnam hAe hQ hA hG hK hP hD hS ls hl
  have hl : lv_has ls 5 [(0, .ref mm), (1, .int (nI a))] := hl
  have hown : s.vm.findClass RX9 = some m.cls := hown
  have hinX9 : ∀ w ∈ u_ws RX9 TX9 39, w ∈ wsX9_imageWord := by decide +kernel
  have hf15 := hts (.fieldLink RX9 15 "RequestReaderModel" "image" "[B") (by decide +kernel)
  refine lv_lconst (v := 0) hx hb dX9_imageWord_0 rfl ?_
  refine q_topl (v := lN (bw f a 0)) rfl ?_
  refine lv_lstore_n (lv' := [(2, .long (lN (bw f a 0))), (0, .ref mm), (1, .int (nI a))]) hx hb dX9_imageWord_1 rfl hl (by decide) rfl (fun ls hl => ?_)
  refine lv_iconst (v := nI 0) hx hb dX9_imageWord_2 (by decide) ?_
  refine lv_istore (lv' := [(4, .int (nI 0)), (2, .long (lN (bw f a 0))), (0, .ref mm), (1, .int (nI a))]) hx hb dX9_imageWord_3 hl (by decide) rfl (fun ls hl => ?_)
  have K5 : ∀ (N_ : Nat) (i : Nat), (i ≤ 4) → (4 - i) < N_ → ∀ (H : Heap) (locs : List Loc) (ls : Array Slot), va_P (gD g) vwCl [(mm, .inr (7, v0 :: v1 :: .ref ai_ :: v3 :: v4 :: v5 :: v6 :: v7 :: v8 :: v9 :: v10 :: v11 :: v12 :: v13 :: v14 :: v15 :: v16 :: v17 :: v18 :: v19 :: v20 :: v21 :: v22 :: v23 :: v24 :: v25 :: v26 :: v27 :: v28 :: v29 :: v30 :: v31 :: v32 :: v33 :: v34 :: v35 :: v36 :: v37 :: v38 :: [])), (ai_, .inl (gB g, 65535, .inl fi))] H → va_D A [(mm, .inr (7, v0 :: v1 :: .ref ai_ :: v3 :: v4 :: v5 :: v6 :: v7 :: v8 :: v9 :: v10 :: v11 :: v12 :: v13 :: v14 :: v15 :: v16 :: v17 :: v18 :: v19 :: v20 :: v21 :: v22 :: v23 :: v24 :: v25 :: v26 :: v27 :: v28 :: v29 :: v30 :: v31 :: v32 :: v33 :: v34 :: v35 :: v36 :: v37 :: v38 :: [])), (ai_, .inl (gB g, 65535, .inl fi))] → va_S A s.heap H locs → lv_has ls 5 [(0, .ref mm), (1, .int (nI a)), (2, .long (lN (bw f a i))), (4, .int (nI i))] → W p l e ({ frames := 0, cells := 0, slots := 0, locals := 0 } : Room) s m args below meth c H locs (0) (0) Q (F0 m 5 ls []) := by
    intro N_
    induction N_ with
    | zero => intro i hi hm_; exact absurd hm_ (Nat.not_lt_zero _)
    | succ N_ ih_K5 =>
      intro i hi hm_ H locs ls hP hD hS hl
      refine lv_iload hx hb dX9_imageWord_5 (lv_at hl 3 rfl) ?_
      refine lv_iconst (v := nI 4) hx hb dX9_imageWord_7 (by decide) ?_
      refine lv_icmp_ge (tgt := 37) hx hb dX9_imageWord_8 (by decide) (fun c8 => ?_) (fun c8 => ?_)
      · skip
        have c8 : 4 ≤ i := (nI_leI (a := 4) (b := i) (by omega) (by omega)).mp c8
        have ei : i = 4 := by omega
        refine lv_lload_n hx hb dX9_imageWord_37 rfl (lv_at hl 2 rfl) ?_
        refine ct_lret (w := [(mm, .inr (7, v0 :: v1 :: .ref ai_ :: v3 :: v4 :: v5 :: v6 :: v7 :: v8 :: v9 :: v10 :: v11 :: v12 :: v13 :: v14 :: v15 :: v16 :: v17 :: v18 :: v19 :: v20 :: v21 :: v22 :: v23 :: v24 :: v25 :: v26 :: v27 :: v28 :: v29 :: v30 :: v31 :: v32 :: v33 :: v34 :: v35 :: v36 :: v37 :: v38 :: [])), (ai_, .inl (gB g, 65535, .inl fi))]) hx hb hr hlocks hQ hAe hK (hP.sub [0, 1] rfl) (hD.sub [0, 1] (by decide) rfl) hS (by omega) (by omega) dX9_imageWord_38 ?_
        exact ⟨(by rw [be4_u, ei]), rfl⟩
      · skip
        have c8 : ¬ (4 ≤ i) := fun z => c8 ((nI_leI (a := 4) (b := i) (by omega) (by omega)).mpr z)
        have hbw := bw_lt f a i
        have hbw2 : bw f a i < 2 ^ 24 := Nat.lt_of_lt_of_le hbw (Nat.le_trans (Nat.pow_le_pow_right (by decide) (show i ≤ 3 by omega)) (by decide))
        have hu8 := u8_lt (f (a + i))
        refine lv_lload_n hx hb dX9_imageWord_11 rfl (lv_at hl 2 rfl) ?_
        refine lv_bipush (v := nI 8) hx hb dX9_imageWord_12 (by decide) ?_
        refine lv_lshl (v := lN (bw f a i * 256)) hx hb dX9_imageWord_14 (lN_shl8 (by omega)) ?_
        refine lv_aload_n hx hb dX9_imageWord_15 rfl (lv_at hl 0 rfl) ?_
        refine va_get (D := gD g) (ci := 7) (v := .ref ai_) (C := RX9) (T := TX9) (N := 39) hx hb hts hinX9 hown hK hP 0 rfl rfl 2 (by decide) hf15 (fun _ h9 => h9) rfl dX9_imageWord_16 ?_
        refine lv_iload_n hx hb dX9_imageWord_19 rfl (lv_at hl 1 rfl) ?_
        refine lv_iload hx hb dX9_imageWord_20 (lv_at hl 3 rfl) ?_
        refine q_iadd (v := nI (a + i)) hx hb dX9_imageWord_22 (nI_add a i) ?_
        refine q_bald hx hb hK hP 1 rfl (a + i) rfl (by omega) (by omega) dX9_imageWord_23 ?_
        refine q_top (v := f (a + i)) (hM _ (by omega)) ?_
        refine lv_sipush (v := nI 255) hx hb dX9_imageWord_24 (by decide) ?_
        refine q_iand (v := nI (u8 (f (a + i)))) hx hb dX9_imageWord_27 (u8_eq _) ?_
        refine lv_i2l (v := lN (u8 (f (a + i)))) hx hb dX9_imageWord_28 (nI_l (by omega)) ?_
        refine lv_lor hx hb dX9_imageWord_29 ?_
        refine q_topl (v := lN (bw f a (i + 1))) (lN_or8 hu8 (by omega)) ?_
        refine lv_lstore_n (lv' := [(2, .long (lN (bw f a (i + 1)))), (0, .ref mm), (1, .int (nI a)), (4, .int (nI i))]) hx hb dX9_imageWord_30 rfl hl (by decide) rfl (fun ls hl => ?_)
        refine lv_iinc (v := nI (i + 1)) (lv' := [(4, .int (nI (i + 1))), (2, .long (lN (bw f a (i + 1)))), (0, .ref mm), (1, .int (nI a))]) hx hb dX9_imageWord_31 hl (k := 3) rfl (nI_inc i 1) (by decide) rfl (fun ls hl => ?_)
        refine lv_goto (tgt := 5) hx hb dX9_imageWord_34 (by decide) ?_
        exact ih_K5 (i + 1) (by omega) (by omega) _ _ _ (hP.sub [0, 1] rfl) (hD.sub [0, 1] (by decide) rfl) hS (lv_sub hl [2, 3, 1, 0] rfl)
  exact K5 ((4 - 0) + 1) 0 (by omega) (Nat.lt_succ_self _) _ _ _ (hP.sub [0, 1] rfl) (hD.sub [0, 1] (by decide) rfl) hS (lv_sub hl [2, 3, 1, 0] rfl)

set_option maxHeartbeats 4000000 in
set_option maxRecDepth 100000 in
theorem c_mCheck (l : Launch) (g : GT) (mm : Nat) (v0 : Value) (v1 : Value) (ai_ : Nat) (v3 : Value) (v4 : Value) (v5 : Value) (v6 : Value) (v7 : Value) (v8 : Value) (v9 : Value) (v10 : Value) (v11 : Value) (v12 : Value) (v13 : Value) (v14 : Value) (v15 : Value) (v16 : Value) (v17 : Value) (v18 : Value) (v19 : Value) (v20 : Value) (v21 : Value) (v22 : Value) (v23 : Value) (v24 : Value) (v25 : Value) (v26 : Value) (v27 : Value) (v28 : Value) (v29 : Value) (v30 : Value) (v31 : Value) (v32 : Value) (v33 : Value) (v34 : Value) (v35 : Value) (v36 : Value) (v37 : Value) (v38 : Value) (fi : Nat → Int32) (f : Nat → Int32) (si : Nat) (a : Nat) (b : Nat) (hsi : si ≤ 65535) (hM : ∀ j, j < si → fi j = f j) (hab : a ≤ b) (hb2 : b ≤ si) : CT l g yX9_check wsX9_check ({ frames := 0, cells := 0, slots := 0, locals := 0 } : Room) [.ref mm, .int (nI a), .int (nI b)] [(mm, .inr (7, v0 :: v1 :: .ref ai_ :: v3 :: v4 :: v5 :: v6 :: v7 :: v8 :: v9 :: v10 :: v11 :: v12 :: v13 :: v14 :: v15 :: v16 :: v17 :: v18 :: v19 :: v20 :: v21 :: v22 :: v23 :: v24 :: v25 :: v26 :: v27 :: v28 :: v29 :: v30 :: v31 :: v32 :: v33 :: v34 :: v35 :: v36 :: v37 :: v38 :: [])), (ai_, .inl (gB g, 65535, .inl fi))] (fun r w => (r = some (.int (crcR f a (b - a) ^^^ -1)) ∧ w = [(mm, .inr (7, v0 :: v1 :: .ref ai_ :: v3 :: v4 :: v5 :: v6 :: v7 :: v8 :: v9 :: v10 :: v11 :: v12 :: v13 :: v14 :: v15 :: v16 :: v17 :: v18 :: v19 :: v20 :: v21 :: v22 :: v23 :: v24 :: v25 :: v26 :: v27 :: v28 :: v29 :: v30 :: v31 :: v32 :: v33 :: v34 :: v35 :: v36 :: v37 :: v38 :: [])), (ai_, .inl (gB g, 65535, .inl fi))])) (0) (0) := by
  refine ct_of (cc := cX9_check) (maxL := 6) (ret := (some .int)) (by decide) rfl (Nat.le_of_ble_eq_true rfl) ?_
  intro p e s m args below meth c A Q hx hb hr hml hown hts hlocks hnam hAe hQ hA hG hK hP hD hS ls hl
  have hl : lv_has ls 6 [(0, .ref mm), (1, .int (nI a)), (2, .int (nI b))] := hl
  have hown : s.vm.findClass RX9 = some m.cls := hown
  have hinX9 : ∀ w ∈ u_ws RX9 TX9 39, w ∈ wsX9_check := by decide +kernel
  have hf15 := hts (.fieldLink RX9 15 "RequestReaderModel" "image" "[B") (by decide +kernel)
  refine lv_iconst (v := (-1)) hx hb dX9_check_0 (by decide) ?_
  refine lv_istore_n (lv' := [(3, .int (-1)), (0, .ref mm), (1, .int (nI a)), (2, .int (nI b))]) hx hb dX9_check_1 rfl hl (by decide) rfl (fun ls hl => ?_)
  refine lv_iload_n hx hb dX9_check_2 rfl (lv_at hl 2 rfl) ?_
  refine lv_istore (lv' := [(4, .int (nI a)), (3, .int (-1)), (0, .ref mm), (1, .int (nI a)), (2, .int (nI b))]) hx hb dX9_check_3 hl (by decide) rfl (fun ls hl => ?_)
  have K5 : ∀ (N_ : Nat) (t : Nat), (a + t ≤ b) → (b - a - t) < N_ → ∀ (H : Heap) (locs : List Loc) (ls : Array Slot), va_P (gD g) vwCl [(mm, .inr (7, v0 :: v1 :: .ref ai_ :: v3 :: v4 :: v5 :: v6 :: v7 :: v8 :: v9 :: v10 :: v11 :: v12 :: v13 :: v14 :: v15 :: v16 :: v17 :: v18 :: v19 :: v20 :: v21 :: v22 :: v23 :: v24 :: v25 :: v26 :: v27 :: v28 :: v29 :: v30 :: v31 :: v32 :: v33 :: v34 :: v35 :: v36 :: v37 :: v38 :: [])), (ai_, .inl (gB g, 65535, .inl fi))] H → va_D A [(mm, .inr (7, v0 :: v1 :: .ref ai_ :: v3 :: v4 :: v5 :: v6 :: v7 :: v8 :: v9 :: v10 :: v11 :: v12 :: v13 :: v14 :: v15 :: v16 :: v17 :: v18 :: v19 :: v20 :: v21 :: v22 :: v23 :: v24 :: v25 :: v26 :: v27 :: v28 :: v29 :: v30 :: v31 :: v32 :: v33 :: v34 :: v35 :: v36 :: v37 :: v38 :: [])), (ai_, .inl (gB g, 65535, .inl fi))] → va_S A s.heap H locs → lv_has ls 6 [(0, .ref mm), (1, .int (nI a)), (2, .int (nI b)), (3, .int (crcR f a t)), (4, .int (nI (a + t)))] → W p l e ({ frames := 0, cells := 0, slots := 0, locals := 0 } : Room) s m args below meth c H locs (0) (0) Q (F0 m 5 ls []) := by
    intro N_
    induction N_ with
    | zero => intro t ht hm_; exact absurd hm_ (Nat.not_lt_zero _)
    | succ N_ ih_K5 =>
      intro t ht hm_ H locs ls hP hD hS hl
      refine lv_iload hx hb dX9_check_5 (lv_at hl 4 rfl) ?_
      refine lv_iload_n hx hb dX9_check_7 rfl (lv_at hl 2 rfl) ?_
      refine lv_icmp_ge (tgt := 67) hx hb dX9_check_8 (by decide) (fun c8 => ?_) (fun c8 => ?_)
      · skip
        have c8 : b ≤ a + t := (nI_leI (a := b) (b := a + t) (by omega) (by omega)).mp c8
        have et : t = b - a := by omega
        refine lv_iload_n hx hb dX9_check_67 rfl (lv_at hl 3 rfl) ?_
        refine lv_iconst (v := (-1)) hx hb dX9_check_68 (by decide) ?_
        refine q_ixor (v := (crcR f a t) ^^^ (-1)) hx hb dX9_check_69 (rfl) ?_
        refine ct_iret (w := [(mm, .inr (7, v0 :: v1 :: .ref ai_ :: v3 :: v4 :: v5 :: v6 :: v7 :: v8 :: v9 :: v10 :: v11 :: v12 :: v13 :: v14 :: v15 :: v16 :: v17 :: v18 :: v19 :: v20 :: v21 :: v22 :: v23 :: v24 :: v25 :: v26 :: v27 :: v28 :: v29 :: v30 :: v31 :: v32 :: v33 :: v34 :: v35 :: v36 :: v37 :: v38 :: [])), (ai_, .inl (gB g, 65535, .inl fi))]) hx hb hr rfl hlocks hQ hAe hK (hP.sub [0, 1] rfl) (hD.sub [0, 1] (by decide) rfl) hS (by omega) (by omega) dX9_check_70 ?_
        exact ⟨by rw [et], rfl⟩
      · skip
        have c8 : ¬ (b ≤ a + t) := fun z => c8 ((nI_leI (a := b) (b := a + t) (by omega) (by omega)).mpr z)
        refine lv_iload_n hx hb dX9_check_11 rfl (lv_at hl 3 rfl) ?_
        refine lv_aload_n hx hb dX9_check_12 rfl (lv_at hl 0 rfl) ?_
        refine va_get (D := gD g) (ci := 7) (v := .ref ai_) (C := RX9) (T := TX9) (N := 39) hx hb hts hinX9 hown hK hP 0 rfl rfl 2 (by decide) hf15 (fun _ h9 => h9) rfl dX9_check_13 ?_
        refine lv_iload hx hb dX9_check_16 (lv_at hl 4 rfl) ?_
        refine q_bald hx hb hK hP 1 rfl (a + t) rfl (by omega) (by omega) dX9_check_18 ?_
        refine q_top (v := f (a + t)) (hM _ (by omega)) ?_
        refine lv_sipush (v := nI 255) hx hb dX9_check_19 (by decide) ?_
        refine q_iand (v := (f (a + t)) &&& 255) hx hb dX9_check_22 (rfl) ?_
        refine q_ixor (v := (crcR f a t) ^^^ ((f (a + t)) &&& 255)) hx hb dX9_check_23 (rfl) ?_
        refine lv_istore_n (lv' := [(3, .int ((crcR f a t) ^^^ ((f (a + t)) &&& 255))), (0, .ref mm), (1, .int (nI a)), (2, .int (nI b)), (4, .int (nI (a + t)))]) hx hb dX9_check_24 rfl hl (by decide) rfl (fun ls hl => ?_)
        refine lv_iconst (v := nI 0) hx hb dX9_check_25 (by decide) ?_
        refine lv_istore (lv' := [(5, .int (nI 0)), (3, .int ((crcR f a t) ^^^ ((f (a + t)) &&& 255))), (0, .ref mm), (1, .int (nI a)), (2, .int (nI b)), (4, .int (nI (a + t)))]) hx hb dX9_check_26 hl (by decide) rfl (fun ls hl => ?_)
        have K28 : ∀ (N_ : Nat) (i : Nat), (i ≤ 8) → (8 - i) < N_ → ∀ (H : Heap) (locs : List Loc) (ls : Array Slot), va_P (gD g) vwCl [(mm, .inr (7, v0 :: v1 :: .ref ai_ :: v3 :: v4 :: v5 :: v6 :: v7 :: v8 :: v9 :: v10 :: v11 :: v12 :: v13 :: v14 :: v15 :: v16 :: v17 :: v18 :: v19 :: v20 :: v21 :: v22 :: v23 :: v24 :: v25 :: v26 :: v27 :: v28 :: v29 :: v30 :: v31 :: v32 :: v33 :: v34 :: v35 :: v36 :: v37 :: v38 :: [])), (ai_, .inl (gB g, 65535, .inl fi))] H → va_D A [(mm, .inr (7, v0 :: v1 :: .ref ai_ :: v3 :: v4 :: v5 :: v6 :: v7 :: v8 :: v9 :: v10 :: v11 :: v12 :: v13 :: v14 :: v15 :: v16 :: v17 :: v18 :: v19 :: v20 :: v21 :: v22 :: v23 :: v24 :: v25 :: v26 :: v27 :: v28 :: v29 :: v30 :: v31 :: v32 :: v33 :: v34 :: v35 :: v36 :: v37 :: v38 :: [])), (ai_, .inl (gB g, 65535, .inl fi))] → va_S A s.heap H locs → lv_has ls 6 [(0, .ref mm), (1, .int (nI a)), (2, .int (nI b)), (3, .int (bitN i (crcR f a t ^^^ (f (a + t) &&& 255)))), (4, .int (nI (a + t))), (5, .int (nI i))] → W p l e ({ frames := 0, cells := 0, slots := 0, locals := 0 } : Room) s m args below meth c H locs (0) (0) Q (F0 m 28 ls []) := by
          intro N_
          induction N_ with
          | zero => intro i hi hm_; exact absurd hm_ (Nat.not_lt_zero _)
          | succ N_ ih_K28 =>
            intro i hi hm_ H locs ls hP hD hS hl
            refine lv_iload hx hb dX9_check_28 (lv_at hl 5 rfl) ?_
            refine lv_bipush (v := nI 8) hx hb dX9_check_30 (by decide) ?_
            refine lv_icmp_ge (tgt := 61) hx hb dX9_check_32 (by decide) (fun c32 => ?_) (fun c32 => ?_)
            · skip
              have c32 : 8 ≤ i := (nI_leI (a := 8) (b := i) (by omega) (by omega)).mp c32
              have e9 : bitN i (crcR f a t ^^^ (f (a + t) &&& 255)) = crcR f a (t + 1) := by rw [show i = 8 by omega, bit8]; rfl
              rw [e9] at hl
              refine lv_iinc (v := nI (a + t + 1)) (lv' := [(4, .int (nI (a + t + 1))), (0, .ref mm), (1, .int (nI a)), (2, .int (nI b)), (3, .int (crcR f a (t + 1))), (5, .int (nI i))]) hx hb dX9_check_61 hl (k := 4) rfl (nI_inc (a + t) 1) (by decide) rfl (fun ls hl => ?_)
              refine lv_goto (tgt := 5) hx hb dX9_check_64 (by decide) ?_
              exact ih_K5 (t + 1) (by omega) (by omega) _ _ _ (hP.sub [0, 1] rfl) (hD.sub [0, 1] (by decide) rfl) hS (lv_sub hl [1, 2, 3, 4, 0] rfl)
            · skip
              have c32 : ¬ (8 ≤ i) := fun z => c32 ((nI_leI (a := 8) (b := i) (by omega) (by omega)).mpr z)
              refine lv_iload_n hx hb dX9_check_35 rfl (lv_at hl 3 rfl) ?_
              refine lv_iconst (v := nI 1) hx hb dX9_check_36 (by decide) ?_
              refine q_iand (v := (bitN i (crcR f a t ^^^ (f (a + t) &&& 255))) &&& (nI 1)) hx hb dX9_check_37 (rfl) ?_
              refine lv_iconst (v := nI 1) hx hb dX9_check_38 (by decide) ?_
              refine lv_icmp_ne (tgt := 51) hx hb dX9_check_39 (by decide) (fun c39 => ?_) (fun c39 => ?_)
              · skip
                refine lv_iload_n hx hb dX9_check_51 rfl (lv_at hl 3 rfl) ?_
                refine lv_iconst (v := nI 1) hx hb dX9_check_52 (by decide) ?_
                refine lv_iushr (v := ush (bitN i (crcR f a t ^^^ (f (a + t) &&& 255))) 1) hx hb dX9_check_53 (rfl) ?_
                refine q_top (v := bitN (i + 1) (crcR f a t ^^^ (f (a + t) &&& 255))) (by first | exact (if_pos c39).symm | exact (if_neg c39).symm) ?_
                refine lv_istore_n (lv' := [(3, .int (bitN (i + 1) (crcR f a t ^^^ (f (a + t) &&& 255)))), (0, .ref mm), (1, .int (nI a)), (2, .int (nI b)), (4, .int (nI (a + t))), (5, .int (nI i))]) hx hb dX9_check_54 rfl hl (by decide) rfl (fun ls hl => ?_)
                refine lv_iinc (v := nI (i + 1)) (lv' := [(5, .int (nI (i + 1))), (3, .int (bitN (i + 1) (crcR f a t ^^^ (f (a + t) &&& 255)))), (0, .ref mm), (1, .int (nI a)), (2, .int (nI b)), (4, .int (nI (a + t)))]) hx hb dX9_check_55 hl (k := 5) rfl (nI_inc i 1) (by decide) rfl (fun ls hl => ?_)
                refine lv_goto (tgt := 28) hx hb dX9_check_58 (by decide) ?_
                exact ih_K28 (i + 1) (by omega) (by omega) _ _ _ (hP.sub [0, 1] rfl) (hD.sub [0, 1] (by decide) rfl) hS (lv_sub hl [2, 3, 4, 1, 5, 0] rfl)
              · skip
                refine lv_iload_n hx hb dX9_check_42 rfl (lv_at hl 3 rfl) ?_
                refine lv_iconst (v := nI 1) hx hb dX9_check_43 (by decide) ?_
                refine lv_iushr (v := ush (bitN i (crcR f a t ^^^ (f (a + t) &&& 255))) 1) hx hb dX9_check_44 (rfl) ?_
                refine lv_ldc hx hb hown (hts (.constant RX9 73 (-306674912)) (by decide +kernel)) dX9_check_45 ?_
                refine q_ixor (v := (ush (bitN i (crcR f a t ^^^ (f (a + t) &&& 255))) 1) ^^^ ((-306674912))) hx hb dX9_check_47 (rfl) ?_
                refine lv_goto (tgt := 54) hx hb dX9_check_48 (by decide) ?_
                refine q_top (v := bitN (i + 1) (crcR f a t ^^^ (f (a + t) &&& 255))) (by first | exact (if_pos c39).symm | exact (if_neg c39).symm) ?_
                refine lv_istore_n (lv' := [(3, .int (bitN (i + 1) (crcR f a t ^^^ (f (a + t) &&& 255)))), (0, .ref mm), (1, .int (nI a)), (2, .int (nI b)), (4, .int (nI (a + t))), (5, .int (nI i))]) hx hb dX9_check_54 rfl hl (by decide) rfl (fun ls hl => ?_)
                refine lv_iinc (v := nI (i + 1)) (lv' := [(5, .int (nI (i + 1))), (3, .int (bitN (i + 1) (crcR f a t ^^^ (f (a + t) &&& 255)))), (0, .ref mm), (1, .int (nI a)), (2, .int (nI b)), (4, .int (nI (a + t)))]) hx hb dX9_check_55 hl (k := 5) rfl (nI_inc i 1) (by decide) rfl (fun ls hl => ?_)
                refine lv_goto (tgt := 28) hx hb dX9_check_58 (by decide) ?_
                exact ih_K28 (i + 1) (by omega) (by omega) _ _ _ (hP.sub [0, 1] rfl) (hD.sub [0, 1] (by decide) rfl) hS (lv_sub hl [2, 3, 4, 1, 5, 0] rfl)
        exact K28 ((8 - 0) + 1) 0 (by omega) (Nat.lt_succ_self _) _ _ _ (hP.sub [0, 1] rfl) (hD.sub [0, 1] (by decide) rfl) hS (lv_sub hl [2, 3, 4, 1, 5, 0] rfl)
  exact K5 ((b - a - 0) + 1) 0 (by omega) (Nat.lt_succ_self _) _ _ _ (hP.sub [0, 1] rfl) (hD.sub [0, 1] (by decide) rfl) hS (lv_sub hl [2, 3, 4, 1, 0] rfl)

set_option maxHeartbeats 4000000 in
set_option maxRecDepth 100000 in
theorem c_mHeld (l : Launch) (g : GT) (mm : Nat) (v0 : Value) (v1 : Value) (v2 : Value) (v3 : Value) (v4 : Value) (v5 : Value) (v6 : Value) (v7 : Value) (v8 : Value) (v9 : Value) (v10 : Value) (m_heldBytes : Nat) (v12 : Value) (v13 : Value) (v14 : Value) (v15 : Value) (v16 : Value) (v17 : Value) (v18 : Value) (v19 : Value) (v20 : Value) (v21 : Value) (v22 : Value) (v23 : Value) (v24 : Value) (v25 : Value) (v26 : Value) (v27 : Value) (v28 : Value) (v29 : Value) (v30 : Value) (v31 : Value) (v32 : Value) (v33 : Value) (v34 : Value) (v35 : Value) (v36 : Value) (v37 : Value) (v38 : Value)  : CT l g yX9_held wsX9_held ({ frames := 0, cells := 0, slots := 0, locals := 0 } : Room) [.ref mm] [(mm, .inr (7, v0 :: v1 :: v2 :: v3 :: v4 :: v5 :: v6 :: v7 :: v8 :: v9 :: v10 :: .int (nI m_heldBytes) :: v12 :: v13 :: v14 :: v15 :: v16 :: v17 :: v18 :: v19 :: v20 :: v21 :: v22 :: v23 :: v24 :: v25 :: v26 :: v27 :: v28 :: v29 :: v30 :: v31 :: v32 :: v33 :: v34 :: v35 :: v36 :: v37 :: v38 :: []))] (fun r w => (r = some (.int (nI m_heldBytes)) ∧ w = [(mm, .inr (7, v0 :: v1 :: v2 :: v3 :: v4 :: v5 :: v6 :: v7 :: v8 :: v9 :: v10 :: .int (nI m_heldBytes) :: v12 :: v13 :: v14 :: v15 :: v16 :: v17 :: v18 :: v19 :: v20 :: v21 :: v22 :: v23 :: v24 :: v25 :: v26 :: v27 :: v28 :: v29 :: v30 :: v31 :: v32 :: v33 :: v34 :: v35 :: v36 :: v37 :: v38 :: []))])) (0) (0) := by
  refine ct_of (cc := cX9_held) (maxL := 1) (ret := (some .int)) (by decide) rfl (Nat.le_of_ble_eq_true rfl) ?_
  intro p e s m args below meth c A Q hx hb hr hml hown hts hlocks hnam hAe hQ hA hG hK hP hD hS ls hl
  have hl : lv_has ls 1 [(0, .ref mm)] := hl
  have hown : s.vm.findClass RX9 = some m.cls := hown
  have hinX9 : ∀ w ∈ u_ws RX9 TX9 39, w ∈ wsX9_held := by decide +kernel
  have hf61 := hts (.fieldLink RX9 61 "RequestReaderModel" "heldBytes" "I") (by decide +kernel)
  refine lv_aload_n hx hb dX9_held_0 rfl (lv_at hl 0 rfl) ?_
  refine va_get (D := gD g) (ci := 7) (v := .int (nI m_heldBytes)) (C := RX9) (T := TX9) (N := 39) hx hb hts hinX9 hown hK hP 0 rfl rfl 11 (by decide) hf61 (fun _ h9 => h9) rfl dX9_held_1 ?_
  refine ct_iret (w := [(mm, .inr (7, v0 :: v1 :: v2 :: v3 :: v4 :: v5 :: v6 :: v7 :: v8 :: v9 :: v10 :: .int (nI m_heldBytes) :: v12 :: v13 :: v14 :: v15 :: v16 :: v17 :: v18 :: v19 :: v20 :: v21 :: v22 :: v23 :: v24 :: v25 :: v26 :: v27 :: v28 :: v29 :: v30 :: v31 :: v32 :: v33 :: v34 :: v35 :: v36 :: v37 :: v38 :: []))]) hx hb hr rfl hlocks hQ hAe hK (hP.sub [0] rfl) (hD.sub [0] (by decide) rfl) hS (by omega) (by omega) dX9_held_4 ?_
  exact ⟨rfl, rfl⟩

set_option maxHeartbeats 4000000 in
set_option maxRecDepth 100000 in
theorem c_mLeft (l : Launch) (g : GT) (mm : Nat) (v0 : Value) (v1 : Value) (v2 : Value) (v3 : Value) (v4 : Value) (v5 : Value) (v6 : Value) (v7 : Value) (v8 : Value) (v9 : Value) (v10 : Value) (v11 : Value) (m_leave : Nat) (v13 : Value) (v14 : Value) (v15 : Value) (v16 : Value) (v17 : Value) (v18 : Value) (v19 : Value) (v20 : Value) (v21 : Value) (v22 : Value) (v23 : Value) (v24 : Value) (v25 : Value) (v26 : Value) (v27 : Value) (v28 : Value) (v29 : Value) (v30 : Value) (v31 : Value) (v32 : Value) (v33 : Value) (v34 : Value) (v35 : Value) (v36 : Value) (v37 : Value) (v38 : Value)  : CT l g yX9_left wsX9_left ({ frames := 0, cells := 0, slots := 0, locals := 0 } : Room) [.ref mm] [(mm, .inr (7, v0 :: v1 :: v2 :: v3 :: v4 :: v5 :: v6 :: v7 :: v8 :: v9 :: v10 :: v11 :: .int (nI m_leave) :: v13 :: v14 :: v15 :: v16 :: v17 :: v18 :: v19 :: v20 :: v21 :: v22 :: v23 :: v24 :: v25 :: v26 :: v27 :: v28 :: v29 :: v30 :: v31 :: v32 :: v33 :: v34 :: v35 :: v36 :: v37 :: v38 :: []))] (fun r w => (r = some (.int (nI m_leave)) ∧ w = [(mm, .inr (7, v0 :: v1 :: v2 :: v3 :: v4 :: v5 :: v6 :: v7 :: v8 :: v9 :: v10 :: v11 :: .int (nI m_leave) :: v13 :: v14 :: v15 :: v16 :: v17 :: v18 :: v19 :: v20 :: v21 :: v22 :: v23 :: v24 :: v25 :: v26 :: v27 :: v28 :: v29 :: v30 :: v31 :: v32 :: v33 :: v34 :: v35 :: v36 :: v37 :: v38 :: []))])) (0) (0) := by
  refine ct_of (cc := cX9_left) (maxL := 1) (ret := (some .int)) (by decide) rfl (Nat.le_of_ble_eq_true rfl) ?_
  intro p e s m args below meth c A Q hx hb hr hml hown hts hlocks hnam hAe hQ hA hG hK hP hD hS ls hl
  have hl : lv_has ls 1 [(0, .ref mm)] := hl
  have hown : s.vm.findClass RX9 = some m.cls := hown
  have hinX9 : ∀ w ∈ u_ws RX9 TX9 39, w ∈ wsX9_left := by decide +kernel
  have hf64 := hts (.fieldLink RX9 64 "RequestReaderModel" "leave" "I") (by decide +kernel)
  refine lv_aload_n hx hb dX9_left_0 rfl (lv_at hl 0 rfl) ?_
  refine va_get (D := gD g) (ci := 7) (v := .int (nI m_leave)) (C := RX9) (T := TX9) (N := 39) hx hb hts hinX9 hown hK hP 0 rfl rfl 12 (by decide) hf64 (fun _ h9 => h9) rfl dX9_left_1 ?_
  refine ct_iret (w := [(mm, .inr (7, v0 :: v1 :: v2 :: v3 :: v4 :: v5 :: v6 :: v7 :: v8 :: v9 :: v10 :: v11 :: .int (nI m_leave) :: v13 :: v14 :: v15 :: v16 :: v17 :: v18 :: v19 :: v20 :: v21 :: v22 :: v23 :: v24 :: v25 :: v26 :: v27 :: v28 :: v29 :: v30 :: v31 :: v32 :: v33 :: v34 :: v35 :: v36 :: v37 :: v38 :: []))]) hx hb hr rfl hlocks hQ hAe hK (hP.sub [0] rfl) (hD.sub [0] (by decide) rfl) hS (by omega) (by omega) dX9_left_4 ?_
  exact ⟨rfl, rfl⟩

set_option maxHeartbeats 4000000 in
set_option maxRecDepth 100000 in
theorem c_mLength (l : Launch) (g : GT) (mm : Nat) (v0 : Value) (v1 : Value) (v2 : Value) (v3 : Value) (v4 : Value) (v5 : Value) (v6 : Value) (v7 : Value) (v8 : Value) (v9 : Value) (v10 : Value) (v11 : Value) (v12 : Value) (v13 : Value) (v14 : Value) (m_answerLength : Nat) (m_bodyLength : Nat) (v17 : Value) (v18 : Value) (v19 : Value) (v20 : Value) (v21 : Value) (v22 : Value) (v23 : Value) (v24 : Value) (v25 : Value) (v26 : Value) (v27 : Value) (v28 : Value) (v29 : Value) (v30 : Value) (v31 : Value) (v32 : Value) (v33 : Value) (v34 : Value) (v35 : Value) (v36 : Value) (v37 : Value) (v38 : Value)  : CT l g yX9_length wsX9_length ({ frames := 0, cells := 0, slots := 0, locals := 0 } : Room) [.ref mm] [(mm, .inr (7, v0 :: v1 :: v2 :: v3 :: v4 :: v5 :: v6 :: v7 :: v8 :: v9 :: v10 :: v11 :: v12 :: v13 :: v14 :: .int (nI m_answerLength) :: .int (nI m_bodyLength) :: v17 :: v18 :: v19 :: v20 :: v21 :: v22 :: v23 :: v24 :: v25 :: v26 :: v27 :: v28 :: v29 :: v30 :: v31 :: v32 :: v33 :: v34 :: v35 :: v36 :: v37 :: v38 :: []))] (fun r w => (r = some (.int (nI (m_answerLength + m_bodyLength))) ∧ w = [(mm, .inr (7, v0 :: v1 :: v2 :: v3 :: v4 :: v5 :: v6 :: v7 :: v8 :: v9 :: v10 :: v11 :: v12 :: v13 :: v14 :: .int (nI m_answerLength) :: .int (nI m_bodyLength) :: v17 :: v18 :: v19 :: v20 :: v21 :: v22 :: v23 :: v24 :: v25 :: v26 :: v27 :: v28 :: v29 :: v30 :: v31 :: v32 :: v33 :: v34 :: v35 :: v36 :: v37 :: v38 :: []))])) (0) (0) := by
  refine ct_of (cc := cX9_length) (maxL := 1) (ret := (some .int)) (by decide) rfl (Nat.le_of_ble_eq_true rfl) ?_
  intro p e s m args below meth c A Q hx hb hr hml hown hts hlocks hnam hAe hQ hA hG hK hP hD hS ls hl
  have hl : lv_has ls 1 [(0, .ref mm)] := hl
  have hown : s.vm.findClass RX9 = some m.cls := hown
  have hinX9 : ∀ w ∈ u_ws RX9 TX9 39, w ∈ wsX9_length := by decide +kernel
  have hf67 := hts (.fieldLink RX9 67 "RequestReaderModel" "answerLength" "I") (by decide +kernel)
  have hf70 := hts (.fieldLink RX9 70 "RequestReaderModel" "bodyLength" "I") (by decide +kernel)
  refine lv_aload_n hx hb dX9_length_0 rfl (lv_at hl 0 rfl) ?_
  refine va_get (D := gD g) (ci := 7) (v := .int (nI m_answerLength)) (C := RX9) (T := TX9) (N := 39) hx hb hts hinX9 hown hK hP 0 rfl rfl 15 (by decide) hf67 (fun _ h9 => h9) rfl dX9_length_1 ?_
  refine lv_aload_n hx hb dX9_length_4 rfl (lv_at hl 0 rfl) ?_
  refine va_get (D := gD g) (ci := 7) (v := .int (nI m_bodyLength)) (C := RX9) (T := TX9) (N := 39) hx hb hts hinX9 hown hK hP 0 rfl rfl 16 (by decide) hf70 (fun _ h9 => h9) rfl dX9_length_5 ?_
  refine q_iadd (v := nI (m_answerLength + m_bodyLength)) hx hb dX9_length_8 (nI_add m_answerLength m_bodyLength) ?_
  refine ct_iret (w := [(mm, .inr (7, v0 :: v1 :: v2 :: v3 :: v4 :: v5 :: v6 :: v7 :: v8 :: v9 :: v10 :: v11 :: v12 :: v13 :: v14 :: .int (nI m_answerLength) :: .int (nI m_bodyLength) :: v17 :: v18 :: v19 :: v20 :: v21 :: v22 :: v23 :: v24 :: v25 :: v26 :: v27 :: v28 :: v29 :: v30 :: v31 :: v32 :: v33 :: v34 :: v35 :: v36 :: v37 :: v38 :: []))]) hx hb hr rfl hlocks hQ hAe hK (hP.sub [0] rfl) (hD.sub [0] (by decide) rfl) hS (by omega) (by omega) dX9_length_9 ?_
  exact ⟨rfl, rfl⟩
