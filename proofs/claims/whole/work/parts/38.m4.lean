
set_option maxHeartbeats 4000000 in
set_option maxRecDepth 100000 in
theorem c_headAt (l : Launch) (g : GT) (mm : Nat) (v0 : Value) (v1 : Value) (v2 : Value) (v3 : Value) (v4 : Value) (v5 : Value) (v6 : Value) (v7 : Value) (v8 : Value) (v9 : Value) (v10 : Value) (v11 : Value) (v12 : Value) (v13 : Value) (v14 : Value) (v15 : Value) (v16 : Value) (ah_ : Nat) (v18 : Value) (v19 : Value) (v20 : Value) (v21 : Value) (v22 : Value) (v23 : Value) (v24 : Value) (v25 : Value) (v26 : Value) (v27 : Value) (v28 : Value) (v29 : Value) (v30 : Value) (v31 : Value) (v32 : Value) (v33 : Value) (v34 : Value) (v35 : Value) (v36 : Value) (v37 : Value) (v38 : Value) (fh : Nat → Int32) (f : Nat → Int32) (hn : Nat) (k : Nat) (hhn : hn ≤ 4096) (hM : ∀ j, j < hn → fh j = f j) (hk : k < hn) : CT l g yX9_headAt wsX9_headAt ({ frames := 0, cells := 0, slots := 0, locals := 0 } : Room) [.ref mm, .int (nI k)] [(mm, .inr (7, v0 :: v1 :: v2 :: v3 :: v4 :: v5 :: v6 :: v7 :: v8 :: v9 :: v10 :: v11 :: v12 :: v13 :: v14 :: v15 :: v16 :: .ref ah_ :: v18 :: v19 :: v20 :: v21 :: v22 :: v23 :: v24 :: v25 :: v26 :: v27 :: v28 :: v29 :: v30 :: v31 :: v32 :: v33 :: v34 :: v35 :: v36 :: v37 :: v38 :: [])), (ah_, .inl (gB g, 4096, .inl fh))] (fun r w => (r = some (.int (f k &&& 255)) ∧ w = [(mm, .inr (7, v0 :: v1 :: v2 :: v3 :: v4 :: v5 :: v6 :: v7 :: v8 :: v9 :: v10 :: v11 :: v12 :: v13 :: v14 :: v15 :: v16 :: .ref ah_ :: v18 :: v19 :: v20 :: v21 :: v22 :: v23 :: v24 :: v25 :: v26 :: v27 :: v28 :: v29 :: v30 :: v31 :: v32 :: v33 :: v34 :: v35 :: v36 :: v37 :: v38 :: [])), (ah_, .inl (gB g, 4096, .inl fh))])) (0) (0) := by
  refine ct_of (cc := cX9_headAt) (maxL := 2) (ret := (some .int)) (by decide) rfl (Nat.le_of_ble_eq_true rfl) ?_
  intro p e s m args below meth c A Q hx hb hr hml hown hts hlocks hnam hAe hQ hA hG hK hP hD hS ls hl
  have hl : lv_has ls 2 [(0, .ref mm), (1, .int (nI k))] := hl
  have hown : s.vm.findClass RX9 = some m.cls := hown
  have hinX9 : ∀ w ∈ u_ws RX9 TX9 39, w ∈ wsX9_headAt := by decide +kernel
  have hf40 := hts (.fieldLink RX9 40 "RequestReaderModel" "head" "[B") (by decide +kernel)
  refine lv_aload_n hx hb dX9_headAt_0 rfl (lv_at hl 0 rfl) ?_
  refine va_get (D := gD g) (ci := 7) (v := .ref ah_) (C := RX9) (T := TX9) (N := 39) hx hb hts hinX9 hown hK hP 0 rfl rfl 17 (by decide) hf40 (fun _ h9 => h9) rfl dX9_headAt_1 ?_
  refine lv_iload_n hx hb dX9_headAt_4 rfl (lv_at hl 1 rfl) ?_
  refine q_bald hx hb hK hP 1 rfl (k) rfl (by omega) (by omega) dX9_headAt_5 ?_
  refine q_top (v := f k) (hM _ (by omega)) ?_
  refine lv_sipush (v := nI 255) hx hb dX9_headAt_6 (by decide) ?_
  refine q_iand (v := (f k) &&& 255) hx hb dX9_headAt_9 (rfl) ?_
  refine ct_iret (w := [(mm, .inr (7, v0 :: v1 :: v2 :: v3 :: v4 :: v5 :: v6 :: v7 :: v8 :: v9 :: v10 :: v11 :: v12 :: v13 :: v14 :: v15 :: v16 :: .ref ah_ :: v18 :: v19 :: v20 :: v21 :: v22 :: v23 :: v24 :: v25 :: v26 :: v27 :: v28 :: v29 :: v30 :: v31 :: v32 :: v33 :: v34 :: v35 :: v36 :: v37 :: v38 :: [])), (ah_, .inl (gB g, 4096, .inl fh))]) hx hb hr rfl hlocks hQ hAe hK (hP.sub [0, 1] rfl) (hD.sub [0, 1] (by decide) rfl) hS (by omega) (by omega) dX9_headAt_10 ?_
  exact ⟨rfl, rfl⟩

set_option maxHeartbeats 4000000 in
set_option maxRecDepth 100000 in
theorem c_lineEndM (l : Launch) (g : GT) (mm : Nat) (v0 : Value) (v1 : Value) (v2 : Value) (v3 : Value) (v4 : Value) (v5 : Value) (v6 : Value) (v7 : Value) (v8 : Value) (v9 : Value) (v10 : Value) (v11 : Value) (v12 : Value) (v13 : Value) (v14 : Value) (v15 : Value) (v16 : Value) (ah_ : Nat) (v18 : Value) (v19 : Value) (v20 : Value) (v21 : Value) (v22 : Value) (v23 : Value) (v24 : Value) (v25 : Value) (v26 : Value) (v27 : Value) (v28 : Value) (v29 : Value) (v30 : Value) (v31 : Value) (v32 : Value) (v33 : Value) (v34 : Value) (v35 : Value) (v36 : Value) (v37 : Value) (v38 : Value) (fh : Nat → Int32) (f : Nat → Int32) (hn : Nat) (a : Nat) (hhn : hn ≤ 4096) (hM : ∀ j, j < hn → fh j = f j) (hfit : sb_Fit f) (ha : a < hn) (hz : f (hn - 1) &&& 255 = nI 10) : CT l g yX9_lineEnd wsX9_lineEnd ({ frames := 0, cells := 0, slots := 0, locals := 0 } : Room) [.ref mm, .int (nI a)] [(mm, .inr (7, v0 :: v1 :: v2 :: v3 :: v4 :: v5 :: v6 :: v7 :: v8 :: v9 :: v10 :: v11 :: v12 :: v13 :: v14 :: v15 :: v16 :: .ref ah_ :: v18 :: v19 :: v20 :: v21 :: v22 :: v23 :: v24 :: v25 :: v26 :: v27 :: v28 :: v29 :: v30 :: v31 :: v32 :: v33 :: v34 :: v35 :: v36 :: v37 :: v38 :: [])), (ah_, .inl (gB g, 4096, .inl fh))] (fun r w => (∃ (r1 : Nat), r = some (.int (nI r1)) ∧ w = [(mm, .inr (7, v0 :: v1 :: v2 :: v3 :: v4 :: v5 :: v6 :: v7 :: v8 :: v9 :: v10 :: v11 :: v12 :: v13 :: v14 :: v15 :: v16 :: .ref ah_ :: v18 :: v19 :: v20 :: v21 :: v22 :: v23 :: v24 :: v25 :: v26 :: v27 :: v28 :: v29 :: v30 :: v31 :: v32 :: v33 :: v34 :: v35 :: v36 :: v37 :: v38 :: [])), (ah_, .inl (gB g, 4096, .inl fh))] ∧ (a ≤ r1 ∧ r1 < hn) ∧ (f r1 &&& 255 = nI 10) ∧ (∀ j, a ≤ j → j < r1 → ¬ f j &&& 255 = nI 10))) (0) (0) := by
  refine ct_of (cc := cX9_lineEnd) (maxL := 3) (ret := (some .int)) (by decide) rfl (Nat.le_of_ble_eq_true rfl) ?_
  intro p e s m args below meth c A Q hx hb hr hml hown hts hlocks hnam hAe hQ hA hG hK hP hD hS ls hl
  have hl : lv_has ls 3 [(0, .ref mm), (1, .int (nI a))] := hl
  have hown : s.vm.findClass RX9 = some m.cls := hown
  have hinX9 : ∀ w ∈ u_ws RX9 TX9 39, w ∈ wsX9_lineEnd := by decide +kernel
  have hf40 := hts (.fieldLink RX9 40 "RequestReaderModel" "head" "[B") (by decide +kernel)
  refine lv_iload_n hx hb dX9_lineEnd_0 rfl (lv_at hl 1 rfl) ?_
  refine lv_istore_n (lv' := [(2, .int (nI a)), (0, .ref mm), (1, .int (nI a))]) hx hb dX9_lineEnd_1 rfl hl (by decide) rfl (fun ls hl => ?_)
  have K2 : ∀ (N_ : Nat) (i : Nat), (a ≤ i) → (i < hn) → (∀ j, a ≤ j → j < i → ¬ f j &&& 255 = nI 10) → (hn - i) < N_ → ∀ (H : Heap) (locs : List Loc) (ls : Array Slot), va_P (gD g) vwCl [(mm, .inr (7, v0 :: v1 :: v2 :: v3 :: v4 :: v5 :: v6 :: v7 :: v8 :: v9 :: v10 :: v11 :: v12 :: v13 :: v14 :: v15 :: v16 :: .ref ah_ :: v18 :: v19 :: v20 :: v21 :: v22 :: v23 :: v24 :: v25 :: v26 :: v27 :: v28 :: v29 :: v30 :: v31 :: v32 :: v33 :: v34 :: v35 :: v36 :: v37 :: v38 :: [])), (ah_, .inl (gB g, 4096, .inl fh))] H → va_D A [(mm, .inr (7, v0 :: v1 :: v2 :: v3 :: v4 :: v5 :: v6 :: v7 :: v8 :: v9 :: v10 :: v11 :: v12 :: v13 :: v14 :: v15 :: v16 :: .ref ah_ :: v18 :: v19 :: v20 :: v21 :: v22 :: v23 :: v24 :: v25 :: v26 :: v27 :: v28 :: v29 :: v30 :: v31 :: v32 :: v33 :: v34 :: v35 :: v36 :: v37 :: v38 :: [])), (ah_, .inl (gB g, 4096, .inl fh))] → va_S A s.heap H locs → lv_has ls 3 [(0, .ref mm), (1, .int (nI a)), (2, .int (nI i))] → W p l e ({ frames := 0, cells := 0, slots := 0, locals := 0 } : Room) s m args below meth c H locs (0) (0) Q (F0 m 2 ls []) := by
    intro N_
    induction N_ with
    | zero => intro i hi hi2 hno hm_; exact absurd hm_ (Nat.not_lt_zero _)
    | succ N_ ih_K2 =>
      intro i hi hi2 hno hm_ H locs ls hP hD hS hl
      refine lv_aload_n hx hb dX9_lineEnd_2 rfl (lv_at hl 0 rfl) ?_
      refine va_get (D := gD g) (ci := 7) (v := .ref ah_) (C := RX9) (T := TX9) (N := 39) hx hb hts hinX9 hown hK hP 0 rfl rfl 17 (by decide) hf40 (fun _ h9 => h9) rfl dX9_lineEnd_3 ?_
      refine lv_iload_n hx hb dX9_lineEnd_6 rfl (lv_at hl 2 rfl) ?_
      refine q_bald hx hb hK hP 1 rfl (i) rfl (by omega) (by omega) dX9_lineEnd_7 ?_
      refine q_top (v := f i) (hM _ (by omega)) ?_
      refine lv_bipush (v := nI 10) hx hb dX9_lineEnd_8 (by decide) ?_
      refine lv_icmp_eq (tgt := 19) hx hb dX9_lineEnd_10 (by decide) (fun c10 => ?_) (fun c10 => ?_)
      · skip
        have c10 := (ra hfit (by decide)).mp c10
        refine lv_iload_n hx hb dX9_lineEnd_19 rfl (lv_at hl 2 rfl) ?_
        refine ct_iret (w := [(mm, .inr (7, v0 :: v1 :: v2 :: v3 :: v4 :: v5 :: v6 :: v7 :: v8 :: v9 :: v10 :: v11 :: v12 :: v13 :: v14 :: v15 :: v16 :: .ref ah_ :: v18 :: v19 :: v20 :: v21 :: v22 :: v23 :: v24 :: v25 :: v26 :: v27 :: v28 :: v29 :: v30 :: v31 :: v32 :: v33 :: v34 :: v35 :: v36 :: v37 :: v38 :: [])), (ah_, .inl (gB g, 4096, .inl fh))]) hx hb hr rfl hlocks hQ hAe hK (hP.sub [0, 1] rfl) (hD.sub [0, 1] (by decide) rfl) hS (by omega) (by omega) dX9_lineEnd_20 ?_
        exact ⟨i, rfl, rfl, by omega, by exact c10, by exact hno⟩
      · skip
        have c10 : ¬ f i &&& 255 = nI 10 := fun z => c10 ((ra hfit (by decide)).mpr z)
        refine lv_iinc (v := nI (i + 1)) (lv' := [(2, .int (nI (i + 1))), (0, .ref mm), (1, .int (nI a))]) hx hb dX9_lineEnd_13 hl (k := 2) rfl (nI_inc i 1) (by decide) rfl (fun ls hl => ?_)
        refine lv_goto (tgt := 2) hx hb dX9_lineEnd_16 (by decide) ?_
        exact ih_K2 (i + 1) (by omega) (by first | omega | exact (if z : i + 1 < hn then z else absurd (by rw [show i = hn - 1 by omega]; exact hz) c10)) (by exact all_s hno c10) (by omega) _ _ _ (hP.sub [0, 1] rfl) (hD.sub [0, 1] (by decide) rfl) hS (lv_sub hl [1, 2, 0] rfl)
  exact K2 ((hn - a) + 1) a (by omega) (by omega) (by intro j h1 h2; omega) (Nat.lt_succ_self _) _ _ _ (hP.sub [0, 1] rfl) (hD.sub [0, 1] (by decide) rfl) hS (lv_sub hl [1, 2, 0] rfl)

set_option maxHeartbeats 4000000 in
set_option maxRecDepth 100000 in
theorem c_shown (l : Launch) (g : GT) (mm : Nat) (v0 : Value) (v1 : Value) (v2 : Value) (v3 : Value) (v4 : Value) (v5 : Value) (v6 : Value) (v7 : Value) (v8 : Value) (v9 : Value) (v10 : Value) (v11 : Value) (v12 : Value) (v13 : Value) (v14 : Value) (v15 : Value) (v16 : Value) (ah_ : Nat) (v18 : Value) (v19 : Value) (v20 : Value) (v21 : Value) (v22 : Value) (v23 : Value) (v24 : Value) (v25 : Value) (v26 : Value) (v27 : Value) (v28 : Value) (v29 : Value) (v30 : Value) (v31 : Value) (v32 : Value) (v33 : Value) (v34 : Value) (v35 : Value) (v36 : Value) (v37 : Value) (v38 : Value) (fh : Nat → Int32) (f : Nat → Int32) (hn : Nat) (a : Nat) (b : Nat) (hhn : hn ≤ 4096) (hM : ∀ j, j < hn → fh j = f j) (hfit : sb_Fit f) (hb2 : b < hn) (ha2 : a < 2 ^ 30) : CT l g yX9_shown wsX9_shown ({ frames := 0, cells := 0, slots := 0, locals := 0 } : Room) [.ref mm, .int (nI a), .int (nI b)] [(mm, .inr (7, v0 :: v1 :: v2 :: v3 :: v4 :: v5 :: v6 :: v7 :: v8 :: v9 :: v10 :: v11 :: v12 :: v13 :: v14 :: v15 :: v16 :: .ref ah_ :: v18 :: v19 :: v20 :: v21 :: v22 :: v23 :: v24 :: v25 :: v26 :: v27 :: v28 :: v29 :: v30 :: v31 :: v32 :: v33 :: v34 :: v35 :: v36 :: v37 :: v38 :: [])), (ah_, .inl (gB g, 4096, .inl fh))] (fun r w => (∃ (r1 : Nat), r = some (.int (nI r1)) ∧ w = [(mm, .inr (7, v0 :: v1 :: v2 :: v3 :: v4 :: v5 :: v6 :: v7 :: v8 :: v9 :: v10 :: v11 :: v12 :: v13 :: v14 :: v15 :: v16 :: .ref ah_ :: v18 :: v19 :: v20 :: v21 :: v22 :: v23 :: v24 :: v25 :: v26 :: v27 :: v28 :: v29 :: v30 :: v31 :: v32 :: v33 :: v34 :: v35 :: v36 :: v37 :: v38 :: [])), (ah_, .inl (gB g, 4096, .inl fh))] ∧ ((r1 = b ∧ ¬ (a < b ∧ f (b - 1) &&& 255 = nI 13)) ∨ (r1 + 1 = b ∧ a < b ∧ f (b - 1) &&& 255 = nI 13)))) (0) (0) := by
  refine ct_of (cc := cX9_shown) (maxL := 3) (ret := (some .int)) (by decide) rfl (Nat.le_of_ble_eq_true rfl) ?_
  intro p e s m args below meth c A Q hx hb hr hml hown hts hlocks hnam hAe hQ hA hG hK hP hD hS ls hl
  have hl : lv_has ls 3 [(0, .ref mm), (1, .int (nI a)), (2, .int (nI b))] := hl
  have hown : s.vm.findClass RX9 = some m.cls := hown
  have hinX9 : ∀ w ∈ u_ws RX9 TX9 39, w ∈ wsX9_shown := by decide +kernel
  have hf40 := hts (.fieldLink RX9 40 "RequestReaderModel" "head" "[B") (by decide +kernel)
  refine lv_iload_n hx hb dX9_shown_0 rfl (lv_at hl 2 rfl) ?_
  refine lv_iload_n hx hb dX9_shown_1 rfl (lv_at hl 1 rfl) ?_
  refine lv_icmp_le (tgt := 24) hx hb dX9_shown_2 (by decide) (fun c2 => ?_) (fun c2 => ?_)
  · skip
    have c2 : b ≤ a := (nI_leI (a := b) (b := a) (by omega) (by omega)).mp c2
    refine lv_iload_n hx hb dX9_shown_24 rfl (lv_at hl 2 rfl) ?_
    refine ct_iret (w := [(mm, .inr (7, v0 :: v1 :: v2 :: v3 :: v4 :: v5 :: v6 :: v7 :: v8 :: v9 :: v10 :: v11 :: v12 :: v13 :: v14 :: v15 :: v16 :: .ref ah_ :: v18 :: v19 :: v20 :: v21 :: v22 :: v23 :: v24 :: v25 :: v26 :: v27 :: v28 :: v29 :: v30 :: v31 :: v32 :: v33 :: v34 :: v35 :: v36 :: v37 :: v38 :: [])), (ah_, .inl (gB g, 4096, .inl fh))]) hx hb hr rfl hlocks hQ hAe hK (hP.sub [0, 1] rfl) (hD.sub [0, 1] (by decide) rfl) hS (by omega) (by omega) dX9_shown_25 ?_
    exact ⟨b, rfl, rfl, by first | exact Or.inl ⟨rfl, fun z => absurd z.1 (by omega)⟩ | exact Or.inl ⟨rfl, fun z => c15 z.2⟩ | exact Or.inr ⟨by omega, by omega, c15⟩⟩
  · skip
    have c2 : ¬ (b ≤ a) := fun z => c2 ((nI_leI (a := b) (b := a) (by omega) (by omega)).mpr z)
    refine lv_aload_n hx hb dX9_shown_5 rfl (lv_at hl 0 rfl) ?_
    refine va_get (D := gD g) (ci := 7) (v := .ref ah_) (C := RX9) (T := TX9) (N := 39) hx hb hts hinX9 hown hK hP 0 rfl rfl 17 (by decide) hf40 (fun _ h9 => h9) rfl dX9_shown_6 ?_
    refine lv_iload_n hx hb dX9_shown_9 rfl (lv_at hl 2 rfl) ?_
    refine lv_iconst (v := nI 1) hx hb dX9_shown_10 (by decide) ?_
    refine q_isub (v := nI (b - 1)) hx hb dX9_shown_11 (pk_sub (a := b) (b := 1) (by omega)) ?_
    refine q_bald hx hb hK hP 1 rfl (b - 1) rfl (by omega) (by omega) dX9_shown_12 ?_
    refine q_top (v := f (b - 1)) (hM _ (by omega)) ?_
    refine lv_bipush (v := nI 13) hx hb dX9_shown_13 (by decide) ?_
    refine lv_icmp_ne (tgt := 24) hx hb dX9_shown_15 (by decide) (fun c15 => ?_) (fun c15 => ?_)
    · skip
      have c15 : ¬ f (b - 1) &&& 255 = nI 13 := fun z => c15 ((ra hfit (by decide)).mpr z)
      refine lv_iload_n hx hb dX9_shown_24 rfl (lv_at hl 2 rfl) ?_
      refine ct_iret (w := [(mm, .inr (7, v0 :: v1 :: v2 :: v3 :: v4 :: v5 :: v6 :: v7 :: v8 :: v9 :: v10 :: v11 :: v12 :: v13 :: v14 :: v15 :: v16 :: .ref ah_ :: v18 :: v19 :: v20 :: v21 :: v22 :: v23 :: v24 :: v25 :: v26 :: v27 :: v28 :: v29 :: v30 :: v31 :: v32 :: v33 :: v34 :: v35 :: v36 :: v37 :: v38 :: [])), (ah_, .inl (gB g, 4096, .inl fh))]) hx hb hr rfl hlocks hQ hAe hK (hP.sub [0, 1] rfl) (hD.sub [0, 1] (by decide) rfl) hS (by omega) (by omega) dX9_shown_25 ?_
      exact ⟨b, rfl, rfl, by first | exact Or.inl ⟨rfl, fun z => absurd z.1 (by omega)⟩ | exact Or.inl ⟨rfl, fun z => c15 z.2⟩ | exact Or.inr ⟨by omega, by omega, c15⟩⟩
    · skip
      have c15 := (ra hfit (by decide)).mp c15
      refine lv_iload_n hx hb dX9_shown_18 rfl (lv_at hl 2 rfl) ?_
      refine lv_iconst (v := nI 1) hx hb dX9_shown_19 (by decide) ?_
      refine q_isub (v := nI (b - 1)) hx hb dX9_shown_20 (pk_sub (a := b) (b := 1) (by omega)) ?_
      refine lv_goto (tgt := 25) hx hb dX9_shown_21 (by decide) ?_
      refine ct_iret (w := [(mm, .inr (7, v0 :: v1 :: v2 :: v3 :: v4 :: v5 :: v6 :: v7 :: v8 :: v9 :: v10 :: v11 :: v12 :: v13 :: v14 :: v15 :: v16 :: .ref ah_ :: v18 :: v19 :: v20 :: v21 :: v22 :: v23 :: v24 :: v25 :: v26 :: v27 :: v28 :: v29 :: v30 :: v31 :: v32 :: v33 :: v34 :: v35 :: v36 :: v37 :: v38 :: [])), (ah_, .inl (gB g, 4096, .inl fh))]) hx hb hr rfl hlocks hQ hAe hK (hP.sub [0, 1] rfl) (hD.sub [0, 1] (by decide) rfl) hS (by omega) (by omega) dX9_shown_25 ?_
      exact ⟨b - 1, rfl, rfl, by first | exact Or.inl ⟨rfl, fun z => absurd z.1 (by omega)⟩ | exact Or.inl ⟨rfl, fun z => c15 z.2⟩ | exact Or.inr ⟨by omega, by omega, c15⟩⟩

set_option maxHeartbeats 4000000 in
set_option maxRecDepth 100000 in
theorem c_says (l : Launch) (g : GT) (mm : Nat) (v0 : Value) (v1 : Value) (v2 : Value) (v3 : Value) (v4 : Value) (v5 : Value) (v6 : Value) (v7 : Value) (v8 : Value) (v9 : Value) (v10 : Value) (v11 : Value) (v12 : Value) (v13 : Value) (v14 : Value) (v15 : Value) (v16 : Value) (ah_ : Nat) (v18 : Value) (v19 : Value) (v20 : Value) (v21 : Value) (v22 : Value) (v23 : Value) (v24 : Value) (v25 : Value) (v26 : Value) (v27 : Value) (v28 : Value) (v29 : Value) (v30 : Value) (v31 : Value) (v32 : Value) (v33 : Value) (v34 : Value) (v35 : Value) (v36 : Value) (v37 : Value) (v38 : Value) (fh : Nat → Int32) (f : Nat → Int32) (hn : Nat) (a : Nat) (b : Nat) (k : Nat) (kc : Nat) (hhn : hn ≤ 4096) (hM : ∀ j, j < hn → fh j = f j) (hb2 : b ≤ hn) (ha2 : a ≤ b) (hk : k < 84) (he : sL k = sL kc) : CT l g yX9_says wsX9_says ({ frames := 4, cells := 0, slots := 0, locals := 85 } : Room) [.ref mm, .int (nI a), .int (nI b), .ref (gK g k)] [(mm, .inr (7, v0 :: v1 :: v2 :: v3 :: v4 :: v5 :: v6 :: v7 :: v8 :: v9 :: v10 :: v11 :: v12 :: v13 :: v14 :: v15 :: v16 :: .ref ah_ :: v18 :: v19 :: v20 :: v21 :: v22 :: v23 :: v24 :: v25 :: v26 :: v27 :: v28 :: v29 :: v30 :: v31 :: v32 :: v33 :: v34 :: v35 :: v36 :: v37 :: v38 :: [])), (ah_, .inl (gB g, 4096, .inl fh))] (fun r w => (r = some (.int (nI 1)) ∧ w = [(mm, .inr (7, v0 :: v1 :: v2 :: v3 :: v4 :: v5 :: v6 :: v7 :: v8 :: v9 :: v10 :: v11 :: v12 :: v13 :: v14 :: v15 :: v16 :: .ref ah_ :: v18 :: v19 :: v20 :: v21 :: v22 :: v23 :: v24 :: v25 :: v26 :: v27 :: v28 :: v29 :: v30 :: v31 :: v32 :: v33 :: v34 :: v35 :: v36 :: v37 :: v38 :: [])), (ah_, .inl (gB g, 4096, .inl fh))] ∧ (pText f a b kc)) ∨ (r = some (.int (nI 0)) ∧ w = [(mm, .inr (7, v0 :: v1 :: v2 :: v3 :: v4 :: v5 :: v6 :: v7 :: v8 :: v9 :: v10 :: v11 :: v12 :: v13 :: v14 :: v15 :: v16 :: .ref ah_ :: v18 :: v19 :: v20 :: v21 :: v22 :: v23 :: v24 :: v25 :: v26 :: v27 :: v28 :: v29 :: v30 :: v31 :: v32 :: v33 :: v34 :: v35 :: v36 :: v37 :: v38 :: [])), (ah_, .inl (gB g, 4096, .inl fh))] ∧ (¬ (pText f a b kc)))) (0) (0) := by
  refine ct_of (cc := cX9_says) (maxL := 5) (ret := (some .boolean)) (by decide) rfl (Nat.le_of_ble_eq_true rfl) ?_
  intro p e s m args below meth c A Q hx hb hr hml hown hts hlocks hnam hAe hQ hA hG hK hP hD hS ls hl
  have hl : lv_has ls 5 [(0, .ref mm), (1, .int (nI a)), (2, .int (nI b)), (3, .ref (gK g k))] := hl
  have hown : s.vm.findClass RX9 = some m.cls := hown
  have hsl := slen_le k hk
  refine lv_iload_n hx hb dX9_says_0 rfl (lv_at hl 2 rfl) ?_
  refine lv_iload_n hx hb dX9_says_1 rfl (lv_at hl 1 rfl) ?_
  refine q_isub (v := nI (b - a)) hx hb dX9_says_2 (pk_sub (a := b) (b := a) (by omega)) ?_
  refine lv_aload_n hx hb dX9_says_3 rfl (lv_at hl 3 rfl) ?_
  refine ct_callV (wr := [(mm, .inr (7, v0 :: v1 :: v2 :: v3 :: v4 :: v5 :: v6 :: v7 :: v8 :: v9 :: v10 :: v11 :: v12 :: v13 :: v14 :: v15 :: v16 :: .ref ah_ :: v18 :: v19 :: v20 :: v21 :: v22 :: v23 :: v24 :: v25 :: v26 :: v27 :: v28 :: v29 :: v30 :: v31 :: v32 :: v33 :: v34 :: v35 :: v36 :: v37 :: v38 :: [])), (ah_, .inl (gB g, 4096, .inl fh))]) hx hb hml hown hts hK hP hD hS hA hG hl.1 (c_slen l g k (by first | assumption | decide)) (cwV 0 hts gX9_says_J0_length_8abf5 rfl rfl rfl (by decide +kernel) ⟨Nat.le_of_ble_eq_true rfl, Nat.le_of_ble_eq_true rfl⟩) (st_recv hG (k := k) (by assumption) hS) rfl rfl (Nat.le_of_ble_eq_true rfl) dX9_says_4 ⟨show 0 + 0 ≤ 0 by omega, show 0 + 0 ≤ 0 by omega⟩ [] [0, 1] rfl rfl (by decide) (by decide) (by decide) (fun r_ w_ H locs hp_ hP hD hS => ?_)
  obtain ⟨rfl, rfl⟩ := hp_
  have hP : va_P (gD g) vwCl [(mm, .inr (7, v0 :: v1 :: v2 :: v3 :: v4 :: v5 :: v6 :: v7 :: v8 :: v9 :: v10 :: v11 :: v12 :: v13 :: v14 :: v15 :: v16 :: .ref ah_ :: v18 :: v19 :: v20 :: v21 :: v22 :: v23 :: v24 :: v25 :: v26 :: v27 :: v28 :: v29 :: v30 :: v31 :: v32 :: v33 :: v34 :: v35 :: v36 :: v37 :: v38 :: [])), (ah_, .inl (gB g, 4096, .inl fh))] H := hP
  have hD : va_D A [(mm, .inr (7, v0 :: v1 :: v2 :: v3 :: v4 :: v5 :: v6 :: v7 :: v8 :: v9 :: v10 :: v11 :: v12 :: v13 :: v14 :: v15 :: v16 :: .ref ah_ :: v18 :: v19 :: v20 :: v21 :: v22 :: v23 :: v24 :: v25 :: v26 :: v27 :: v28 :: v29 :: v30 :: v31 :: v32 :: v33 :: v34 :: v35 :: v36 :: v37 :: v38 :: [])), (ah_, .inl (gB g, 4096, .inl fh))] := hD
  refine W.eq (g2 := F0 m 7 ls [.int (nI (slen k)), .int (nI (b - a))]) rfl ?_
  refine lv_icmp_eq (tgt := 12) hx hb dX9_says_7 (by decide) (fun c7 => ?_) (fun c7 => ?_)
  · skip
    have c7 : b - a = slen k := (nI_eq (a := b - a) (b := slen k) (by omega) (by omega)).mp c7
    refine lv_iload_n hx hb dX9_says_12 rfl (lv_at hl 1 rfl) ?_
    refine lv_istore (lv' := [(4, .int (nI a)), (0, .ref mm), (1, .int (nI a)), (2, .int (nI b)), (3, .ref (gK g k))]) hx hb dX9_says_13 hl (by decide) rfl (fun ls hl => ?_)
    have K15 : ∀ (N_ : Nat) (i : Nat), (i ≤ slen k) → (∀ j, j < i → f (a + j) &&& 255 = sbyt k j &&& 255) → (slen k - i) < N_ → ∀ (H : Heap) (locs : List Loc) (ls : Array Slot), va_P (gD g) vwCl [(mm, .inr (7, v0 :: v1 :: v2 :: v3 :: v4 :: v5 :: v6 :: v7 :: v8 :: v9 :: v10 :: v11 :: v12 :: v13 :: v14 :: v15 :: v16 :: .ref ah_ :: v18 :: v19 :: v20 :: v21 :: v22 :: v23 :: v24 :: v25 :: v26 :: v27 :: v28 :: v29 :: v30 :: v31 :: v32 :: v33 :: v34 :: v35 :: v36 :: v37 :: v38 :: [])), (ah_, .inl (gB g, 4096, .inl fh))] H → va_D A [(mm, .inr (7, v0 :: v1 :: v2 :: v3 :: v4 :: v5 :: v6 :: v7 :: v8 :: v9 :: v10 :: v11 :: v12 :: v13 :: v14 :: v15 :: v16 :: .ref ah_ :: v18 :: v19 :: v20 :: v21 :: v22 :: v23 :: v24 :: v25 :: v26 :: v27 :: v28 :: v29 :: v30 :: v31 :: v32 :: v33 :: v34 :: v35 :: v36 :: v37 :: v38 :: [])), (ah_, .inl (gB g, 4096, .inl fh))] → va_S A s.heap H locs → lv_has ls 5 [(0, .ref mm), (1, .int (nI a)), (2, .int (nI b)), (3, .ref (gK g k)), (4, .int (nI (a + i)))] → W p l e ({ frames := 4, cells := 0, slots := 0, locals := 85 } : Room) s m args below meth c H locs (0) (0) Q (F0 m 15 ls []) := by
      intro N_
      induction N_ with
      | zero => intro i hi hall hm_; exact absurd hm_ (Nat.not_lt_zero _)
      | succ N_ ih_K15 =>
        intro i hi hall hm_ H locs ls hP hD hS hl
        refine lv_iload hx hb dX9_says_15 (lv_at hl 4 rfl) ?_
        refine lv_iload_n hx hb dX9_says_17 rfl (lv_at hl 2 rfl) ?_
        refine lv_icmp_ge (tgt := 46) hx hb dX9_says_18 (by decide) (fun c18 => ?_) (fun c18 => ?_)
        · skip
          have c18 : b ≤ a + i := (nI_leI (a := b) (b := a + i) (by omega) (by omega)).mp c18
          refine lv_iconst (v := nI 1) hx hb dX9_says_46 (by decide) ?_
          refine ct_iret (w := [(mm, .inr (7, v0 :: v1 :: v2 :: v3 :: v4 :: v5 :: v6 :: v7 :: v8 :: v9 :: v10 :: v11 :: v12 :: v13 :: v14 :: v15 :: v16 :: .ref ah_ :: v18 :: v19 :: v20 :: v21 :: v22 :: v23 :: v24 :: v25 :: v26 :: v27 :: v28 :: v29 :: v30 :: v31 :: v32 :: v33 :: v34 :: v35 :: v36 :: v37 :: v38 :: [])), (ah_, .inl (gB g, 4096, .inl fh))]) hx hb hr rfl hlocks hQ hAe hK (hP.sub [0, 1] rfl) (hD.sub [0, 1] (by decide) rfl) hS (by omega) (by omega) dX9_says_47 ?_
          refine Or.inl (?_)
          exact ⟨rfl, rfl, by first | (rw [← pText_e he]; exact ⟨by omega, fun j hj => hall j (by omega)⟩) | (rw [← pText_e he]; first | exact fun z => absurd z.1 (by omega) | exact fun z => c35 (z.2 _ (by omega)))⟩
        · skip
          have c18 : ¬ (b ≤ a + i) := fun z => c18 ((nI_leI (a := b) (b := a + i) (by omega) (by omega)).mpr z)
          refine lv_aload_n hx hb dX9_says_21 rfl (lv_at hl 0 rfl) ?_
          refine lv_iload hx hb dX9_says_22 (lv_at hl 4 rfl) ?_
          refine ct_callV (wr := []) hx hb hml hown hts hK hP hD hS hA hG hl.1 (c_headAt l g mm ((v0 : Value)) ((v1 : Value)) ((v2 : Value)) ((v3 : Value)) ((v4 : Value)) ((v5 : Value)) ((v6 : Value)) ((v7 : Value)) ((v8 : Value)) ((v9 : Value)) ((v10 : Value)) ((v11 : Value)) ((v12 : Value)) ((v13 : Value)) ((v14 : Value)) ((v15 : Value)) ((v16 : Value)) ah_ ((v18 : Value)) ((v19 : Value)) ((v20 : Value)) ((v21 : Value)) ((v22 : Value)) ((v23 : Value)) ((v24 : Value)) ((v25 : Value)) ((v26 : Value)) ((v27 : Value)) ((v28 : Value)) ((v29 : Value)) ((v30 : Value)) ((v31 : Value)) ((v32 : Value)) ((v33 : Value)) ((v34 : Value)) ((v35 : Value)) ((v36 : Value)) ((v37 : Value)) ((v38 : Value)) fh f hn (a + i) (by omega) (by assumption) (by omega)) (cwV 1 hts gX9_says_X9_headAt rfl rfl rfl (by decide +kernel) ⟨Nat.le_of_ble_eq_true rfl, Nat.le_of_ble_eq_true rfl⟩) (va_recv hK hP (ci := 7) (q0 := 0) rfl rfl) rfl rfl (Nat.le_of_ble_eq_true rfl) dX9_says_24 ⟨show 0 + 0 ≤ 0 by omega, show 0 + 0 ≤ 0 by omega⟩ [0, 1] [] rfl rfl (by decide) (by decide) (by decide) (fun r_ w_ H locs hp_ hP hD hS => ?_)
          obtain ⟨rfl, rfl⟩ := hp_
          have hP : va_P (gD g) vwCl [(mm, .inr (7, v0 :: v1 :: v2 :: v3 :: v4 :: v5 :: v6 :: v7 :: v8 :: v9 :: v10 :: v11 :: v12 :: v13 :: v14 :: v15 :: v16 :: .ref ah_ :: v18 :: v19 :: v20 :: v21 :: v22 :: v23 :: v24 :: v25 :: v26 :: v27 :: v28 :: v29 :: v30 :: v31 :: v32 :: v33 :: v34 :: v35 :: v36 :: v37 :: v38 :: [])), (ah_, .inl (gB g, 4096, .inl fh))] H := hP
          have hD : va_D A [(mm, .inr (7, v0 :: v1 :: v2 :: v3 :: v4 :: v5 :: v6 :: v7 :: v8 :: v9 :: v10 :: v11 :: v12 :: v13 :: v14 :: v15 :: v16 :: .ref ah_ :: v18 :: v19 :: v20 :: v21 :: v22 :: v23 :: v24 :: v25 :: v26 :: v27 :: v28 :: v29 :: v30 :: v31 :: v32 :: v33 :: v34 :: v35 :: v36 :: v37 :: v38 :: [])), (ah_, .inl (gB g, 4096, .inl fh))] := hD
          refine W.eq (g2 := F0 m 27 ls [.int (f (a + i) &&& 255)]) rfl ?_
          refine lv_aload_n hx hb dX9_says_27 rfl (lv_at hl 3 rfl) ?_
          refine lv_iload hx hb dX9_says_28 (lv_at hl 4 rfl) ?_
          refine lv_iload_n hx hb dX9_says_30 rfl (lv_at hl 1 rfl) ?_
          refine q_isub (v := nI i) hx hb dX9_says_31 (by rw [pk_sub (by omega)]; congr 1; omega) ?_
          refine ct_callV (wr := [(mm, .inr (7, v0 :: v1 :: v2 :: v3 :: v4 :: v5 :: v6 :: v7 :: v8 :: v9 :: v10 :: v11 :: v12 :: v13 :: v14 :: v15 :: v16 :: .ref ah_ :: v18 :: v19 :: v20 :: v21 :: v22 :: v23 :: v24 :: v25 :: v26 :: v27 :: v28 :: v29 :: v30 :: v31 :: v32 :: v33 :: v34 :: v35 :: v36 :: v37 :: v38 :: [])), (ah_, .inl (gB g, 4096, .inl fh))]) hx hb hml hown hts hK hP hD hS hA hG hl.1 (c_charAt l g k i (by first | assumption | decide) (by omega)) (cwV 1 hts gX9_says_J0_charAt_5068e rfl rfl rfl (by decide +kernel) ⟨Nat.le_of_ble_eq_true rfl, Nat.le_of_ble_eq_true rfl⟩) (st_recv hG (k := k) (by assumption) hS) rfl rfl (Nat.le_of_ble_eq_true rfl) dX9_says_32 ⟨show 0 + 0 ≤ 0 by omega, show 0 + 0 ≤ 0 by omega⟩ [] [0, 1] rfl rfl (by decide) (by decide) (by decide) (fun r_ w_ H locs hp_ hP hD hS => ?_)
          obtain ⟨rfl, rfl⟩ := hp_
          have hP : va_P (gD g) vwCl [(mm, .inr (7, v0 :: v1 :: v2 :: v3 :: v4 :: v5 :: v6 :: v7 :: v8 :: v9 :: v10 :: v11 :: v12 :: v13 :: v14 :: v15 :: v16 :: .ref ah_ :: v18 :: v19 :: v20 :: v21 :: v22 :: v23 :: v24 :: v25 :: v26 :: v27 :: v28 :: v29 :: v30 :: v31 :: v32 :: v33 :: v34 :: v35 :: v36 :: v37 :: v38 :: [])), (ah_, .inl (gB g, 4096, .inl fh))] H := hP
          have hD : va_D A [(mm, .inr (7, v0 :: v1 :: v2 :: v3 :: v4 :: v5 :: v6 :: v7 :: v8 :: v9 :: v10 :: v11 :: v12 :: v13 :: v14 :: v15 :: v16 :: .ref ah_ :: v18 :: v19 :: v20 :: v21 :: v22 :: v23 :: v24 :: v25 :: v26 :: v27 :: v28 :: v29 :: v30 :: v31 :: v32 :: v33 :: v34 :: v35 :: v36 :: v37 :: v38 :: [])), (ah_, .inl (gB g, 4096, .inl fh))] := hD
          refine W.eq (g2 := F0 m 35 ls [.int (sbyt k i &&& 255), .int (f (a + i) &&& 255)]) rfl ?_
          refine lv_icmp_eq (tgt := 40) hx hb dX9_says_35 (by decide) (fun c35 => ?_) (fun c35 => ?_)
          · skip
            refine lv_iinc (v := nI (a + i + 1)) (lv' := [(4, .int (nI (a + i + 1))), (0, .ref mm), (1, .int (nI a)), (2, .int (nI b)), (3, .ref (gK g k))]) hx hb dX9_says_40 hl (k := 4) rfl (nI_inc (a + i) 1) (by decide) rfl (fun ls hl => ?_)
            refine lv_goto (tgt := 15) hx hb dX9_says_43 (by decide) ?_
            exact ih_K15 (i + 1) (by omega) (by exact lt_s hall c35) (by omega) _ _ _ (hP.sub [0, 1] rfl) (hD.sub [0, 1] (by decide) rfl) hS (lv_sub hl [1, 2, 3, 4, 0] rfl)
          · skip
            refine lv_iconst (v := nI 0) hx hb dX9_says_38 (by decide) ?_
            refine ct_iret (w := [(mm, .inr (7, v0 :: v1 :: v2 :: v3 :: v4 :: v5 :: v6 :: v7 :: v8 :: v9 :: v10 :: v11 :: v12 :: v13 :: v14 :: v15 :: v16 :: .ref ah_ :: v18 :: v19 :: v20 :: v21 :: v22 :: v23 :: v24 :: v25 :: v26 :: v27 :: v28 :: v29 :: v30 :: v31 :: v32 :: v33 :: v34 :: v35 :: v36 :: v37 :: v38 :: [])), (ah_, .inl (gB g, 4096, .inl fh))]) hx hb hr rfl hlocks hQ hAe hK (hP.sub [0, 1] rfl) (hD.sub [0, 1] (by decide) rfl) hS (by omega) (by omega) dX9_says_39 ?_
            refine Or.inr ((?_))
            exact ⟨rfl, rfl, by first | (rw [← pText_e he]; exact ⟨by omega, fun j hj => hall j (by omega)⟩) | (rw [← pText_e he]; first | exact fun z => absurd z.1 (by omega) | exact fun z => c35 (z.2 _ (by omega)))⟩
    exact K15 ((slen k - 0) + 1) 0 (by omega) (by intro j h1; omega) (Nat.lt_succ_self _) _ _ _ (hP.sub [0, 1] rfl) (hD.sub [0, 1] (by decide) rfl) hS (lv_sub hl [1, 2, 3, 4, 0] rfl)
  · skip
    have c7 : ¬ (b - a = slen k) := fun z => c7 ((nI_eq (a := b - a) (b := slen k) (by omega) (by omega)).mpr z)
    refine lv_iconst (v := nI 0) hx hb dX9_says_10 (by decide) ?_
    refine ct_iret (w := [(mm, .inr (7, v0 :: v1 :: v2 :: v3 :: v4 :: v5 :: v6 :: v7 :: v8 :: v9 :: v10 :: v11 :: v12 :: v13 :: v14 :: v15 :: v16 :: .ref ah_ :: v18 :: v19 :: v20 :: v21 :: v22 :: v23 :: v24 :: v25 :: v26 :: v27 :: v28 :: v29 :: v30 :: v31 :: v32 :: v33 :: v34 :: v35 :: v36 :: v37 :: v38 :: [])), (ah_, .inl (gB g, 4096, .inl fh))]) hx hb hr rfl hlocks hQ hAe hK (hP.sub [0, 1] rfl) (hD.sub [0, 1] (by decide) rfl) hS (by omega) (by omega) dX9_says_11 ?_
    refine Or.inr ((?_))
    exact ⟨rfl, rfl, by first | (rw [← pText_e he]; exact ⟨by omega, fun j hj => hall j (by omega)⟩) | (rw [← pText_e he]; first | exact fun z => absurd z.1 (by omega) | exact fun z => c35 (z.2 _ (by omega)))⟩

set_option maxHeartbeats 4000000 in
set_option maxRecDepth 100000 in
theorem c_saysSm (l : Launch) (g : GT) (mm : Nat) (v0 : Value) (v1 : Value) (v2 : Value) (v3 : Value) (v4 : Value) (v5 : Value) (v6 : Value) (v7 : Value) (v8 : Value) (v9 : Value) (v10 : Value) (v11 : Value) (v12 : Value) (v13 : Value) (v14 : Value) (v15 : Value) (v16 : Value) (ah_ : Nat) (v18 : Value) (v19 : Value) (v20 : Value) (v21 : Value) (v22 : Value) (v23 : Value) (v24 : Value) (v25 : Value) (v26 : Value) (v27 : Value) (v28 : Value) (v29 : Value) (v30 : Value) (v31 : Value) (v32 : Value) (v33 : Value) (v34 : Value) (v35 : Value) (v36 : Value) (v37 : Value) (v38 : Value) (fh : Nat → Int32) (f : Nat → Int32) (hn : Nat) (a : Nat) (b : Nat) (k : Nat) (kc : Nat) (hhn : hn ≤ 4096) (hM : ∀ j, j < hn → fh j = f j) (hb2 : b ≤ hn) (ha2 : a ≤ b) (hk : k < 84) (he : sL k = sL kc) : CT l g yX9_saysSmall wsX9_saysSmall ({ frames := 4, cells := 0, slots := 0, locals := 85 } : Room) [.ref mm, .int (nI a), .int (nI b), .ref (gK g k)] [(mm, .inr (7, v0 :: v1 :: v2 :: v3 :: v4 :: v5 :: v6 :: v7 :: v8 :: v9 :: v10 :: v11 :: v12 :: v13 :: v14 :: v15 :: v16 :: .ref ah_ :: v18 :: v19 :: v20 :: v21 :: v22 :: v23 :: v24 :: v25 :: v26 :: v27 :: v28 :: v29 :: v30 :: v31 :: v32 :: v33 :: v34 :: v35 :: v36 :: v37 :: v38 :: [])), (ah_, .inl (gB g, 4096, .inl fh))] (fun r w => (r = some (.int (nI 1)) ∧ w = [(mm, .inr (7, v0 :: v1 :: v2 :: v3 :: v4 :: v5 :: v6 :: v7 :: v8 :: v9 :: v10 :: v11 :: v12 :: v13 :: v14 :: v15 :: v16 :: .ref ah_ :: v18 :: v19 :: v20 :: v21 :: v22 :: v23 :: v24 :: v25 :: v26 :: v27 :: v28 :: v29 :: v30 :: v31 :: v32 :: v33 :: v34 :: v35 :: v36 :: v37 :: v38 :: [])), (ah_, .inl (gB g, 4096, .inl fh))] ∧ (pWord f a b kc)) ∨ (r = some (.int (nI 0)) ∧ w = [(mm, .inr (7, v0 :: v1 :: v2 :: v3 :: v4 :: v5 :: v6 :: v7 :: v8 :: v9 :: v10 :: v11 :: v12 :: v13 :: v14 :: v15 :: v16 :: .ref ah_ :: v18 :: v19 :: v20 :: v21 :: v22 :: v23 :: v24 :: v25 :: v26 :: v27 :: v28 :: v29 :: v30 :: v31 :: v32 :: v33 :: v34 :: v35 :: v36 :: v37 :: v38 :: [])), (ah_, .inl (gB g, 4096, .inl fh))] ∧ (¬ (pWord f a b kc)))) (0) (0) := by
  refine ct_of (cc := cX9_saysSmall) (maxL := 5) (ret := (some .boolean)) (by decide) rfl (Nat.le_of_ble_eq_true rfl) ?_
  intro p e s m args below meth c A Q hx hb hr hml hown hts hlocks hnam hAe hQ hA hG hK hP hD hS ls hl
  have hl : lv_has ls 5 [(0, .ref mm), (1, .int (nI a)), (2, .int (nI b)), (3, .ref (gK g k))] := hl
  have hown : s.vm.findClass RX9 = some m.cls := hown
  have hsl := slen_le k hk
  refine lv_iload_n hx hb dX9_saysSmall_0 rfl (lv_at hl 2 rfl) ?_
  refine lv_iload_n hx hb dX9_saysSmall_1 rfl (lv_at hl 1 rfl) ?_
  refine q_isub (v := nI (b - a)) hx hb dX9_saysSmall_2 (pk_sub (a := b) (b := a) (by omega)) ?_
  refine lv_aload_n hx hb dX9_saysSmall_3 rfl (lv_at hl 3 rfl) ?_
  refine ct_callV (wr := [(mm, .inr (7, v0 :: v1 :: v2 :: v3 :: v4 :: v5 :: v6 :: v7 :: v8 :: v9 :: v10 :: v11 :: v12 :: v13 :: v14 :: v15 :: v16 :: .ref ah_ :: v18 :: v19 :: v20 :: v21 :: v22 :: v23 :: v24 :: v25 :: v26 :: v27 :: v28 :: v29 :: v30 :: v31 :: v32 :: v33 :: v34 :: v35 :: v36 :: v37 :: v38 :: [])), (ah_, .inl (gB g, 4096, .inl fh))]) hx hb hml hown hts hK hP hD hS hA hG hl.1 (c_slen l g k (by first | assumption | decide)) (cwV 0 hts gX9_saysSmall_J0_length_8abf5 rfl rfl rfl (by decide +kernel) ⟨Nat.le_of_ble_eq_true rfl, Nat.le_of_ble_eq_true rfl⟩) (st_recv hG (k := k) (by assumption) hS) rfl rfl (Nat.le_of_ble_eq_true rfl) dX9_saysSmall_4 ⟨show 0 + 0 ≤ 0 by omega, show 0 + 0 ≤ 0 by omega⟩ [] [0, 1] rfl rfl (by decide) (by decide) (by decide) (fun r_ w_ H locs hp_ hP hD hS => ?_)
  obtain ⟨rfl, rfl⟩ := hp_
  have hP : va_P (gD g) vwCl [(mm, .inr (7, v0 :: v1 :: v2 :: v3 :: v4 :: v5 :: v6 :: v7 :: v8 :: v9 :: v10 :: v11 :: v12 :: v13 :: v14 :: v15 :: v16 :: .ref ah_ :: v18 :: v19 :: v20 :: v21 :: v22 :: v23 :: v24 :: v25 :: v26 :: v27 :: v28 :: v29 :: v30 :: v31 :: v32 :: v33 :: v34 :: v35 :: v36 :: v37 :: v38 :: [])), (ah_, .inl (gB g, 4096, .inl fh))] H := hP
  have hD : va_D A [(mm, .inr (7, v0 :: v1 :: v2 :: v3 :: v4 :: v5 :: v6 :: v7 :: v8 :: v9 :: v10 :: v11 :: v12 :: v13 :: v14 :: v15 :: v16 :: .ref ah_ :: v18 :: v19 :: v20 :: v21 :: v22 :: v23 :: v24 :: v25 :: v26 :: v27 :: v28 :: v29 :: v30 :: v31 :: v32 :: v33 :: v34 :: v35 :: v36 :: v37 :: v38 :: [])), (ah_, .inl (gB g, 4096, .inl fh))] := hD
  refine W.eq (g2 := F0 m 7 ls [.int (nI (slen k)), .int (nI (b - a))]) rfl ?_
  refine lv_icmp_eq (tgt := 12) hx hb dX9_saysSmall_7 (by decide) (fun c7 => ?_) (fun c7 => ?_)
  · skip
    have c7 : b - a = slen k := (nI_eq (a := b - a) (b := slen k) (by omega) (by omega)).mp c7
    refine lv_iload_n hx hb dX9_saysSmall_12 rfl (lv_at hl 1 rfl) ?_
    refine lv_istore (lv' := [(4, .int (nI a)), (0, .ref mm), (1, .int (nI a)), (2, .int (nI b)), (3, .ref (gK g k))]) hx hb dX9_saysSmall_13 hl (by decide) rfl (fun ls hl => ?_)
    have K15 : ∀ (N_ : Nat) (i : Nat), (i ≤ slen k) → (∀ j, j < i → lowI (f (a + j) &&& 255) = sbyt k j &&& 255) → (slen k - i) < N_ → ∀ (H : Heap) (locs : List Loc) (ls : Array Slot), va_P (gD g) vwCl [(mm, .inr (7, v0 :: v1 :: v2 :: v3 :: v4 :: v5 :: v6 :: v7 :: v8 :: v9 :: v10 :: v11 :: v12 :: v13 :: v14 :: v15 :: v16 :: .ref ah_ :: v18 :: v19 :: v20 :: v21 :: v22 :: v23 :: v24 :: v25 :: v26 :: v27 :: v28 :: v29 :: v30 :: v31 :: v32 :: v33 :: v34 :: v35 :: v36 :: v37 :: v38 :: [])), (ah_, .inl (gB g, 4096, .inl fh))] H → va_D A [(mm, .inr (7, v0 :: v1 :: v2 :: v3 :: v4 :: v5 :: v6 :: v7 :: v8 :: v9 :: v10 :: v11 :: v12 :: v13 :: v14 :: v15 :: v16 :: .ref ah_ :: v18 :: v19 :: v20 :: v21 :: v22 :: v23 :: v24 :: v25 :: v26 :: v27 :: v28 :: v29 :: v30 :: v31 :: v32 :: v33 :: v34 :: v35 :: v36 :: v37 :: v38 :: [])), (ah_, .inl (gB g, 4096, .inl fh))] → va_S A s.heap H locs → lv_has ls 5 [(0, .ref mm), (1, .int (nI a)), (2, .int (nI b)), (3, .ref (gK g k)), (4, .int (nI (a + i)))] → W p l e ({ frames := 4, cells := 0, slots := 0, locals := 85 } : Room) s m args below meth c H locs (0) (0) Q (F0 m 15 ls []) := by
      intro N_
      induction N_ with
      | zero => intro i hi hall hm_; exact absurd hm_ (Nat.not_lt_zero _)
      | succ N_ ih_K15 =>
        intro i hi hall hm_ H locs ls hP hD hS hl
        refine lv_iload hx hb dX9_saysSmall_15 (lv_at hl 4 rfl) ?_
        refine lv_iload_n hx hb dX9_saysSmall_17 rfl (lv_at hl 2 rfl) ?_
        refine lv_icmp_ge (tgt := 49) hx hb dX9_saysSmall_18 (by decide) (fun c18 => ?_) (fun c18 => ?_)
        · skip
          have c18 : b ≤ a + i := (nI_leI (a := b) (b := a + i) (by omega) (by omega)).mp c18
          refine lv_iconst (v := nI 1) hx hb dX9_saysSmall_49 (by decide) ?_
          refine ct_iret (w := [(mm, .inr (7, v0 :: v1 :: v2 :: v3 :: v4 :: v5 :: v6 :: v7 :: v8 :: v9 :: v10 :: v11 :: v12 :: v13 :: v14 :: v15 :: v16 :: .ref ah_ :: v18 :: v19 :: v20 :: v21 :: v22 :: v23 :: v24 :: v25 :: v26 :: v27 :: v28 :: v29 :: v30 :: v31 :: v32 :: v33 :: v34 :: v35 :: v36 :: v37 :: v38 :: [])), (ah_, .inl (gB g, 4096, .inl fh))]) hx hb hr rfl hlocks hQ hAe hK (hP.sub [0, 1] rfl) (hD.sub [0, 1] (by decide) rfl) hS (by omega) (by omega) dX9_saysSmall_50 ?_
          refine Or.inl (?_)
          exact ⟨rfl, rfl, by first | (rw [← pWord_e he]; exact ⟨by omega, fun j hj => hall j (by omega)⟩) | (rw [← pWord_e he]; first | exact fun z => absurd z.1 (by omega) | exact fun z => c38 (ev_27.trans (z.2 _ (by omega))))⟩
        · skip
          have c18 : ¬ (b ≤ a + i) := fun z => c18 ((nI_leI (a := b) (b := a + i) (by omega) (by omega)).mpr z)
          refine lv_aload_n hx hb dX9_saysSmall_21 rfl (lv_at hl 0 rfl) ?_
          refine lv_iload hx hb dX9_saysSmall_22 (lv_at hl 4 rfl) ?_
          refine ct_callV (wr := []) hx hb hml hown hts hK hP hD hS hA hG hl.1 (c_headAt l g mm ((v0 : Value)) ((v1 : Value)) ((v2 : Value)) ((v3 : Value)) ((v4 : Value)) ((v5 : Value)) ((v6 : Value)) ((v7 : Value)) ((v8 : Value)) ((v9 : Value)) ((v10 : Value)) ((v11 : Value)) ((v12 : Value)) ((v13 : Value)) ((v14 : Value)) ((v15 : Value)) ((v16 : Value)) ah_ ((v18 : Value)) ((v19 : Value)) ((v20 : Value)) ((v21 : Value)) ((v22 : Value)) ((v23 : Value)) ((v24 : Value)) ((v25 : Value)) ((v26 : Value)) ((v27 : Value)) ((v28 : Value)) ((v29 : Value)) ((v30 : Value)) ((v31 : Value)) ((v32 : Value)) ((v33 : Value)) ((v34 : Value)) ((v35 : Value)) ((v36 : Value)) ((v37 : Value)) ((v38 : Value)) fh f hn (a + i) (by omega) (by assumption) (by omega)) (cwV 1 hts gX9_saysSmall_X9_headAt rfl rfl rfl (by decide +kernel) ⟨Nat.le_of_ble_eq_true rfl, Nat.le_of_ble_eq_true rfl⟩) (va_recv hK hP (ci := 7) (q0 := 0) rfl rfl) rfl rfl (Nat.le_of_ble_eq_true rfl) dX9_saysSmall_24 ⟨show 0 + 0 ≤ 0 by omega, show 0 + 0 ≤ 0 by omega⟩ [0, 1] [] rfl rfl (by decide) (by decide) (by decide) (fun r_ w_ H locs hp_ hP hD hS => ?_)
          obtain ⟨rfl, rfl⟩ := hp_
          have hP : va_P (gD g) vwCl [(mm, .inr (7, v0 :: v1 :: v2 :: v3 :: v4 :: v5 :: v6 :: v7 :: v8 :: v9 :: v10 :: v11 :: v12 :: v13 :: v14 :: v15 :: v16 :: .ref ah_ :: v18 :: v19 :: v20 :: v21 :: v22 :: v23 :: v24 :: v25 :: v26 :: v27 :: v28 :: v29 :: v30 :: v31 :: v32 :: v33 :: v34 :: v35 :: v36 :: v37 :: v38 :: [])), (ah_, .inl (gB g, 4096, .inl fh))] H := hP
          have hD : va_D A [(mm, .inr (7, v0 :: v1 :: v2 :: v3 :: v4 :: v5 :: v6 :: v7 :: v8 :: v9 :: v10 :: v11 :: v12 :: v13 :: v14 :: v15 :: v16 :: .ref ah_ :: v18 :: v19 :: v20 :: v21 :: v22 :: v23 :: v24 :: v25 :: v26 :: v27 :: v28 :: v29 :: v30 :: v31 :: v32 :: v33 :: v34 :: v35 :: v36 :: v37 :: v38 :: [])), (ah_, .inl (gB g, 4096, .inl fh))] := hD
          refine W.eq (g2 := F0 m 27 ls [.int (f (a + i) &&& 255)]) rfl ?_
          refine ct_callS (wr := [(mm, .inr (7, v0 :: v1 :: v2 :: v3 :: v4 :: v5 :: v6 :: v7 :: v8 :: v9 :: v10 :: v11 :: v12 :: v13 :: v14 :: v15 :: v16 :: .ref ah_ :: v18 :: v19 :: v20 :: v21 :: v22 :: v23 :: v24 :: v25 :: v26 :: v27 :: v28 :: v29 :: v30 :: v31 :: v32 :: v33 :: v34 :: v35 :: v36 :: v37 :: v38 :: [])), (ah_, .inl (gB g, 4096, .inl fh))]) hx hb hml hown hts hK hP hD hS hA hG hl.1 (c_mSmall l g (f (a + i) &&& 255) ) (va_cwS 1 hts gX9_saysSmall_X9_small rfl rfl rfl (by decide +kernel) ⟨Nat.le_of_ble_eq_true rfl, Nat.le_of_ble_eq_true rfl⟩) rfl rfl (Nat.le_of_ble_eq_true rfl) dX9_saysSmall_27 ⟨show 0 + 0 ≤ 0 by omega, show 0 + 0 ≤ 0 by omega⟩ [] [0, 1] rfl rfl (by decide) (by decide) (by decide) (fun r_ w_ H locs hp_ hP hD hS => ?_)
          obtain ⟨v1_27, rfl, rfl, ev_27⟩ := hp_
          have hP : va_P (gD g) vwCl [(mm, .inr (7, v0 :: v1 :: v2 :: v3 :: v4 :: v5 :: v6 :: v7 :: v8 :: v9 :: v10 :: v11 :: v12 :: v13 :: v14 :: v15 :: v16 :: .ref ah_ :: v18 :: v19 :: v20 :: v21 :: v22 :: v23 :: v24 :: v25 :: v26 :: v27 :: v28 :: v29 :: v30 :: v31 :: v32 :: v33 :: v34 :: v35 :: v36 :: v37 :: v38 :: [])), (ah_, .inl (gB g, 4096, .inl fh))] H := hP
          have hD : va_D A [(mm, .inr (7, v0 :: v1 :: v2 :: v3 :: v4 :: v5 :: v6 :: v7 :: v8 :: v9 :: v10 :: v11 :: v12 :: v13 :: v14 :: v15 :: v16 :: .ref ah_ :: v18 :: v19 :: v20 :: v21 :: v22 :: v23 :: v24 :: v25 :: v26 :: v27 :: v28 :: v29 :: v30 :: v31 :: v32 :: v33 :: v34 :: v35 :: v36 :: v37 :: v38 :: [])), (ah_, .inl (gB g, 4096, .inl fh))] := hD
          have ev_27 : v1_27 = lowI (f (a + i) &&& 255) := ev_27
          refine W.eq (g2 := F0 m 30 ls [.int v1_27]) rfl ?_
          refine lv_aload_n hx hb dX9_saysSmall_30 rfl (lv_at hl 3 rfl) ?_
          refine lv_iload hx hb dX9_saysSmall_31 (lv_at hl 4 rfl) ?_
          refine lv_iload_n hx hb dX9_saysSmall_33 rfl (lv_at hl 1 rfl) ?_
          refine q_isub (v := nI i) hx hb dX9_saysSmall_34 (by rw [pk_sub (by omega)]; congr 1; omega) ?_
          refine ct_callV (wr := [(mm, .inr (7, v0 :: v1 :: v2 :: v3 :: v4 :: v5 :: v6 :: v7 :: v8 :: v9 :: v10 :: v11 :: v12 :: v13 :: v14 :: v15 :: v16 :: .ref ah_ :: v18 :: v19 :: v20 :: v21 :: v22 :: v23 :: v24 :: v25 :: v26 :: v27 :: v28 :: v29 :: v30 :: v31 :: v32 :: v33 :: v34 :: v35 :: v36 :: v37 :: v38 :: [])), (ah_, .inl (gB g, 4096, .inl fh))]) hx hb hml hown hts hK hP hD hS hA hG hl.1 (c_charAt l g k i (by first | assumption | decide) (by omega)) (cwV 1 hts gX9_saysSmall_J0_charAt_5068e rfl rfl rfl (by decide +kernel) ⟨Nat.le_of_ble_eq_true rfl, Nat.le_of_ble_eq_true rfl⟩) (st_recv hG (k := k) (by assumption) hS) rfl rfl (Nat.le_of_ble_eq_true rfl) dX9_saysSmall_35 ⟨show 0 + 0 ≤ 0 by omega, show 0 + 0 ≤ 0 by omega⟩ [] [0, 1] rfl rfl (by decide) (by decide) (by decide) (fun r_ w_ H locs hp_ hP hD hS => ?_)
          obtain ⟨rfl, rfl⟩ := hp_
          have hP : va_P (gD g) vwCl [(mm, .inr (7, v0 :: v1 :: v2 :: v3 :: v4 :: v5 :: v6 :: v7 :: v8 :: v9 :: v10 :: v11 :: v12 :: v13 :: v14 :: v15 :: v16 :: .ref ah_ :: v18 :: v19 :: v20 :: v21 :: v22 :: v23 :: v24 :: v25 :: v26 :: v27 :: v28 :: v29 :: v30 :: v31 :: v32 :: v33 :: v34 :: v35 :: v36 :: v37 :: v38 :: [])), (ah_, .inl (gB g, 4096, .inl fh))] H := hP
          have hD : va_D A [(mm, .inr (7, v0 :: v1 :: v2 :: v3 :: v4 :: v5 :: v6 :: v7 :: v8 :: v9 :: v10 :: v11 :: v12 :: v13 :: v14 :: v15 :: v16 :: .ref ah_ :: v18 :: v19 :: v20 :: v21 :: v22 :: v23 :: v24 :: v25 :: v26 :: v27 :: v28 :: v29 :: v30 :: v31 :: v32 :: v33 :: v34 :: v35 :: v36 :: v37 :: v38 :: [])), (ah_, .inl (gB g, 4096, .inl fh))] := hD
          refine W.eq (g2 := F0 m 38 ls [.int (sbyt k i &&& 255), .int v1_27]) rfl ?_
          refine lv_icmp_eq (tgt := 43) hx hb dX9_saysSmall_38 (by decide) (fun c38 => ?_) (fun c38 => ?_)
          · skip
            refine lv_iinc (v := nI (a + i + 1)) (lv' := [(4, .int (nI (a + i + 1))), (0, .ref mm), (1, .int (nI a)), (2, .int (nI b)), (3, .ref (gK g k))]) hx hb dX9_saysSmall_43 hl (k := 4) rfl (nI_inc (a + i) 1) (by decide) rfl (fun ls hl => ?_)
            refine lv_goto (tgt := 15) hx hb dX9_saysSmall_46 (by decide) ?_
            exact ih_K15 (i + 1) (by omega) (by exact lt_s hall (ev_27.symm.trans c38)) (by omega) _ _ _ (hP.sub [0, 1] rfl) (hD.sub [0, 1] (by decide) rfl) hS (lv_sub hl [1, 2, 3, 4, 0] rfl)
          · skip
            refine lv_iconst (v := nI 0) hx hb dX9_saysSmall_41 (by decide) ?_
            refine ct_iret (w := [(mm, .inr (7, v0 :: v1 :: v2 :: v3 :: v4 :: v5 :: v6 :: v7 :: v8 :: v9 :: v10 :: v11 :: v12 :: v13 :: v14 :: v15 :: v16 :: .ref ah_ :: v18 :: v19 :: v20 :: v21 :: v22 :: v23 :: v24 :: v25 :: v26 :: v27 :: v28 :: v29 :: v30 :: v31 :: v32 :: v33 :: v34 :: v35 :: v36 :: v37 :: v38 :: [])), (ah_, .inl (gB g, 4096, .inl fh))]) hx hb hr rfl hlocks hQ hAe hK (hP.sub [0, 1] rfl) (hD.sub [0, 1] (by decide) rfl) hS (by omega) (by omega) dX9_saysSmall_42 ?_
            refine Or.inr ((?_))
            exact ⟨rfl, rfl, by first | (rw [← pWord_e he]; exact ⟨by omega, fun j hj => hall j (by omega)⟩) | (rw [← pWord_e he]; first | exact fun z => absurd z.1 (by omega) | exact fun z => c38 (ev_27.trans (z.2 _ (by omega))))⟩
    exact K15 ((slen k - 0) + 1) 0 (by omega) (by intro j h1; omega) (Nat.lt_succ_self _) _ _ _ (hP.sub [0, 1] rfl) (hD.sub [0, 1] (by decide) rfl) hS (lv_sub hl [1, 2, 3, 4, 0] rfl)
  · skip
    have c7 : ¬ (b - a = slen k) := fun z => c7 ((nI_eq (a := b - a) (b := slen k) (by omega) (by omega)).mpr z)
    refine lv_iconst (v := nI 0) hx hb dX9_saysSmall_10 (by decide) ?_
    refine ct_iret (w := [(mm, .inr (7, v0 :: v1 :: v2 :: v3 :: v4 :: v5 :: v6 :: v7 :: v8 :: v9 :: v10 :: v11 :: v12 :: v13 :: v14 :: v15 :: v16 :: .ref ah_ :: v18 :: v19 :: v20 :: v21 :: v22 :: v23 :: v24 :: v25 :: v26 :: v27 :: v28 :: v29 :: v30 :: v31 :: v32 :: v33 :: v34 :: v35 :: v36 :: v37 :: v38 :: [])), (ah_, .inl (gB g, 4096, .inl fh))]) hx hb hr rfl hlocks hQ hAe hK (hP.sub [0, 1] rfl) (hD.sub [0, 1] (by decide) rfl) hS (by omega) (by omega) dX9_saysSmall_11 ?_
    refine Or.inr ((?_))
    exact ⟨rfl, rfl, by first | (rw [← pWord_e he]; exact ⟨by omega, fun j hj => hall j (by omega)⟩) | (rw [← pWord_e he]; first | exact fun z => absurd z.1 (by omega) | exact fun z => c38 (ev_27.trans (z.2 _ (by omega))))⟩
