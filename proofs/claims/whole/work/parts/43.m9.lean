theorem vis_fit {x : Int32} (h : pVis x) : fits .byte (.int x) = true := by
  rw [← vis_b h]; exact pk_fb _
theorem vis_eq {x : Int32} (h : pVis x) {n : Nat} (hn : n < 128) : x = nI n ↔ x &&& 255 = nI n := raw_eq (vis_fit h) hn
theorem sL0_vis : ∀ j, j < 10 → pVis ((sL 0).getD j 0) := by decide
theorem vis_snoc {L : List Int32} {c : Int32} (h : ∀ j, j < L.length → pVis (L.getD j 0)) (hc : pVis c) : ∀ j, j < (L ++ [c]).length → pVis ((L ++ [c]).getD j 0) := by
  intro j hj
  rw [List.length_append] at hj
  rcases Nat.lt_or_ge j L.length with z | z
  · have e : (L ++ [c]).getD j 0 = L.getD j 0 := by simp [List.getD, List.getElem?_append_left z]
    rw [e]; exact h j z
  · have e : j = L.length := by simp at hj; omega
    subst e
    simpa [List.getD] using hc
theorem vis_app {L K : List Int32} (h : ∀ j, j < L.length → pVis (L.getD j 0)) (hc : ∀ j, j < K.length → pVis (K.getD j 0)) : ∀ j, j < (L ++ K).length → pVis ((L ++ K).getD j 0) := by
  intro j hj
  rw [List.length_append] at hj
  rcases Nat.lt_or_ge j L.length with z | z
  · have e : (L ++ K).getD j 0 = L.getD j 0 := by simp [List.getD, List.getElem?_append_left z]
    rw [e]; exact h j z
  · have e : (L ++ K).getD j 0 = K.getD (j - L.length) 0 := by simp [List.getD, List.getElem?_append_right z]
    rw [e]; exact hc _ (by omega)
theorem hex63 {x : Int32} (h : x &&& 255 = nI 63) : hexM (x &&& 255) < 0 := by rw [h]; decide
theorem hexM_lo {x : Int32} (h : ¬ hexM (x &&& 255) < 0) : ¬ hexV (x &&& 255) < 0 := by rw [← hexMC']; exact h
theorem esc_M {f : Nat → Int32} {i e : Nat} (h : i + 2 < e) (h1 : ¬ hexM (f (i + 1) &&& 255) < 0) (h2 : ¬ hexM (f (i + 2) &&& 255) < 0) : escF f i e = nI 16 * hexM (f (i + 1) &&& 255) + hexM (f (i + 2) &&& 255) := by
  rw [hexMC'] at h1 h2
  rw [escF_3 h h1 h2, hexMC', hexMC', Int32.mul_comm]
theorem esc_N {f : Nat → Int32} {i e : Nat} (h : i + 2 < e → hexM (f (i + 1) &&& 255) < 0 ∨ hexM (f (i + 2) &&& 255) < 0) : ¬ pVis (escF f i e) := by
  by_cases z : i + 2 < e
  · have h3 := h z
    rw [hexMC', hexMC'] at h3
    rw [escF_2 z h3]
    decide
  · rw [escF_1 z]
    decide
theorem esc_len {f : Nat → Int32} {i e b a : Nat} (hF : pFind f (nI 63) a b e) (hi : i < e) (heb : e ≤ b) (h1 : i + 1 < b → ¬ hexM (f (i + 1) &&& 255) < 0) (hb1 : i + 1 < b) (h2 : ¬ hexM (f (i + 2) &&& 255) < 0) (hb2 : i + 2 < b) : i + 2 < e := by
  rcases Nat.lt_or_ge (i + 2) e with z | z
  · exact z
  · rcases hF.2 with w | w
    · omega
    · rcases (show e = i + 1 ∨ e = i + 2 by omega) with q | q
      · exact absurd (hex63 (by rw [← q]; exact w.2.2)) (h1 hb1)
      · exact absurd (hex63 (by rw [← q]; exact w.2.2)) h2
theorem targ_e {f : Nat → Int32} {a b e : Nat} (hF : pFind f (nI 63) a b e) (ht : pTarg f a b) : a < e ∧ e ≤ b := by
  rcases hF.2 with w | w
  · rw [w]; exact ⟨ht.1, Nat.le_refl _⟩
  · refine ⟨?_, by omega⟩
    rcases Nat.lt_or_ge a e with z | z
    · exact z
    · have e1 : e = a := by omega
      have h1 := w.2.2
      rw [e1, ht.2.1] at h1
      exact absurd h1 (by decide)
theorem hasL_pad {f f' : Nat → Int32} {l : List Int32} {k i : Nat} (h : hasL f 0 l) (hk : ∀ j, j < l.length → f' j = f j) (hc : ∀ j, j < slen k → f' (l.length + j) = sbyt k j) : hasL f' 0 (l ++ sL k) := hasL_app h hk (fun j hj => hc j hj)
theorem finL_len {L N : List Int32} (h : finL L N) : N.length ≤ L.length + 10 := by
  rcases h with h | h
  · rw [h.2]; omega
  · rw [h.2, List.length_append]; exact Nat.le_refl _

set_option maxHeartbeats 4000000 in
set_option maxRecDepth 100000 in
theorem c_unfold (l : Launch) (g : GT) (mm : Nat) (v0 : Value) (v1 : Value) (v2 : Value) (v3 : Value) (v4 : Value) (v5 : Value) (v6 : Value) (v7 : Value) (v8 : Value) (v9 : Value) (v10 : Value) (v11 : Value) (v12 : Value) (v13 : Value) (v14 : Value) (v15 : Value) (v16 : Value) (ah_ : Nat) (v18 : Value) (v19 : Value) (v20 : Value) (v21 : Value) (v22 : Value) (v23 : Value) (v24 : Value) (v25 : Value) (v26 : Value) (v27 : Value) (v28 : Value) (v29 : Value) (v30 : Value) (v31 : Value) (m_targetAt : Nat) (m_targetEnd : Nat) (an_ : Nat) (m_pathLength : Nat) (v36 : Value) (v37 : Value) (v38 : Value) (fh : Nat → Int32) (f : Nat → Int32) (fn : Nat → Int32) (hn : Nat) (e1 : Nat) (hhn : hn ≤ 4096) (hM : ∀ j, j < hn → fh j = f j) (hfit : sb_Fit f) (htg : pTarg f m_targetAt m_targetEnd) (hte : m_targetEnd ≤ hn) (hF : pFind f (nI 63) m_targetAt m_targetEnd e1) : CT l g yX9_unfolded wsX9_unfolded ({ frames := 4, cells := 0, slots := 0, locals := 85 } : Room) [.ref mm] [(mm, .inr (7, v0 :: v1 :: v2 :: v3 :: v4 :: v5 :: v6 :: v7 :: v8 :: v9 :: v10 :: v11 :: v12 :: v13 :: v14 :: v15 :: v16 :: .ref ah_ :: v18 :: v19 :: v20 :: v21 :: v22 :: v23 :: v24 :: v25 :: v26 :: v27 :: v28 :: v29 :: v30 :: v31 :: .int (nI m_targetAt) :: .int (nI m_targetEnd) :: .ref an_ :: .int (nI m_pathLength) :: v36 :: v37 :: v38 :: [])), (ah_, .inl (gB g, 4096, .inl fh)), (an_, .inl (gB g, 8192, .inl fn))] (fun r w => (∃ (f1 : Nat → Int32) (s1 : Nat), r = some (.int (nI 0)) ∧ w = [(mm, .inr (7, v0 :: v1 :: v2 :: v3 :: v4 :: v5 :: v6 :: v7 :: v8 :: v9 :: v10 :: v11 :: v12 :: v13 :: v14 :: v15 :: v16 :: .ref ah_ :: v18 :: v19 :: v20 :: v21 :: v22 :: v23 :: v24 :: v25 :: v26 :: v27 :: v28 :: v29 :: v30 :: v31 :: .int (nI m_targetAt) :: .int (nI m_targetEnd) :: .ref an_ :: .int (nI s1) :: v36 :: v37 :: v38 :: [])), (ah_, .inl (gB g, 4096, .inl fh)), (an_, .inl (gB g, 8192, .inl f1))] ∧ (pthL f e1 (e1 + 1) m_targetAt = none)) ∨ (∃ (f1 : Nat → Int32) (s1 : Nat) (L : List Int32) (Nl : List Int32), r = some (.int (nI 1)) ∧ w = [(mm, .inr (7, v0 :: v1 :: v2 :: v3 :: v4 :: v5 :: v6 :: v7 :: v8 :: v9 :: v10 :: v11 :: v12 :: v13 :: v14 :: v15 :: v16 :: .ref ah_ :: v18 :: v19 :: v20 :: v21 :: v22 :: v23 :: v24 :: v25 :: v26 :: v27 :: v28 :: v29 :: v30 :: v31 :: .int (nI m_targetAt) :: .int (nI m_targetEnd) :: .ref an_ :: .int (nI s1) :: v36 :: v37 :: v38 :: [])), (ah_, .inl (gB g, 4096, .inl fh)), (an_, .inl (gB g, 8192, .inl f1))] ∧ (s1 = Nl.length) ∧ (pthL f e1 (e1 + 1) m_targetAt = some L) ∧ (finL L Nl) ∧ (hasL f1 0 Nl) ∧ (∀ j, j < Nl.length → pVis (Nl.getD j 0)) ∧ (Nl.length ≤ 4200))) (0) (0) := by
  refine ct_of (cc := cX9_unfolded) (maxL := 5) (ret := (some .boolean)) (by decide) rfl (Nat.le_of_ble_eq_true rfl) ?_
  intro p e s m args below meth c A Q hx hb hr hml hown hts hlocks hnam hAe hQ hA hG hK hP hD hS ls hl
  have hl : lv_has ls 5 [(0, .ref mm)] := hl
  have hown : s.vm.findClass RX9 = some m.cls := hown
  have hinX9 : ∀ w ∈ u_ws RX9 TX9 39, w ∈ wsX9_unfolded := by decide +kernel
  have hf40 := hts (.fieldLink RX9 40 "RequestReaderModel" "head" "[B") (by decide +kernel)
  have hf43 := hts (.fieldLink RX9 43 "RequestReaderModel" "path" "[B") (by decide +kernel)
  have hf188 := hts (.fieldLink RX9 188 "RequestReaderModel" "targetAt" "I") (by decide +kernel)
  have hf191 := hts (.fieldLink RX9 191 "RequestReaderModel" "targetEnd" "I") (by decide +kernel)
  have hf255 := hts (.fieldLink RX9 255 "RequestReaderModel" "pathLength" "I") (by decide +kernel)
  have hte1 := targ_e hF htg
  have hs47 : slen 47 = 10 := by decide
  refine lv_aload_n hx hb dX9_unfolded_0 rfl (lv_at hl 0 rfl) ?_
  refine lv_iconst (v := nI 0) hx hb dX9_unfolded_1 (by decide) ?_
  refine va_put (D := gD g) (ci := 7) (v := .int (nI 0)) (ty := .int) (C := RX9) (T := TX9) (N := 39) hx hb hts hinX9 tyX9 tyX9_ok nmX9 hown hK hP hD hS 0 rfl rfl 35 (by decide) hf255 (fun _ h9 => h9) rfl (by decide +kernel) rfl rfl (Nat.le_of_ble_eq_true rfl) dX9_unfolded_2 (fun H locs hP hD hS => ?_)
  have hP : va_P (gD g) vwCl [(mm, .inr (7, v0 :: v1 :: v2 :: v3 :: v4 :: v5 :: v6 :: v7 :: v8 :: v9 :: v10 :: v11 :: v12 :: v13 :: v14 :: v15 :: v16 :: .ref ah_ :: v18 :: v19 :: v20 :: v21 :: v22 :: v23 :: v24 :: v25 :: v26 :: v27 :: v28 :: v29 :: v30 :: v31 :: .int (nI m_targetAt) :: .int (nI m_targetEnd) :: .ref an_ :: .int (nI 0) :: v36 :: v37 :: v38 :: [])), (ah_, .inl (gB g, 4096, .inl fh)), (an_, .inl (gB g, 8192, .inl fn))] H := hP
  have hD : va_D A [(mm, .inr (7, v0 :: v1 :: v2 :: v3 :: v4 :: v5 :: v6 :: v7 :: v8 :: v9 :: v10 :: v11 :: v12 :: v13 :: v14 :: v15 :: v16 :: .ref ah_ :: v18 :: v19 :: v20 :: v21 :: v22 :: v23 :: v24 :: v25 :: v26 :: v27 :: v28 :: v29 :: v30 :: v31 :: .int (nI m_targetAt) :: .int (nI m_targetEnd) :: .ref an_ :: .int (nI 0) :: v36 :: v37 :: v38 :: [])), (ah_, .inl (gB g, 4096, .inl fh)), (an_, .inl (gB g, 8192, .inl fn))] := hD
  refine lv_aload_n hx hb dX9_unfolded_5 rfl (lv_at hl 0 rfl) ?_
  refine va_get (D := gD g) (ci := 7) (v := .int (nI m_targetAt)) (C := RX9) (T := TX9) (N := 39) hx hb hts hinX9 hown hK hP 0 rfl rfl 32 (by decide) hf188 (fun _ h9 => h9) rfl dX9_unfolded_6 ?_
  refine lv_istore_n (lv' := [(1, .int (nI m_targetAt)), (0, .ref mm)]) hx hb dX9_unfolded_9 rfl hl (by decide) rfl (fun ls hl => ?_)
  have K10 : ∀ (N_ : Nat) (i : Nat) (f1 : Nat → Int32) (pl : Nat) (L : List Int32), (pl = L.length) → (m_targetAt ≤ i) → (i ≤ e1) → (L.length + m_targetAt ≤ i) → (i = m_targetAt ∨ 1 ≤ L.length) → (hasL f1 0 L) → (∀ j, j < L.length → pVis (L.getD j 0)) → (∃ m, e1 < i + m ∧ pthL f e1 (e1 + 1) m_targetAt = (pthL f e1 m i).map (fun l => L ++ l)) → (e1 - i) < N_ → ∀ (H : Heap) (locs : List Loc) (ls : Array Slot), va_P (gD g) vwCl [(mm, .inr (7, v0 :: v1 :: v2 :: v3 :: v4 :: v5 :: v6 :: v7 :: v8 :: v9 :: v10 :: v11 :: v12 :: v13 :: v14 :: v15 :: v16 :: .ref ah_ :: v18 :: v19 :: v20 :: v21 :: v22 :: v23 :: v24 :: v25 :: v26 :: v27 :: v28 :: v29 :: v30 :: v31 :: .int (nI m_targetAt) :: .int (nI m_targetEnd) :: .ref an_ :: .int (nI pl) :: v36 :: v37 :: v38 :: [])), (ah_, .inl (gB g, 4096, .inl fh)), (an_, .inl (gB g, 8192, .inl f1))] H → va_D A [(mm, .inr (7, v0 :: v1 :: v2 :: v3 :: v4 :: v5 :: v6 :: v7 :: v8 :: v9 :: v10 :: v11 :: v12 :: v13 :: v14 :: v15 :: v16 :: .ref ah_ :: v18 :: v19 :: v20 :: v21 :: v22 :: v23 :: v24 :: v25 :: v26 :: v27 :: v28 :: v29 :: v30 :: v31 :: .int (nI m_targetAt) :: .int (nI m_targetEnd) :: .ref an_ :: .int (nI pl) :: v36 :: v37 :: v38 :: [])), (ah_, .inl (gB g, 4096, .inl fh)), (an_, .inl (gB g, 8192, .inl f1))] → va_S A s.heap H locs → lv_has ls 5 [(0, .ref mm), (1, .int (nI i))] → W p l e ({ frames := 4, cells := 0, slots := 0, locals := 85 } : Room) s m args below meth c H locs (0) (0) Q (F0 m 10 ls []) := by
    intro N_
    induction N_ with
    | zero => intro i f1 pl L hpl hi0 hi1 hLn hL1 hLf hLv hE hm_; exact absurd hm_ (Nat.not_lt_zero _)
    | succ N_ ih_K10 =>
      intro i f1 pl L hpl hi0 hi1 hLn hL1 hLf hLv hE hm_ H locs ls hP hD hS hl
      have J152 : (i = e1) → ∀ (H : Heap) (locs : List Loc) (ls : Array Slot), va_P (gD g) vwCl [(mm, .inr (7, v0 :: v1 :: v2 :: v3 :: v4 :: v5 :: v6 :: v7 :: v8 :: v9 :: v10 :: v11 :: v12 :: v13 :: v14 :: v15 :: v16 :: .ref ah_ :: v18 :: v19 :: v20 :: v21 :: v22 :: v23 :: v24 :: v25 :: v26 :: v27 :: v28 :: v29 :: v30 :: v31 :: .int (nI m_targetAt) :: .int (nI m_targetEnd) :: .ref an_ :: .int (nI pl) :: v36 :: v37 :: v38 :: [])), (ah_, .inl (gB g, 4096, .inl fh)), (an_, .inl (gB g, 8192, .inl f1))] H → va_D A [(mm, .inr (7, v0 :: v1 :: v2 :: v3 :: v4 :: v5 :: v6 :: v7 :: v8 :: v9 :: v10 :: v11 :: v12 :: v13 :: v14 :: v15 :: v16 :: .ref ah_ :: v18 :: v19 :: v20 :: v21 :: v22 :: v23 :: v24 :: v25 :: v26 :: v27 :: v28 :: v29 :: v30 :: v31 :: .int (nI m_targetAt) :: .int (nI m_targetEnd) :: .ref an_ :: .int (nI pl) :: v36 :: v37 :: v38 :: [])), (ah_, .inl (gB g, 4096, .inl fh)), (an_, .inl (gB g, 8192, .inl f1))] → va_S A s.heap H locs → lv_has ls 5 [(0, .ref mm), (1, .int (nI i))] → W p l e ({ frames := 4, cells := 0, slots := 0, locals := 85 } : Room) s m args below meth c H locs (0) (0) Q (F0 m 152 ls []) := by
        intro  hex H locs ls hP hD hS hl
        refine lv_aload_n hx hb dX9_unfolded_152 rfl (lv_at hl 0 rfl) ?_
        refine va_get (D := gD g) (ci := 7) (v := .ref an_) (C := RX9) (T := TX9) (N := 39) hx hb hts hinX9 hown hK hP 0 rfl rfl 34 (by decide) hf43 (fun _ h9 => h9) rfl dX9_unfolded_153 ?_
        refine lv_aload_n hx hb dX9_unfolded_156 rfl (lv_at hl 0 rfl) ?_
        refine va_get (D := gD g) (ci := 7) (v := .int (nI pl)) (C := RX9) (T := TX9) (N := 39) hx hb hts hinX9 hown hK hP 0 rfl rfl 35 (by decide) hf255 (fun _ h9 => h9) rfl dX9_unfolded_157 ?_
        refine lv_iconst (v := nI 1) hx hb dX9_unfolded_160 (by decide) ?_
        refine q_isub (v := nI (pl - 1)) hx hb dX9_unfolded_161 (pk_sub (a := pl) (b := 1) (by omega)) ?_
        refine q_bald hx hb hK hP 2 rfl (pl - 1) rfl (by omega) (by omega) dX9_unfolded_162 ?_
        refine q_top (v := L.getD (L.length - 1) 0) (by rw [hpl]; exact hasL_at hLf (by omega)) ?_
        refine lv_bipush (v := nI 47) hx hb dX9_unfolded_163 (by decide) ?_
        refine lv_icmp_ne (tgt := 218) hx hb dX9_unfolded_165 (by decide) (fun c165 => ?_) (fun c165 => ?_)
        · skip
          have c165 : ¬ L.getD (L.length - 1) 0 &&& 255 = nI 47 := fun z => c165 ((vis_eq (hLv _ (by omega)) (by decide)).mpr z)
          refine lv_iconst (v := nI 1) hx hb dX9_unfolded_218 (by decide) ?_
          refine ct_iret (w := [(mm, .inr (7, v0 :: v1 :: v2 :: v3 :: v4 :: v5 :: v6 :: v7 :: v8 :: v9 :: v10 :: v11 :: v12 :: v13 :: v14 :: v15 :: v16 :: .ref ah_ :: v18 :: v19 :: v20 :: v21 :: v22 :: v23 :: v24 :: v25 :: v26 :: v27 :: v28 :: v29 :: v30 :: v31 :: .int (nI m_targetAt) :: .int (nI m_targetEnd) :: .ref an_ :: .int (nI pl) :: v36 :: v37 :: v38 :: [])), (ah_, .inl (gB g, 4096, .inl fh)), (an_, .inl (gB g, 8192, .inl f1))]) hx hb hr rfl hlocks hQ hAe hK (hP.sub [0, 1, 2] rfl) (hD.sub [0, 1, 2] (by decide) rfl) hS (by omega) (by omega) dX9_unfolded_219 ?_
          refine Or.inr ((?_))
          exact ⟨f1, pl, L, L, rfl, rfl, by first | exact hpl | (rw [List.length_append, hpl]; rfl), by (obtain ⟨m, h1, h2⟩ := hE; rw [h2, pthL_0 (by omega)]; simp), by first | exact Or.inl ⟨fun z => c165 z.2, rfl⟩ | exact Or.inr ⟨⟨by omega, c165⟩, rfl⟩, by first | exact hLf | (subst hpl; exact hasL_app hLf ef (fun j hj => et j (by have hj2 : j < 10 := hj; omega))), by first | exact hLv | exact vis_app hLv sL0_vis, by first | omega | (rw [List.length_append]; show L.length + 10 ≤ 4200; omega)⟩
        · skip
          have c165 := (vis_eq (hLv _ (by omega)) (by decide)).mp c165
          refine q_ldcwS hx hb hown ((hG.1 47 (by decide)).2.2.2.2) dX9_unfolded_168 ?_
          refine lv_astore_n (lv' := [(2, .ref (gK g 47)), (0, .ref mm), (1, .int (nI i))]) hx hb dX9_unfolded_171 rfl hl (by decide) rfl (fun ls hl => ?_)
          refine lv_iconst (v := nI 0) hx hb dX9_unfolded_172 (by decide) ?_
          refine lv_istore_n (lv' := [(3, .int (nI 0)), (2, .ref (gK g 47)), (0, .ref mm), (1, .int (nI i))]) hx hb dX9_unfolded_173 rfl hl (by decide) rfl (fun ls hl => ?_)
          have K174 : ∀ (N_ : Nat) (i2 : Nat) (f2 : Nat → Int32), (i2 ≤ 10) → (∀ j, j < pl → f2 j = f1 j) → (∀ j, j < i2 → f2 (pl + j) = sbyt 47 j) → (10 - i2) < N_ → ∀ (H : Heap) (locs : List Loc) (ls : Array Slot), va_P (gD g) vwCl [(mm, .inr (7, v0 :: v1 :: v2 :: v3 :: v4 :: v5 :: v6 :: v7 :: v8 :: v9 :: v10 :: v11 :: v12 :: v13 :: v14 :: v15 :: v16 :: .ref ah_ :: v18 :: v19 :: v20 :: v21 :: v22 :: v23 :: v24 :: v25 :: v26 :: v27 :: v28 :: v29 :: v30 :: v31 :: .int (nI m_targetAt) :: .int (nI m_targetEnd) :: .ref an_ :: .int (nI pl) :: v36 :: v37 :: v38 :: [])), (ah_, .inl (gB g, 4096, .inl fh)), (an_, .inl (gB g, 8192, .inl f2))] H → va_D A [(mm, .inr (7, v0 :: v1 :: v2 :: v3 :: v4 :: v5 :: v6 :: v7 :: v8 :: v9 :: v10 :: v11 :: v12 :: v13 :: v14 :: v15 :: v16 :: .ref ah_ :: v18 :: v19 :: v20 :: v21 :: v22 :: v23 :: v24 :: v25 :: v26 :: v27 :: v28 :: v29 :: v30 :: v31 :: .int (nI m_targetAt) :: .int (nI m_targetEnd) :: .ref an_ :: .int (nI pl) :: v36 :: v37 :: v38 :: [])), (ah_, .inl (gB g, 4096, .inl fh)), (an_, .inl (gB g, 8192, .inl f2))] → va_S A s.heap H locs → lv_has ls 5 [(0, .ref mm), (1, .int (nI i)), (2, .ref (gK g 47)), (3, .int (nI i2))] → W p l e ({ frames := 4, cells := 0, slots := 0, locals := 85 } : Room) s m args below meth c H locs (0) (0) Q (F0 m 174 ls []) := by
            intro N_
            induction N_ with
            | zero => intro i2 f2 hi2 ef et hm_; exact absurd hm_ (Nat.not_lt_zero _)
            | succ N_ ih_K174 =>
              intro i2 f2 hi2 ef et hm_ H locs ls hP hD hS hl
              refine lv_iload_n hx hb dX9_unfolded_174 rfl (lv_at hl 3 rfl) ?_
              refine lv_aload_n hx hb dX9_unfolded_175 rfl (lv_at hl 2 rfl) ?_
              refine ct_callV (wr := [(mm, .inr (7, v0 :: v1 :: v2 :: v3 :: v4 :: v5 :: v6 :: v7 :: v8 :: v9 :: v10 :: v11 :: v12 :: v13 :: v14 :: v15 :: v16 :: .ref ah_ :: v18 :: v19 :: v20 :: v21 :: v22 :: v23 :: v24 :: v25 :: v26 :: v27 :: v28 :: v29 :: v30 :: v31 :: .int (nI m_targetAt) :: .int (nI m_targetEnd) :: .ref an_ :: .int (nI pl) :: v36 :: v37 :: v38 :: [])), (ah_, .inl (gB g, 4096, .inl fh)), (an_, .inl (gB g, 8192, .inl f2))]) hx hb hml hown hts hK hP hD hS hA hG hl.1 (c_slen l g 47 (by first | assumption | decide)) (cwV 0 hts gX9_unfolded_J0_length_8abf5 rfl rfl rfl (by decide +kernel) ⟨Nat.le_of_ble_eq_true rfl, Nat.le_of_ble_eq_true rfl⟩) (st_recv hG (k := 47) (by decide) hS) rfl rfl (Nat.le_of_ble_eq_true rfl) dX9_unfolded_176 ⟨show 0 + 0 ≤ 0 by omega, show 0 + 0 ≤ 0 by omega⟩ [] [0, 1, 2] rfl rfl (by decide) (by decide) (by decide) (fun r_ w_ H locs hp_ hP hD hS => ?_)
              obtain ⟨rfl, rfl⟩ := hp_
              have hP : va_P (gD g) vwCl [(mm, .inr (7, v0 :: v1 :: v2 :: v3 :: v4 :: v5 :: v6 :: v7 :: v8 :: v9 :: v10 :: v11 :: v12 :: v13 :: v14 :: v15 :: v16 :: .ref ah_ :: v18 :: v19 :: v20 :: v21 :: v22 :: v23 :: v24 :: v25 :: v26 :: v27 :: v28 :: v29 :: v30 :: v31 :: .int (nI m_targetAt) :: .int (nI m_targetEnd) :: .ref an_ :: .int (nI pl) :: v36 :: v37 :: v38 :: [])), (ah_, .inl (gB g, 4096, .inl fh)), (an_, .inl (gB g, 8192, .inl f2))] H := hP
              have hD : va_D A [(mm, .inr (7, v0 :: v1 :: v2 :: v3 :: v4 :: v5 :: v6 :: v7 :: v8 :: v9 :: v10 :: v11 :: v12 :: v13 :: v14 :: v15 :: v16 :: .ref ah_ :: v18 :: v19 :: v20 :: v21 :: v22 :: v23 :: v24 :: v25 :: v26 :: v27 :: v28 :: v29 :: v30 :: v31 :: .int (nI m_targetAt) :: .int (nI m_targetEnd) :: .ref an_ :: .int (nI pl) :: v36 :: v37 :: v38 :: [])), (ah_, .inl (gB g, 4096, .inl fh)), (an_, .inl (gB g, 8192, .inl f2))] := hD
              refine W.eq (g2 := F0 m 179 ls [.int (nI (slen 47)), .int (nI i2)]) rfl ?_
              refine lv_icmp_ge (tgt := 205) hx hb dX9_unfolded_179 (by decide) (fun c179 => ?_) (fun c179 => ?_)
              · skip
                have c179 : slen 47 ≤ i2 := (nI_leI (a := slen 47) (b := i2) (by omega) (by omega)).mp c179
                refine lv_aload_n hx hb dX9_unfolded_205 rfl (lv_at hl 0 rfl) ?_
                refine lv_aload_n hx hb dX9_unfolded_206 rfl (lv_at hl 0 rfl) ?_
                refine va_get (D := gD g) (ci := 7) (v := .int (nI pl)) (C := RX9) (T := TX9) (N := 39) hx hb hts hinX9 hown hK hP 0 rfl rfl 35 (by decide) hf255 (fun _ h9 => h9) rfl dX9_unfolded_207 ?_
                refine lv_aload_n hx hb dX9_unfolded_210 rfl (lv_at hl 2 rfl) ?_
                refine ct_callV (wr := [(mm, .inr (7, v0 :: v1 :: v2 :: v3 :: v4 :: v5 :: v6 :: v7 :: v8 :: v9 :: v10 :: v11 :: v12 :: v13 :: v14 :: v15 :: v16 :: .ref ah_ :: v18 :: v19 :: v20 :: v21 :: v22 :: v23 :: v24 :: v25 :: v26 :: v27 :: v28 :: v29 :: v30 :: v31 :: .int (nI m_targetAt) :: .int (nI m_targetEnd) :: .ref an_ :: .int (nI pl) :: v36 :: v37 :: v38 :: [])), (ah_, .inl (gB g, 4096, .inl fh)), (an_, .inl (gB g, 8192, .inl f2))]) hx hb hml hown hts hK hP hD hS hA hG hl.1 (c_slen l g 47 (by first | assumption | decide)) (cwV 0 hts gX9_unfolded_J0_length_8abf5 rfl rfl rfl (by decide +kernel) ⟨Nat.le_of_ble_eq_true rfl, Nat.le_of_ble_eq_true rfl⟩) (st_recv hG (k := 47) (by decide) hS) rfl rfl (Nat.le_of_ble_eq_true rfl) dX9_unfolded_211 ⟨show 0 + 0 ≤ 0 by omega, show 0 + 0 ≤ 0 by omega⟩ [] [0, 1, 2] rfl rfl (by decide) (by decide) (by decide) (fun r_ w_ H locs hp_ hP hD hS => ?_)
                obtain ⟨rfl, rfl⟩ := hp_
                have hP : va_P (gD g) vwCl [(mm, .inr (7, v0 :: v1 :: v2 :: v3 :: v4 :: v5 :: v6 :: v7 :: v8 :: v9 :: v10 :: v11 :: v12 :: v13 :: v14 :: v15 :: v16 :: .ref ah_ :: v18 :: v19 :: v20 :: v21 :: v22 :: v23 :: v24 :: v25 :: v26 :: v27 :: v28 :: v29 :: v30 :: v31 :: .int (nI m_targetAt) :: .int (nI m_targetEnd) :: .ref an_ :: .int (nI pl) :: v36 :: v37 :: v38 :: [])), (ah_, .inl (gB g, 4096, .inl fh)), (an_, .inl (gB g, 8192, .inl f2))] H := hP
                have hD : va_D A [(mm, .inr (7, v0 :: v1 :: v2 :: v3 :: v4 :: v5 :: v6 :: v7 :: v8 :: v9 :: v10 :: v11 :: v12 :: v13 :: v14 :: v15 :: v16 :: .ref ah_ :: v18 :: v19 :: v20 :: v21 :: v22 :: v23 :: v24 :: v25 :: v26 :: v27 :: v28 :: v29 :: v30 :: v31 :: .int (nI m_targetAt) :: .int (nI m_targetEnd) :: .ref an_ :: .int (nI pl) :: v36 :: v37 :: v38 :: [])), (ah_, .inl (gB g, 4096, .inl fh)), (an_, .inl (gB g, 8192, .inl f2))] := hD
                refine W.eq (g2 := F0 m 214 ls [.int (nI (slen 47)), .int (nI pl), .ref mm]) rfl ?_
                refine q_iadd (v := nI (pl + (slen 47))) hx hb dX9_unfolded_214 (nI_add pl (slen 47)) ?_
                refine va_put (D := gD g) (ci := 7) (v := .int (nI (pl + (slen 47)))) (ty := .int) (C := RX9) (T := TX9) (N := 39) hx hb hts hinX9 tyX9 tyX9_ok nmX9 hown hK hP hD hS 0 rfl rfl 35 (by decide) hf255 (fun _ h9 => h9) rfl (by decide +kernel) rfl rfl (Nat.le_of_ble_eq_true rfl) dX9_unfolded_215 (fun H locs hP hD hS => ?_)
                have hP : va_P (gD g) vwCl [(mm, .inr (7, v0 :: v1 :: v2 :: v3 :: v4 :: v5 :: v6 :: v7 :: v8 :: v9 :: v10 :: v11 :: v12 :: v13 :: v14 :: v15 :: v16 :: .ref ah_ :: v18 :: v19 :: v20 :: v21 :: v22 :: v23 :: v24 :: v25 :: v26 :: v27 :: v28 :: v29 :: v30 :: v31 :: .int (nI m_targetAt) :: .int (nI m_targetEnd) :: .ref an_ :: .int (nI (pl + (slen 47))) :: v36 :: v37 :: v38 :: [])), (ah_, .inl (gB g, 4096, .inl fh)), (an_, .inl (gB g, 8192, .inl f2))] H := hP
                have hD : va_D A [(mm, .inr (7, v0 :: v1 :: v2 :: v3 :: v4 :: v5 :: v6 :: v7 :: v8 :: v9 :: v10 :: v11 :: v12 :: v13 :: v14 :: v15 :: v16 :: .ref ah_ :: v18 :: v19 :: v20 :: v21 :: v22 :: v23 :: v24 :: v25 :: v26 :: v27 :: v28 :: v29 :: v30 :: v31 :: .int (nI m_targetAt) :: .int (nI m_targetEnd) :: .ref an_ :: .int (nI (pl + (slen 47))) :: v36 :: v37 :: v38 :: [])), (ah_, .inl (gB g, 4096, .inl fh)), (an_, .inl (gB g, 8192, .inl f2))] := hD
                refine lv_iconst (v := nI 1) hx hb dX9_unfolded_218 (by decide) ?_
                refine ct_iret (w := [(mm, .inr (7, v0 :: v1 :: v2 :: v3 :: v4 :: v5 :: v6 :: v7 :: v8 :: v9 :: v10 :: v11 :: v12 :: v13 :: v14 :: v15 :: v16 :: .ref ah_ :: v18 :: v19 :: v20 :: v21 :: v22 :: v23 :: v24 :: v25 :: v26 :: v27 :: v28 :: v29 :: v30 :: v31 :: .int (nI m_targetAt) :: .int (nI m_targetEnd) :: .ref an_ :: .int (nI (pl + (slen 47))) :: v36 :: v37 :: v38 :: [])), (ah_, .inl (gB g, 4096, .inl fh)), (an_, .inl (gB g, 8192, .inl f2))]) hx hb hr rfl hlocks hQ hAe hK (hP.sub [0, 1, 2] rfl) (hD.sub [0, 1, 2] (by decide) rfl) hS (by omega) (by omega) dX9_unfolded_219 ?_
                refine Or.inr ((?_))
                exact ⟨f2, pl + (slen 47), L, L ++ sL 0, rfl, rfl, by first | exact hpl | (rw [List.length_append, hpl]; rfl), by (obtain ⟨m, h1, h2⟩ := hE; rw [h2, pthL_0 (by omega)]; simp), by first | exact Or.inl ⟨fun z => c165 z.2, rfl⟩ | exact Or.inr ⟨⟨by omega, c165⟩, rfl⟩, by first | exact hLf | (subst hpl; exact hasL_app hLf ef (fun j hj => et j (by have hj2 : j < 10 := hj; omega))), by first | exact hLv | exact vis_app hLv sL0_vis, by first | omega | (rw [List.length_append]; show L.length + 10 ≤ 4200; omega)⟩
              · skip
                have c179 : ¬ (slen 47 ≤ i2) := fun z => c179 ((nI_leI (a := slen 47) (b := i2) (by omega) (by omega)).mpr z)
                refine lv_aload_n hx hb dX9_unfolded_182 rfl (lv_at hl 0 rfl) ?_
                refine va_get (D := gD g) (ci := 7) (v := .ref an_) (C := RX9) (T := TX9) (N := 39) hx hb hts hinX9 hown hK hP 0 rfl rfl 34 (by decide) hf43 (fun _ h9 => h9) rfl dX9_unfolded_183 ?_
                refine lv_aload_n hx hb dX9_unfolded_186 rfl (lv_at hl 0 rfl) ?_
                refine va_get (D := gD g) (ci := 7) (v := .int (nI pl)) (C := RX9) (T := TX9) (N := 39) hx hb hts hinX9 hown hK hP 0 rfl rfl 35 (by decide) hf255 (fun _ h9 => h9) rfl dX9_unfolded_187 ?_
                refine lv_iload_n hx hb dX9_unfolded_190 rfl (lv_at hl 3 rfl) ?_
                refine q_iadd (v := nI (pl + i2)) hx hb dX9_unfolded_191 (nI_add pl i2) ?_
                refine lv_aload_n hx hb dX9_unfolded_192 rfl (lv_at hl 2 rfl) ?_
                refine lv_iload_n hx hb dX9_unfolded_193 rfl (lv_at hl 3 rfl) ?_
                refine ct_callV (wr := [(mm, .inr (7, v0 :: v1 :: v2 :: v3 :: v4 :: v5 :: v6 :: v7 :: v8 :: v9 :: v10 :: v11 :: v12 :: v13 :: v14 :: v15 :: v16 :: .ref ah_ :: v18 :: v19 :: v20 :: v21 :: v22 :: v23 :: v24 :: v25 :: v26 :: v27 :: v28 :: v29 :: v30 :: v31 :: .int (nI m_targetAt) :: .int (nI m_targetEnd) :: .ref an_ :: .int (nI pl) :: v36 :: v37 :: v38 :: [])), (ah_, .inl (gB g, 4096, .inl fh)), (an_, .inl (gB g, 8192, .inl f2))]) hx hb hml hown hts hK hP hD hS hA hG hl.1 (c_charAt l g 47 i2 (by first | assumption | decide) (by omega)) (cwV 1 hts gX9_unfolded_J0_charAt_5068e rfl rfl rfl (by decide +kernel) ⟨Nat.le_of_ble_eq_true rfl, Nat.le_of_ble_eq_true rfl⟩) (st_recv hG (k := 47) (by decide) hS) rfl rfl (Nat.le_of_ble_eq_true rfl) dX9_unfolded_194 ⟨show 0 + 0 ≤ 0 by omega, show 0 + 0 ≤ 0 by omega⟩ [] [0, 1, 2] rfl rfl (by decide) (by decide) (by decide) (fun r_ w_ H locs hp_ hP hD hS => ?_)
                obtain ⟨rfl, rfl⟩ := hp_
                have hP : va_P (gD g) vwCl [(mm, .inr (7, v0 :: v1 :: v2 :: v3 :: v4 :: v5 :: v6 :: v7 :: v8 :: v9 :: v10 :: v11 :: v12 :: v13 :: v14 :: v15 :: v16 :: .ref ah_ :: v18 :: v19 :: v20 :: v21 :: v22 :: v23 :: v24 :: v25 :: v26 :: v27 :: v28 :: v29 :: v30 :: v31 :: .int (nI m_targetAt) :: .int (nI m_targetEnd) :: .ref an_ :: .int (nI pl) :: v36 :: v37 :: v38 :: [])), (ah_, .inl (gB g, 4096, .inl fh)), (an_, .inl (gB g, 8192, .inl f2))] H := hP
                have hD : va_D A [(mm, .inr (7, v0 :: v1 :: v2 :: v3 :: v4 :: v5 :: v6 :: v7 :: v8 :: v9 :: v10 :: v11 :: v12 :: v13 :: v14 :: v15 :: v16 :: .ref ah_ :: v18 :: v19 :: v20 :: v21 :: v22 :: v23 :: v24 :: v25 :: v26 :: v27 :: v28 :: v29 :: v30 :: v31 :: .int (nI m_targetAt) :: .int (nI m_targetEnd) :: .ref an_ :: .int (nI pl) :: v36 :: v37 :: v38 :: [])), (ah_, .inl (gB g, 4096, .inl fh)), (an_, .inl (gB g, 8192, .inl f2))] := hD
                refine W.eq (g2 := F0 m 197 ls [.int (sbyt 47 i2 &&& 255), .int (nI (pl + i2)), .ref an_]) rfl ?_
                refine lv_i2b (v := (sbyt 47 i2 &&& 255).toInt8.toInt32) hx hb dX9_unfolded_197 (rfl) ?_
                refine q_bast hx hb hK hP hD hS 2 rfl (pl + i2) rfl (by omega) (by omega) dX9_unfolded_198 (fun H locs hP hD hS => ?_)
                have hP : va_P (gD g) vwCl [(mm, .inr (7, v0 :: v1 :: v2 :: v3 :: v4 :: v5 :: v6 :: v7 :: v8 :: v9 :: v10 :: v11 :: v12 :: v13 :: v14 :: v15 :: v16 :: .ref ah_ :: v18 :: v19 :: v20 :: v21 :: v22 :: v23 :: v24 :: v25 :: v26 :: v27 :: v28 :: v29 :: v30 :: v31 :: .int (nI m_targetAt) :: .int (nI m_targetEnd) :: .ref an_ :: .int (nI pl) :: v36 :: v37 :: v38 :: [])), (ah_, .inl (gB g, 4096, .inl fh)), (an_, .inl (gB g, 8192, .inl (upd f2 (pl + i2) (((sbyt 47 i2 &&& 255).toInt8.toInt32).toInt8.toInt32))))] H := hP
                have hD : va_D A [(mm, .inr (7, v0 :: v1 :: v2 :: v3 :: v4 :: v5 :: v6 :: v7 :: v8 :: v9 :: v10 :: v11 :: v12 :: v13 :: v14 :: v15 :: v16 :: .ref ah_ :: v18 :: v19 :: v20 :: v21 :: v22 :: v23 :: v24 :: v25 :: v26 :: v27 :: v28 :: v29 :: v30 :: v31 :: .int (nI m_targetAt) :: .int (nI m_targetEnd) :: .ref an_ :: .int (nI pl) :: v36 :: v37 :: v38 :: [])), (ah_, .inl (gB g, 4096, .inl fh)), (an_, .inl (gB g, 8192, .inl (upd f2 (pl + i2) (((sbyt 47 i2 &&& 255).toInt8.toInt32).toInt8.toInt32))))] := hD
                refine lv_iinc (v := nI (i2 + 1)) (lv' := [(3, .int (nI (i2 + 1))), (0, .ref mm), (1, .int (nI i)), (2, .ref (gK g 47))]) hx hb dX9_unfolded_199 hl (k := 3) rfl (nI_inc i2 1) (by decide) rfl (fun ls hl => ?_)
                refine lv_goto (tgt := 174) hx hb dX9_unfolded_202 (by decide) ?_
                exact ih_K174 (i2 + 1) (upd f2 (pl + i2) (((sbyt 47 i2 &&& 255).toInt8.toInt32).toInt8.toInt32)) (by omega) (by exact fun j hj => (pk_un (by omega)).trans (ef j hj)) (by exact lt_s (fun j hj => (pk_un (by omega)).trans (et j hj)) (pk_us.trans (by rw [b8b8]; exact (sb7 47 (by decide) i2 (by omega)).2.1))) (by omega) _ _ _ (hP.sub [0, 1, 2] rfl) (hD.sub [0, 1, 2] (by decide) rfl) hS (lv_sub hl [1, 2, 3, 0] rfl)
          exact K174 ((10 - 0) + 1) 0 f1 (by omega) (by exact fun j _ => rfl) (by intro j h1; omega) (Nat.lt_succ_self _) _ _ _ (hP.sub [0, 1, 2] rfl) (hD.sub [0, 1, 2] (by decide) rfl) hS (lv_sub hl [2, 3, 1, 0] rfl)
      refine lv_iload_n hx hb dX9_unfolded_10 rfl (lv_at hl 1 rfl) ?_
      refine lv_aload_n hx hb dX9_unfolded_11 rfl (lv_at hl 0 rfl) ?_
      refine va_get (D := gD g) (ci := 7) (v := .int (nI m_targetEnd)) (C := RX9) (T := TX9) (N := 39) hx hb hts hinX9 hown hK hP 0 rfl rfl 33 (by decide) hf191 (fun _ h9 => h9) rfl dX9_unfolded_12 ?_
      refine lv_icmp_ge (tgt := 152) hx hb dX9_unfolded_15 (by decide) (fun c15 => ?_) (fun c15 => ?_)
      · skip
        have c15 : m_targetEnd ≤ i := (nI_leI (a := m_targetEnd) (b := i) (by omega) (by omega)).mp c15
        exact J152  (by first | omega | exact (if z : i < e1 then absurd c26 (hF.1 i (by omega) z) else by omega)) _ _ _ (hP.sub [0, 1, 2] rfl) (hD.sub [0, 1, 2] (by decide) rfl) hS (lv_sub hl [0, 1] rfl)
      · skip
        have c15 : ¬ (m_targetEnd ≤ i) := fun z => c15 ((nI_leI (a := m_targetEnd) (b := i) (by omega) (by omega)).mpr z)
        refine lv_aload_n hx hb dX9_unfolded_18 rfl (lv_at hl 0 rfl) ?_
        refine va_get (D := gD g) (ci := 7) (v := .ref ah_) (C := RX9) (T := TX9) (N := 39) hx hb hts hinX9 hown hK hP 0 rfl rfl 17 (by decide) hf40 (fun _ h9 => h9) rfl dX9_unfolded_19 ?_
        refine lv_iload_n hx hb dX9_unfolded_22 rfl (lv_at hl 1 rfl) ?_
        refine q_bald hx hb hK hP 1 rfl (i) rfl (by omega) (by omega) dX9_unfolded_23 ?_
        refine q_top (v := f i) (hM _ (by omega)) ?_
        refine lv_bipush (v := nI 63) hx hb dX9_unfolded_24 (by decide) ?_
        refine lv_icmp_eq (tgt := 152) hx hb dX9_unfolded_26 (by decide) (fun c26 => ?_) (fun c26 => ?_)
        · skip
          have c26 := (ra hfit (by decide)).mp c26
          exact J152  (by first | omega | exact (if z : i < e1 then absurd c26 (hF.1 i (by omega) z) else by omega)) _ _ _ (hP.sub [0, 1, 2] rfl) (hD.sub [0, 1, 2] (by decide) rfl) hS (lv_sub hl [0, 1] rfl)
        · skip
          have c26 : ¬ f i &&& 255 = nI 63 := fun z => c26 ((ra hfit (by decide)).mpr z)
          have hie : i < e1 := by
            rcases hF.2 with w_ | w_
            · omega
            · exact (if z : i < e1 then z else absurd (by rw [show i = e1 by omega]; exact w_.2.2) c26)
          refine lv_aload_n hx hb dX9_unfolded_29 rfl (lv_at hl 0 rfl) ?_
          refine lv_iload_n hx hb dX9_unfolded_30 rfl (lv_at hl 1 rfl) ?_
          refine ct_callV (wr := [(an_, .inl (gB g, 8192, .inl f1))]) hx hb hml hown hts hK hP hD hS hA hG hl.1 (c_headAt l g mm ((v0 : Value)) ((v1 : Value)) ((v2 : Value)) ((v3 : Value)) ((v4 : Value)) ((v5 : Value)) ((v6 : Value)) ((v7 : Value)) ((v8 : Value)) ((v9 : Value)) ((v10 : Value)) ((v11 : Value)) ((v12 : Value)) ((v13 : Value)) ((v14 : Value)) ((v15 : Value)) ((v16 : Value)) ah_ ((v18 : Value)) ((v19 : Value)) ((v20 : Value)) ((v21 : Value)) ((v22 : Value)) ((v23 : Value)) ((v24 : Value)) ((v25 : Value)) ((v26 : Value)) ((v27 : Value)) ((v28 : Value)) ((v29 : Value)) ((v30 : Value)) ((v31 : Value)) ((.int (nI m_targetAt) : Value)) ((.int (nI m_targetEnd) : Value)) ((.ref an_ : Value)) ((.int (nI pl) : Value)) ((v36 : Value)) ((v37 : Value)) ((v38 : Value)) fh f hn i (by omega) (by assumption) (by omega)) (cwV 1 hts gX9_unfolded_X9_headAt rfl rfl rfl (by decide +kernel) ⟨Nat.le_of_ble_eq_true rfl, Nat.le_of_ble_eq_true rfl⟩) (va_recv hK hP (ci := 7) (q0 := 0) rfl rfl) rfl rfl (Nat.le_of_ble_eq_true rfl) dX9_unfolded_31 ⟨show 0 + 0 ≤ 0 by omega, show 0 + 0 ≤ 0 by omega⟩ [0, 1] [2] rfl rfl (by decide) (by decide) (by decide) (fun r_ w_ H locs hp_ hP hD hS => ?_)
          obtain ⟨rfl, rfl⟩ := hp_
          have hP : va_P (gD g) vwCl [(an_, .inl (gB g, 8192, .inl f1)), (mm, .inr (7, v0 :: v1 :: v2 :: v3 :: v4 :: v5 :: v6 :: v7 :: v8 :: v9 :: v10 :: v11 :: v12 :: v13 :: v14 :: v15 :: v16 :: .ref ah_ :: v18 :: v19 :: v20 :: v21 :: v22 :: v23 :: v24 :: v25 :: v26 :: v27 :: v28 :: v29 :: v30 :: v31 :: .int (nI m_targetAt) :: .int (nI m_targetEnd) :: .ref an_ :: .int (nI pl) :: v36 :: v37 :: v38 :: [])), (ah_, .inl (gB g, 4096, .inl fh))] H := hP
          have hD : va_D A [(an_, .inl (gB g, 8192, .inl f1)), (mm, .inr (7, v0 :: v1 :: v2 :: v3 :: v4 :: v5 :: v6 :: v7 :: v8 :: v9 :: v10 :: v11 :: v12 :: v13 :: v14 :: v15 :: v16 :: .ref ah_ :: v18 :: v19 :: v20 :: v21 :: v22 :: v23 :: v24 :: v25 :: v26 :: v27 :: v28 :: v29 :: v30 :: v31 :: .int (nI m_targetAt) :: .int (nI m_targetEnd) :: .ref an_ :: .int (nI pl) :: v36 :: v37 :: v38 :: [])), (ah_, .inl (gB g, 4096, .inl fh))] := hD
          refine W.eq (g2 := F0 m 34 ls [.int (f i &&& 255)]) rfl ?_
          refine lv_istore_n (lv' := [(2, .int (f i &&& 255)), (0, .ref mm), (1, .int (nI i))]) hx hb dX9_unfolded_34 rfl hl (by decide) rfl (fun ls hl => ?_)
          refine lv_iinc (v := nI (i + 1)) (lv' := [(1, .int (nI (i + 1))), (2, .int (f i &&& 255)), (0, .ref mm)]) hx hb dX9_unfolded_35 hl (k := 2) rfl (nI_inc i 1) (by decide) rfl (fun ls hl => ?_)
          refine lv_iload_n hx hb dX9_unfolded_38 rfl (lv_at hl 1 rfl) ?_
          refine lv_bipush (v := nI 37) hx hb dX9_unfolded_39 (by decide) ?_
          refine lv_icmp_ne (tgt := 128) hx hb dX9_unfolded_41 (by decide) (fun c41 => ?_) (fun c41 => ?_)
          · skip
            have hvi : pVis (f i &&& 255) := htg.2.2 i (by omega) (by omega)
            refine lv_aload_n hx hb dX9_unfolded_128 rfl (lv_at hl 2 rfl) ?_
            refine va_get (D := gD g) (ci := 7) (v := .ref an_) (C := RX9) (T := TX9) (N := 39) hx hb hts hinX9 hown hK hP 1 rfl rfl 34 (by decide) hf43 (fun _ h9 => h9) rfl dX9_unfolded_129 ?_
            refine lv_aload_n hx hb dX9_unfolded_132 rfl (lv_at hl 2 rfl) ?_
            refine va_get (D := gD g) (ci := 7) (v := .int (nI pl)) (C := RX9) (T := TX9) (N := 39) hx hb hts hinX9 hown hK hP 1 rfl rfl 35 (by decide) hf255 (fun _ h9 => h9) rfl dX9_unfolded_133 ?_
            refine lv_iload_n hx hb dX9_unfolded_136 rfl (lv_at hl 1 rfl) ?_
            refine lv_i2b (v := (f i &&& 255).toInt8.toInt32) hx hb dX9_unfolded_137 (rfl) ?_
            refine q_bast hx hb hK hP hD hS 0 rfl (pl) rfl (by omega) (by omega) dX9_unfolded_138 (fun H locs hP hD hS => ?_)
            have hP : va_P (gD g) vwCl [(an_, .inl (gB g, 8192, .inl (upd f1 pl (((f i &&& 255).toInt8.toInt32).toInt8.toInt32)))), (mm, .inr (7, v0 :: v1 :: v2 :: v3 :: v4 :: v5 :: v6 :: v7 :: v8 :: v9 :: v10 :: v11 :: v12 :: v13 :: v14 :: v15 :: v16 :: .ref ah_ :: v18 :: v19 :: v20 :: v21 :: v22 :: v23 :: v24 :: v25 :: v26 :: v27 :: v28 :: v29 :: v30 :: v31 :: .int (nI m_targetAt) :: .int (nI m_targetEnd) :: .ref an_ :: .int (nI pl) :: v36 :: v37 :: v38 :: [])), (ah_, .inl (gB g, 4096, .inl fh))] H := hP
            have hD : va_D A [(an_, .inl (gB g, 8192, .inl (upd f1 pl (((f i &&& 255).toInt8.toInt32).toInt8.toInt32)))), (mm, .inr (7, v0 :: v1 :: v2 :: v3 :: v4 :: v5 :: v6 :: v7 :: v8 :: v9 :: v10 :: v11 :: v12 :: v13 :: v14 :: v15 :: v16 :: .ref ah_ :: v18 :: v19 :: v20 :: v21 :: v22 :: v23 :: v24 :: v25 :: v26 :: v27 :: v28 :: v29 :: v30 :: v31 :: .int (nI m_targetAt) :: .int (nI m_targetEnd) :: .ref an_ :: .int (nI pl) :: v36 :: v37 :: v38 :: [])), (ah_, .inl (gB g, 4096, .inl fh))] := hD
            refine lv_aload_n hx hb dX9_unfolded_139 rfl (lv_at hl 2 rfl) ?_
            refine lv_dup hx hb dX9_unfolded_140 rfl ?_
            refine va_get (D := gD g) (ci := 7) (v := .int (nI pl)) (C := RX9) (T := TX9) (N := 39) hx hb hts hinX9 hown hK hP 1 rfl rfl 35 (by decide) hf255 (fun _ h9 => h9) rfl dX9_unfolded_141 ?_
            refine lv_iconst (v := nI 1) hx hb dX9_unfolded_144 (by decide) ?_
            refine q_iadd (v := nI (pl + 1)) hx hb dX9_unfolded_145 (nI_add pl 1) ?_
            refine va_put (D := gD g) (ci := 7) (v := .int (nI (pl + 1))) (ty := .int) (C := RX9) (T := TX9) (N := 39) hx hb hts hinX9 tyX9 tyX9_ok nmX9 hown hK hP hD hS 1 rfl rfl 35 (by decide) hf255 (fun _ h9 => h9) rfl (by decide +kernel) rfl rfl (Nat.le_of_ble_eq_true rfl) dX9_unfolded_146 (fun H locs hP hD hS => ?_)
            have hP : va_P (gD g) vwCl [(an_, .inl (gB g, 8192, .inl (upd f1 pl (((f i &&& 255).toInt8.toInt32).toInt8.toInt32)))), (mm, .inr (7, v0 :: v1 :: v2 :: v3 :: v4 :: v5 :: v6 :: v7 :: v8 :: v9 :: v10 :: v11 :: v12 :: v13 :: v14 :: v15 :: v16 :: .ref ah_ :: v18 :: v19 :: v20 :: v21 :: v22 :: v23 :: v24 :: v25 :: v26 :: v27 :: v28 :: v29 :: v30 :: v31 :: .int (nI m_targetAt) :: .int (nI m_targetEnd) :: .ref an_ :: .int (nI (pl + 1)) :: v36 :: v37 :: v38 :: [])), (ah_, .inl (gB g, 4096, .inl fh))] H := hP
            have hD : va_D A [(an_, .inl (gB g, 8192, .inl (upd f1 pl (((f i &&& 255).toInt8.toInt32).toInt8.toInt32)))), (mm, .inr (7, v0 :: v1 :: v2 :: v3 :: v4 :: v5 :: v6 :: v7 :: v8 :: v9 :: v10 :: v11 :: v12 :: v13 :: v14 :: v15 :: v16 :: .ref ah_ :: v18 :: v19 :: v20 :: v21 :: v22 :: v23 :: v24 :: v25 :: v26 :: v27 :: v28 :: v29 :: v30 :: v31 :: .int (nI m_targetAt) :: .int (nI m_targetEnd) :: .ref an_ :: .int (nI (pl + 1)) :: v36 :: v37 :: v38 :: [])), (ah_, .inl (gB g, 4096, .inl fh))] := hD
            refine lv_goto (tgt := 10) hx hb dX9_unfolded_149 (by decide) ?_
            exact ih_K10 (i + 1) (upd f1 pl (((f i &&& 255).toInt8.toInt32).toInt8.toInt32)) (pl + 1) (L ++ [f i &&& 255]) (by rw [List.length_append, hpl]; rfl) (by omega) (by omega) (by rw [List.length_append]; show L.length + 1 + m_targetAt ≤ _; omega) (by exact Or.inr (by rw [List.length_append]; exact Nat.le_add_left _ _)) (by subst hpl; exact hasL_snoc hLf (fun j hj => pk_un (by omega)) (pk_us.trans (by rw [b8b8]; exact vis_b hvi))) (by exact vis_snoc hLv hvi) (by (obtain ⟨m, h1, h2⟩ := hE; obtain ⟨m, rfl⟩ : ∃ k, m = k + 1 := ⟨m - 1, by omega⟩; first | exact ⟨m, by omega, pth_step h2 (by omega) (if_neg c41) (if_neg c41) hvi⟩ | exact ⟨m, by omega, pth_step h2 (by omega) ((if_pos c41).trans hesc) (if_pos c41) hvi⟩)) (by omega) _ _ _ (hP.sub [1, 2, 0] rfl) (hD.sub [1, 2, 0] (by decide) rfl) hS (lv_sub hl [2, 0] rfl)
          · skip
            refine lv_iload_n hx hb dX9_unfolded_44 rfl (lv_at hl 0 rfl) ?_
            refine lv_aload_n hx hb dX9_unfolded_45 rfl (lv_at hl 2 rfl) ?_
            refine va_get (D := gD g) (ci := 7) (v := .int (nI m_targetEnd)) (C := RX9) (T := TX9) (N := 39) hx hb hts hinX9 hown hK hP 1 rfl rfl 33 (by decide) hf191 (fun _ h9 => h9) rfl dX9_unfolded_46 ?_
            refine lv_icmp_ge (tgt := 63) hx hb dX9_unfolded_49 (by decide) (fun c49 => ?_) (fun c49 => ?_)
            · skip
              have c49 : m_targetEnd ≤ i + 1 := (nI_leI (a := m_targetEnd) (b := i + 1) (by omega) (by omega)).mp c49
              refine lv_iconst (v := (-1)) hx hb dX9_unfolded_63 (by decide) ?_
              refine lv_istore_n (lv' := [(3, .int (-1)), (1, .int (nI (i + 1))), (2, .int (f i &&& 255)), (0, .ref mm)]) hx hb dX9_unfolded_64 rfl hl (by decide) rfl (fun ls hl => ?_)
              refine lv_iload_n hx hb dX9_unfolded_65 rfl (lv_at hl 1 rfl) ?_
              refine lv_iconst (v := nI 1) hx hb dX9_unfolded_66 (by decide) ?_
              refine q_iadd (v := nI (i + 1 + 1)) hx hb dX9_unfolded_67 (nI_add (i + 1) 1) ?_
              refine lv_aload_n hx hb dX9_unfolded_68 rfl (lv_at hl 3 rfl) ?_
              refine va_get (D := gD g) (ci := 7) (v := .int (nI m_targetEnd)) (C := RX9) (T := TX9) (N := 39) hx hb hts hinX9 hown hK hP 1 rfl rfl 33 (by decide) hf191 (fun _ h9 => h9) rfl dX9_unfolded_69 ?_
              refine lv_icmp_ge (tgt := 88) hx hb dX9_unfolded_72 (by decide) (fun c72 => ?_) (fun c72 => ?_)
              · skip
                have c72 : m_targetEnd ≤ i + 1 + 1 := (nI_leI (a := m_targetEnd) (b := i + 1 + 1) (by omega) (by omega)).mp c72
                refine lv_iconst (v := (-1)) hx hb dX9_unfolded_88 (by decide) ?_
                refine lv_istore (lv' := [(4, .int (-1)), (3, .int (-1)), (1, .int (nI (i + 1))), (2, .int (f i &&& 255)), (0, .ref mm)]) hx hb dX9_unfolded_89 hl (by decide) rfl (fun ls hl => ?_)
                refine lv_iload_n hx hb dX9_unfolded_91 rfl (lv_at hl 1 rfl) ?_
                refine lv_if_lt (tgt := 100) hx hb dX9_unfolded_92 (by decide) (fun _ => ?_) (fun c92 => absurd (by decide) c92)
                refine lv_iconst (v := nI 0) hx hb dX9_unfolded_100 (by decide) ?_
                refine ct_iret (w := [(mm, .inr (7, v0 :: v1 :: v2 :: v3 :: v4 :: v5 :: v6 :: v7 :: v8 :: v9 :: v10 :: v11 :: v12 :: v13 :: v14 :: v15 :: v16 :: .ref ah_ :: v18 :: v19 :: v20 :: v21 :: v22 :: v23 :: v24 :: v25 :: v26 :: v27 :: v28 :: v29 :: v30 :: v31 :: .int (nI m_targetAt) :: .int (nI m_targetEnd) :: .ref an_ :: .int (nI pl) :: v36 :: v37 :: v38 :: [])), (ah_, .inl (gB g, 4096, .inl fh)), (an_, .inl (gB g, 8192, .inl f1))]) hx hb hr rfl hlocks hQ hAe hK (hP.sub [1, 2, 0] rfl) (hD.sub [1, 2, 0] (by decide) rfl) hS (by omega) (by omega) dX9_unfolded_101 ?_
                refine Or.inl (?_)
                exact ⟨f1, pl, rfl, rfl, by (obtain ⟨m, h1, h2⟩ := hE; obtain ⟨m, rfl⟩ : ∃ k, m = k + 1 := ⟨m - 1, by omega⟩; rw [h2, pthL_n (by omega) (by rw [pcd, if_pos c41]; exact esc_N (fun z_ => absurd z_ (by omega)))]; rfl)⟩
              · skip
                have c72 : ¬ (m_targetEnd ≤ i + 1 + 1) := fun z => c72 ((nI_leI (a := m_targetEnd) (b := i + 1 + 1) (by omega) (by omega)).mpr z)
                refine lv_aload_n hx hb dX9_unfolded_75 rfl (lv_at hl 3 rfl) ?_
                refine lv_iload_n hx hb dX9_unfolded_76 rfl (lv_at hl 1 rfl) ?_
                refine lv_iconst (v := nI 1) hx hb dX9_unfolded_77 (by decide) ?_
                refine q_iadd (v := nI (i + 1 + 1)) hx hb dX9_unfolded_78 (nI_add (i + 1) 1) ?_
                refine ct_callV (wr := [(an_, .inl (gB g, 8192, .inl f1))]) hx hb hml hown hts hK hP hD hS hA hG hl.1 (c_headAt l g mm ((v0 : Value)) ((v1 : Value)) ((v2 : Value)) ((v3 : Value)) ((v4 : Value)) ((v5 : Value)) ((v6 : Value)) ((v7 : Value)) ((v8 : Value)) ((v9 : Value)) ((v10 : Value)) ((v11 : Value)) ((v12 : Value)) ((v13 : Value)) ((v14 : Value)) ((v15 : Value)) ((v16 : Value)) ah_ ((v18 : Value)) ((v19 : Value)) ((v20 : Value)) ((v21 : Value)) ((v22 : Value)) ((v23 : Value)) ((v24 : Value)) ((v25 : Value)) ((v26 : Value)) ((v27 : Value)) ((v28 : Value)) ((v29 : Value)) ((v30 : Value)) ((v31 : Value)) ((.int (nI m_targetAt) : Value)) ((.int (nI m_targetEnd) : Value)) ((.ref an_ : Value)) ((.int (nI pl) : Value)) ((v36 : Value)) ((v37 : Value)) ((v38 : Value)) fh f hn (i + 1 + 1) (by omega) (by assumption) (by omega)) (cwV 1 hts gX9_unfolded_X9_headAt rfl rfl rfl (by decide +kernel) ⟨Nat.le_of_ble_eq_true rfl, Nat.le_of_ble_eq_true rfl⟩) (va_recv hK hP (ci := 7) (q0 := 1) rfl rfl) rfl rfl (Nat.le_of_ble_eq_true rfl) dX9_unfolded_79 ⟨show 0 + 0 ≤ 0 by omega, show 0 + 0 ≤ 0 by omega⟩ [1, 2] [0] rfl rfl (by decide) (by decide) (by decide) (fun r_ w_ H locs hp_ hP hD hS => ?_)
                obtain ⟨rfl, rfl⟩ := hp_
                have hP : va_P (gD g) vwCl [(an_, .inl (gB g, 8192, .inl f1)), (mm, .inr (7, v0 :: v1 :: v2 :: v3 :: v4 :: v5 :: v6 :: v7 :: v8 :: v9 :: v10 :: v11 :: v12 :: v13 :: v14 :: v15 :: v16 :: .ref ah_ :: v18 :: v19 :: v20 :: v21 :: v22 :: v23 :: v24 :: v25 :: v26 :: v27 :: v28 :: v29 :: v30 :: v31 :: .int (nI m_targetAt) :: .int (nI m_targetEnd) :: .ref an_ :: .int (nI pl) :: v36 :: v37 :: v38 :: [])), (ah_, .inl (gB g, 4096, .inl fh))] H := hP
                have hD : va_D A [(an_, .inl (gB g, 8192, .inl f1)), (mm, .inr (7, v0 :: v1 :: v2 :: v3 :: v4 :: v5 :: v6 :: v7 :: v8 :: v9 :: v10 :: v11 :: v12 :: v13 :: v14 :: v15 :: v16 :: .ref ah_ :: v18 :: v19 :: v20 :: v21 :: v22 :: v23 :: v24 :: v25 :: v26 :: v27 :: v28 :: v29 :: v30 :: v31 :: .int (nI m_targetAt) :: .int (nI m_targetEnd) :: .ref an_ :: .int (nI pl) :: v36 :: v37 :: v38 :: [])), (ah_, .inl (gB g, 4096, .inl fh))] := hD
                refine W.eq (g2 := F0 m 82 ls [.int (f (i + 1 + 1) &&& 255)]) rfl ?_
                refine ct_callS (wr := [(an_, .inl (gB g, 8192, .inl f1)), (mm, .inr (7, v0 :: v1 :: v2 :: v3 :: v4 :: v5 :: v6 :: v7 :: v8 :: v9 :: v10 :: v11 :: v12 :: v13 :: v14 :: v15 :: v16 :: .ref ah_ :: v18 :: v19 :: v20 :: v21 :: v22 :: v23 :: v24 :: v25 :: v26 :: v27 :: v28 :: v29 :: v30 :: v31 :: .int (nI m_targetAt) :: .int (nI m_targetEnd) :: .ref an_ :: .int (nI pl) :: v36 :: v37 :: v38 :: [])), (ah_, .inl (gB g, 4096, .inl fh))]) hx hb hml hown hts hK hP hD hS hA hG hl.1 (c_mHexa l g (f (i + 1 + 1) &&& 255) ) (va_cwS 1 hts gX9_unfolded_X9_hexadecimal rfl rfl rfl (by decide +kernel) ⟨Nat.le_of_ble_eq_true rfl, Nat.le_of_ble_eq_true rfl⟩) rfl rfl (Nat.le_of_ble_eq_true rfl) dX9_unfolded_82 ⟨show 0 + 0 ≤ 0 by omega, show 0 + 0 ≤ 0 by omega⟩ [] [0, 1, 2] rfl rfl (by decide) (by decide) (by decide) (fun r_ w_ H locs hp_ hP hD hS => ?_)
                obtain ⟨v1_82, rfl, rfl, ev_82⟩ := hp_
                have hP : va_P (gD g) vwCl [(an_, .inl (gB g, 8192, .inl f1)), (mm, .inr (7, v0 :: v1 :: v2 :: v3 :: v4 :: v5 :: v6 :: v7 :: v8 :: v9 :: v10 :: v11 :: v12 :: v13 :: v14 :: v15 :: v16 :: .ref ah_ :: v18 :: v19 :: v20 :: v21 :: v22 :: v23 :: v24 :: v25 :: v26 :: v27 :: v28 :: v29 :: v30 :: v31 :: .int (nI m_targetAt) :: .int (nI m_targetEnd) :: .ref an_ :: .int (nI pl) :: v36 :: v37 :: v38 :: [])), (ah_, .inl (gB g, 4096, .inl fh))] H := hP
                have hD : va_D A [(an_, .inl (gB g, 8192, .inl f1)), (mm, .inr (7, v0 :: v1 :: v2 :: v3 :: v4 :: v5 :: v6 :: v7 :: v8 :: v9 :: v10 :: v11 :: v12 :: v13 :: v14 :: v15 :: v16 :: .ref ah_ :: v18 :: v19 :: v20 :: v21 :: v22 :: v23 :: v24 :: v25 :: v26 :: v27 :: v28 :: v29 :: v30 :: v31 :: .int (nI m_targetAt) :: .int (nI m_targetEnd) :: .ref an_ :: .int (nI pl) :: v36 :: v37 :: v38 :: [])), (ah_, .inl (gB g, 4096, .inl fh))] := hD
                have ev_82 : v1_82 = hexM (f (i + 1 + 1) &&& 255) := ev_82
                refine W.eq (g2 := F0 m 85 ls [.int v1_82]) rfl ?_
                refine q_top (v := hexM (f (i + 2) &&& 255)) ev_82 ?_
                refine lv_goto (tgt := 89) hx hb dX9_unfolded_85 (by decide) ?_
                refine lv_istore (lv' := [(4, .int (hexM (f (i + 2) &&& 255))), (3, .int (-1)), (1, .int (nI (i + 1))), (2, .int (f i &&& 255)), (0, .ref mm)]) hx hb dX9_unfolded_89 hl (by decide) rfl (fun ls hl => ?_)
                refine lv_iload_n hx hb dX9_unfolded_91 rfl (lv_at hl 1 rfl) ?_
                refine lv_if_lt (tgt := 100) hx hb dX9_unfolded_92 (by decide) (fun _ => ?_) (fun c92 => absurd (by decide) c92)
                refine lv_iconst (v := nI 0) hx hb dX9_unfolded_100 (by decide) ?_
                refine ct_iret (w := [(mm, .inr (7, v0 :: v1 :: v2 :: v3 :: v4 :: v5 :: v6 :: v7 :: v8 :: v9 :: v10 :: v11 :: v12 :: v13 :: v14 :: v15 :: v16 :: .ref ah_ :: v18 :: v19 :: v20 :: v21 :: v22 :: v23 :: v24 :: v25 :: v26 :: v27 :: v28 :: v29 :: v30 :: v31 :: .int (nI m_targetAt) :: .int (nI m_targetEnd) :: .ref an_ :: .int (nI pl) :: v36 :: v37 :: v38 :: [])), (ah_, .inl (gB g, 4096, .inl fh)), (an_, .inl (gB g, 8192, .inl f1))]) hx hb hr rfl hlocks hQ hAe hK (hP.sub [1, 2, 0] rfl) (hD.sub [1, 2, 0] (by decide) rfl) hS (by omega) (by omega) dX9_unfolded_101 ?_
                refine Or.inl (?_)
                exact ⟨f1, pl, rfl, rfl, by (obtain ⟨m, h1, h2⟩ := hE; obtain ⟨m, rfl⟩ : ∃ k, m = k + 1 := ⟨m - 1, by omega⟩; rw [h2, pthL_n (by omega) (by rw [pcd, if_pos c41]; exact esc_N (fun z_ => absurd z_ (by omega)))]; rfl)⟩
            · skip
              have c49 : ¬ (m_targetEnd ≤ i + 1) := fun z => c49 ((nI_leI (a := m_targetEnd) (b := i + 1) (by omega) (by omega)).mpr z)
              refine lv_aload_n hx hb dX9_unfolded_52 rfl (lv_at hl 2 rfl) ?_
              refine lv_iload_n hx hb dX9_unfolded_53 rfl (lv_at hl 0 rfl) ?_
              refine ct_callV (wr := [(an_, .inl (gB g, 8192, .inl f1))]) hx hb hml hown hts hK hP hD hS hA hG hl.1 (c_headAt l g mm ((v0 : Value)) ((v1 : Value)) ((v2 : Value)) ((v3 : Value)) ((v4 : Value)) ((v5 : Value)) ((v6 : Value)) ((v7 : Value)) ((v8 : Value)) ((v9 : Value)) ((v10 : Value)) ((v11 : Value)) ((v12 : Value)) ((v13 : Value)) ((v14 : Value)) ((v15 : Value)) ((v16 : Value)) ah_ ((v18 : Value)) ((v19 : Value)) ((v20 : Value)) ((v21 : Value)) ((v22 : Value)) ((v23 : Value)) ((v24 : Value)) ((v25 : Value)) ((v26 : Value)) ((v27 : Value)) ((v28 : Value)) ((v29 : Value)) ((v30 : Value)) ((v31 : Value)) ((.int (nI m_targetAt) : Value)) ((.int (nI m_targetEnd) : Value)) ((.ref an_ : Value)) ((.int (nI pl) : Value)) ((v36 : Value)) ((v37 : Value)) ((v38 : Value)) fh f hn (i + 1) (by omega) (by assumption) (by omega)) (cwV 1 hts gX9_unfolded_X9_headAt rfl rfl rfl (by decide +kernel) ⟨Nat.le_of_ble_eq_true rfl, Nat.le_of_ble_eq_true rfl⟩) (va_recv hK hP (ci := 7) (q0 := 1) rfl rfl) rfl rfl (Nat.le_of_ble_eq_true rfl) dX9_unfolded_54 ⟨show 0 + 0 ≤ 0 by omega, show 0 + 0 ≤ 0 by omega⟩ [1, 2] [0] rfl rfl (by decide) (by decide) (by decide) (fun r_ w_ H locs hp_ hP hD hS => ?_)
              obtain ⟨rfl, rfl⟩ := hp_
              have hP : va_P (gD g) vwCl [(an_, .inl (gB g, 8192, .inl f1)), (mm, .inr (7, v0 :: v1 :: v2 :: v3 :: v4 :: v5 :: v6 :: v7 :: v8 :: v9 :: v10 :: v11 :: v12 :: v13 :: v14 :: v15 :: v16 :: .ref ah_ :: v18 :: v19 :: v20 :: v21 :: v22 :: v23 :: v24 :: v25 :: v26 :: v27 :: v28 :: v29 :: v30 :: v31 :: .int (nI m_targetAt) :: .int (nI m_targetEnd) :: .ref an_ :: .int (nI pl) :: v36 :: v37 :: v38 :: [])), (ah_, .inl (gB g, 4096, .inl fh))] H := hP
              have hD : va_D A [(an_, .inl (gB g, 8192, .inl f1)), (mm, .inr (7, v0 :: v1 :: v2 :: v3 :: v4 :: v5 :: v6 :: v7 :: v8 :: v9 :: v10 :: v11 :: v12 :: v13 :: v14 :: v15 :: v16 :: .ref ah_ :: v18 :: v19 :: v20 :: v21 :: v22 :: v23 :: v24 :: v25 :: v26 :: v27 :: v28 :: v29 :: v30 :: v31 :: .int (nI m_targetAt) :: .int (nI m_targetEnd) :: .ref an_ :: .int (nI pl) :: v36 :: v37 :: v38 :: [])), (ah_, .inl (gB g, 4096, .inl fh))] := hD
              refine W.eq (g2 := F0 m 57 ls [.int (f (i + 1) &&& 255)]) rfl ?_
              refine ct_callS (wr := [(an_, .inl (gB g, 8192, .inl f1)), (mm, .inr (7, v0 :: v1 :: v2 :: v3 :: v4 :: v5 :: v6 :: v7 :: v8 :: v9 :: v10 :: v11 :: v12 :: v13 :: v14 :: v15 :: v16 :: .ref ah_ :: v18 :: v19 :: v20 :: v21 :: v22 :: v23 :: v24 :: v25 :: v26 :: v27 :: v28 :: v29 :: v30 :: v31 :: .int (nI m_targetAt) :: .int (nI m_targetEnd) :: .ref an_ :: .int (nI pl) :: v36 :: v37 :: v38 :: [])), (ah_, .inl (gB g, 4096, .inl fh))]) hx hb hml hown hts hK hP hD hS hA hG hl.1 (c_mHexa l g (f (i + 1) &&& 255) ) (va_cwS 1 hts gX9_unfolded_X9_hexadecimal rfl rfl rfl (by decide +kernel) ⟨Nat.le_of_ble_eq_true rfl, Nat.le_of_ble_eq_true rfl⟩) rfl rfl (Nat.le_of_ble_eq_true rfl) dX9_unfolded_57 ⟨show 0 + 0 ≤ 0 by omega, show 0 + 0 ≤ 0 by omega⟩ [] [0, 1, 2] rfl rfl (by decide) (by decide) (by decide) (fun r_ w_ H locs hp_ hP hD hS => ?_)
              obtain ⟨v1_57, rfl, rfl, ev_57⟩ := hp_
              have hP : va_P (gD g) vwCl [(an_, .inl (gB g, 8192, .inl f1)), (mm, .inr (7, v0 :: v1 :: v2 :: v3 :: v4 :: v5 :: v6 :: v7 :: v8 :: v9 :: v10 :: v11 :: v12 :: v13 :: v14 :: v15 :: v16 :: .ref ah_ :: v18 :: v19 :: v20 :: v21 :: v22 :: v23 :: v24 :: v25 :: v26 :: v27 :: v28 :: v29 :: v30 :: v31 :: .int (nI m_targetAt) :: .int (nI m_targetEnd) :: .ref an_ :: .int (nI pl) :: v36 :: v37 :: v38 :: [])), (ah_, .inl (gB g, 4096, .inl fh))] H := hP
              have hD : va_D A [(an_, .inl (gB g, 8192, .inl f1)), (mm, .inr (7, v0 :: v1 :: v2 :: v3 :: v4 :: v5 :: v6 :: v7 :: v8 :: v9 :: v10 :: v11 :: v12 :: v13 :: v14 :: v15 :: v16 :: .ref ah_ :: v18 :: v19 :: v20 :: v21 :: v22 :: v23 :: v24 :: v25 :: v26 :: v27 :: v28 :: v29 :: v30 :: v31 :: .int (nI m_targetAt) :: .int (nI m_targetEnd) :: .ref an_ :: .int (nI pl) :: v36 :: v37 :: v38 :: [])), (ah_, .inl (gB g, 4096, .inl fh))] := hD
              have ev_57 : v1_57 = hexM (f (i + 1) &&& 255) := ev_57
              refine W.eq (g2 := F0 m 60 ls [.int v1_57]) rfl ?_
              refine q_top (v := hexM (f (i + 1) &&& 255)) ev_57 ?_
              refine lv_goto (tgt := 64) hx hb dX9_unfolded_60 (by decide) ?_
              refine lv_istore_n (lv' := [(3, .int (hexM (f (i + 1) &&& 255))), (1, .int (nI (i + 1))), (2, .int (f i &&& 255)), (0, .ref mm)]) hx hb dX9_unfolded_64 rfl hl (by decide) rfl (fun ls hl => ?_)
              refine lv_iload_n hx hb dX9_unfolded_65 rfl (lv_at hl 1 rfl) ?_
              refine lv_iconst (v := nI 1) hx hb dX9_unfolded_66 (by decide) ?_
              refine q_iadd (v := nI (i + 1 + 1)) hx hb dX9_unfolded_67 (nI_add (i + 1) 1) ?_
              refine lv_aload_n hx hb dX9_unfolded_68 rfl (lv_at hl 3 rfl) ?_
              refine va_get (D := gD g) (ci := 7) (v := .int (nI m_targetEnd)) (C := RX9) (T := TX9) (N := 39) hx hb hts hinX9 hown hK hP 1 rfl rfl 33 (by decide) hf191 (fun _ h9 => h9) rfl dX9_unfolded_69 ?_
              refine lv_icmp_ge (tgt := 88) hx hb dX9_unfolded_72 (by decide) (fun c72 => ?_) (fun c72 => ?_)
              · skip
                have c72 : m_targetEnd ≤ i + 1 + 1 := (nI_leI (a := m_targetEnd) (b := i + 1 + 1) (by omega) (by omega)).mp c72
                refine lv_iconst (v := (-1)) hx hb dX9_unfolded_88 (by decide) ?_
                refine lv_istore (lv' := [(4, .int (-1)), (3, .int (hexM (f (i + 1) &&& 255))), (1, .int (nI (i + 1))), (2, .int (f i &&& 255)), (0, .ref mm)]) hx hb dX9_unfolded_89 hl (by decide) rfl (fun ls hl => ?_)
                refine lv_iload_n hx hb dX9_unfolded_91 rfl (lv_at hl 1 rfl) ?_
                refine lv_if_lt (tgt := 100) hx hb dX9_unfolded_92 (by decide) (fun c92 => ?_) (fun c92 => ?_)
                · skip
                  refine lv_iconst (v := nI 0) hx hb dX9_unfolded_100 (by decide) ?_
                  refine ct_iret (w := [(mm, .inr (7, v0 :: v1 :: v2 :: v3 :: v4 :: v5 :: v6 :: v7 :: v8 :: v9 :: v10 :: v11 :: v12 :: v13 :: v14 :: v15 :: v16 :: .ref ah_ :: v18 :: v19 :: v20 :: v21 :: v22 :: v23 :: v24 :: v25 :: v26 :: v27 :: v28 :: v29 :: v30 :: v31 :: .int (nI m_targetAt) :: .int (nI m_targetEnd) :: .ref an_ :: .int (nI pl) :: v36 :: v37 :: v38 :: [])), (ah_, .inl (gB g, 4096, .inl fh)), (an_, .inl (gB g, 8192, .inl f1))]) hx hb hr rfl hlocks hQ hAe hK (hP.sub [1, 2, 0] rfl) (hD.sub [1, 2, 0] (by decide) rfl) hS (by omega) (by omega) dX9_unfolded_101 ?_
                  refine Or.inl (?_)
                  exact ⟨f1, pl, rfl, rfl, by (obtain ⟨m, h1, h2⟩ := hE; obtain ⟨m, rfl⟩ : ∃ k, m = k + 1 := ⟨m - 1, by omega⟩; rw [h2, pthL_n (by omega) (by rw [pcd, if_pos c41]; exact esc_N (fun z_ => absurd z_ (by omega)))]; rfl)⟩
                · skip
                  refine lv_iload hx hb dX9_unfolded_95 (lv_at hl 0 rfl) ?_
                  refine lv_if_ge (tgt := 102) hx hb dX9_unfolded_97 (by decide) (fun c97 => absurd c97 (by decide)) (fun _ => ?_)
                  refine lv_iconst (v := nI 0) hx hb dX9_unfolded_100 (by decide) ?_
                  refine ct_iret (w := [(mm, .inr (7, v0 :: v1 :: v2 :: v3 :: v4 :: v5 :: v6 :: v7 :: v8 :: v9 :: v10 :: v11 :: v12 :: v13 :: v14 :: v15 :: v16 :: .ref ah_ :: v18 :: v19 :: v20 :: v21 :: v22 :: v23 :: v24 :: v25 :: v26 :: v27 :: v28 :: v29 :: v30 :: v31 :: .int (nI m_targetAt) :: .int (nI m_targetEnd) :: .ref an_ :: .int (nI pl) :: v36 :: v37 :: v38 :: [])), (ah_, .inl (gB g, 4096, .inl fh)), (an_, .inl (gB g, 8192, .inl f1))]) hx hb hr rfl hlocks hQ hAe hK (hP.sub [1, 2, 0] rfl) (hD.sub [1, 2, 0] (by decide) rfl) hS (by omega) (by omega) dX9_unfolded_101 ?_
                  refine Or.inl (?_)
                  exact ⟨f1, pl, rfl, rfl, by (obtain ⟨m, h1, h2⟩ := hE; obtain ⟨m, rfl⟩ : ∃ k, m = k + 1 := ⟨m - 1, by omega⟩; rw [h2, pthL_n (by omega) (by rw [pcd, if_pos c41]; exact esc_N (fun z_ => absurd z_ (by omega)))]; rfl)⟩
              · skip
                have c72 : ¬ (m_targetEnd ≤ i + 1 + 1) := fun z => c72 ((nI_leI (a := m_targetEnd) (b := i + 1 + 1) (by omega) (by omega)).mpr z)
                refine lv_aload_n hx hb dX9_unfolded_75 rfl (lv_at hl 3 rfl) ?_
                refine lv_iload_n hx hb dX9_unfolded_76 rfl (lv_at hl 1 rfl) ?_
                refine lv_iconst (v := nI 1) hx hb dX9_unfolded_77 (by decide) ?_
                refine q_iadd (v := nI (i + 1 + 1)) hx hb dX9_unfolded_78 (nI_add (i + 1) 1) ?_
                refine ct_callV (wr := [(an_, .inl (gB g, 8192, .inl f1))]) hx hb hml hown hts hK hP hD hS hA hG hl.1 (c_headAt l g mm ((v0 : Value)) ((v1 : Value)) ((v2 : Value)) ((v3 : Value)) ((v4 : Value)) ((v5 : Value)) ((v6 : Value)) ((v7 : Value)) ((v8 : Value)) ((v9 : Value)) ((v10 : Value)) ((v11 : Value)) ((v12 : Value)) ((v13 : Value)) ((v14 : Value)) ((v15 : Value)) ((v16 : Value)) ah_ ((v18 : Value)) ((v19 : Value)) ((v20 : Value)) ((v21 : Value)) ((v22 : Value)) ((v23 : Value)) ((v24 : Value)) ((v25 : Value)) ((v26 : Value)) ((v27 : Value)) ((v28 : Value)) ((v29 : Value)) ((v30 : Value)) ((v31 : Value)) ((.int (nI m_targetAt) : Value)) ((.int (nI m_targetEnd) : Value)) ((.ref an_ : Value)) ((.int (nI pl) : Value)) ((v36 : Value)) ((v37 : Value)) ((v38 : Value)) fh f hn (i + 1 + 1) (by omega) (by assumption) (by omega)) (cwV 1 hts gX9_unfolded_X9_headAt rfl rfl rfl (by decide +kernel) ⟨Nat.le_of_ble_eq_true rfl, Nat.le_of_ble_eq_true rfl⟩) (va_recv hK hP (ci := 7) (q0 := 1) rfl rfl) rfl rfl (Nat.le_of_ble_eq_true rfl) dX9_unfolded_79 ⟨show 0 + 0 ≤ 0 by omega, show 0 + 0 ≤ 0 by omega⟩ [1, 2] [0] rfl rfl (by decide) (by decide) (by decide) (fun r_ w_ H locs hp_ hP hD hS => ?_)
                obtain ⟨rfl, rfl⟩ := hp_
                have hP : va_P (gD g) vwCl [(an_, .inl (gB g, 8192, .inl f1)), (mm, .inr (7, v0 :: v1 :: v2 :: v3 :: v4 :: v5 :: v6 :: v7 :: v8 :: v9 :: v10 :: v11 :: v12 :: v13 :: v14 :: v15 :: v16 :: .ref ah_ :: v18 :: v19 :: v20 :: v21 :: v22 :: v23 :: v24 :: v25 :: v26 :: v27 :: v28 :: v29 :: v30 :: v31 :: .int (nI m_targetAt) :: .int (nI m_targetEnd) :: .ref an_ :: .int (nI pl) :: v36 :: v37 :: v38 :: [])), (ah_, .inl (gB g, 4096, .inl fh))] H := hP
                have hD : va_D A [(an_, .inl (gB g, 8192, .inl f1)), (mm, .inr (7, v0 :: v1 :: v2 :: v3 :: v4 :: v5 :: v6 :: v7 :: v8 :: v9 :: v10 :: v11 :: v12 :: v13 :: v14 :: v15 :: v16 :: .ref ah_ :: v18 :: v19 :: v20 :: v21 :: v22 :: v23 :: v24 :: v25 :: v26 :: v27 :: v28 :: v29 :: v30 :: v31 :: .int (nI m_targetAt) :: .int (nI m_targetEnd) :: .ref an_ :: .int (nI pl) :: v36 :: v37 :: v38 :: [])), (ah_, .inl (gB g, 4096, .inl fh))] := hD
                refine W.eq (g2 := F0 m 82 ls [.int (f (i + 1 + 1) &&& 255)]) rfl ?_
                refine ct_callS (wr := [(an_, .inl (gB g, 8192, .inl f1)), (mm, .inr (7, v0 :: v1 :: v2 :: v3 :: v4 :: v5 :: v6 :: v7 :: v8 :: v9 :: v10 :: v11 :: v12 :: v13 :: v14 :: v15 :: v16 :: .ref ah_ :: v18 :: v19 :: v20 :: v21 :: v22 :: v23 :: v24 :: v25 :: v26 :: v27 :: v28 :: v29 :: v30 :: v31 :: .int (nI m_targetAt) :: .int (nI m_targetEnd) :: .ref an_ :: .int (nI pl) :: v36 :: v37 :: v38 :: [])), (ah_, .inl (gB g, 4096, .inl fh))]) hx hb hml hown hts hK hP hD hS hA hG hl.1 (c_mHexa l g (f (i + 1 + 1) &&& 255) ) (va_cwS 1 hts gX9_unfolded_X9_hexadecimal rfl rfl rfl (by decide +kernel) ⟨Nat.le_of_ble_eq_true rfl, Nat.le_of_ble_eq_true rfl⟩) rfl rfl (Nat.le_of_ble_eq_true rfl) dX9_unfolded_82 ⟨show 0 + 0 ≤ 0 by omega, show 0 + 0 ≤ 0 by omega⟩ [] [0, 1, 2] rfl rfl (by decide) (by decide) (by decide) (fun r_ w_ H locs hp_ hP hD hS => ?_)
                obtain ⟨v1_82, rfl, rfl, ev_82⟩ := hp_
                have hP : va_P (gD g) vwCl [(an_, .inl (gB g, 8192, .inl f1)), (mm, .inr (7, v0 :: v1 :: v2 :: v3 :: v4 :: v5 :: v6 :: v7 :: v8 :: v9 :: v10 :: v11 :: v12 :: v13 :: v14 :: v15 :: v16 :: .ref ah_ :: v18 :: v19 :: v20 :: v21 :: v22 :: v23 :: v24 :: v25 :: v26 :: v27 :: v28 :: v29 :: v30 :: v31 :: .int (nI m_targetAt) :: .int (nI m_targetEnd) :: .ref an_ :: .int (nI pl) :: v36 :: v37 :: v38 :: [])), (ah_, .inl (gB g, 4096, .inl fh))] H := hP
                have hD : va_D A [(an_, .inl (gB g, 8192, .inl f1)), (mm, .inr (7, v0 :: v1 :: v2 :: v3 :: v4 :: v5 :: v6 :: v7 :: v8 :: v9 :: v10 :: v11 :: v12 :: v13 :: v14 :: v15 :: v16 :: .ref ah_ :: v18 :: v19 :: v20 :: v21 :: v22 :: v23 :: v24 :: v25 :: v26 :: v27 :: v28 :: v29 :: v30 :: v31 :: .int (nI m_targetAt) :: .int (nI m_targetEnd) :: .ref an_ :: .int (nI pl) :: v36 :: v37 :: v38 :: [])), (ah_, .inl (gB g, 4096, .inl fh))] := hD
                have ev_82 : v1_82 = hexM (f (i + 1 + 1) &&& 255) := ev_82
                refine W.eq (g2 := F0 m 85 ls [.int v1_82]) rfl ?_
                refine q_top (v := hexM (f (i + 2) &&& 255)) ev_82 ?_
                refine lv_goto (tgt := 89) hx hb dX9_unfolded_85 (by decide) ?_
                refine lv_istore (lv' := [(4, .int (hexM (f (i + 2) &&& 255))), (3, .int (hexM (f (i + 1) &&& 255))), (1, .int (nI (i + 1))), (2, .int (f i &&& 255)), (0, .ref mm)]) hx hb dX9_unfolded_89 hl (by decide) rfl (fun ls hl => ?_)
                refine lv_iload_n hx hb dX9_unfolded_91 rfl (lv_at hl 1 rfl) ?_
                refine lv_if_lt (tgt := 100) hx hb dX9_unfolded_92 (by decide) (fun c92 => ?_) (fun c92 => ?_)
                · skip
                  refine lv_iconst (v := nI 0) hx hb dX9_unfolded_100 (by decide) ?_
                  refine ct_iret (w := [(mm, .inr (7, v0 :: v1 :: v2 :: v3 :: v4 :: v5 :: v6 :: v7 :: v8 :: v9 :: v10 :: v11 :: v12 :: v13 :: v14 :: v15 :: v16 :: .ref ah_ :: v18 :: v19 :: v20 :: v21 :: v22 :: v23 :: v24 :: v25 :: v26 :: v27 :: v28 :: v29 :: v30 :: v31 :: .int (nI m_targetAt) :: .int (nI m_targetEnd) :: .ref an_ :: .int (nI pl) :: v36 :: v37 :: v38 :: [])), (ah_, .inl (gB g, 4096, .inl fh)), (an_, .inl (gB g, 8192, .inl f1))]) hx hb hr rfl hlocks hQ hAe hK (hP.sub [1, 2, 0] rfl) (hD.sub [1, 2, 0] (by decide) rfl) hS (by omega) (by omega) dX9_unfolded_101 ?_
                  refine Or.inl (?_)
                  exact ⟨f1, pl, rfl, rfl, by (obtain ⟨m, h1, h2⟩ := hE; obtain ⟨m, rfl⟩ : ∃ k, m = k + 1 := ⟨m - 1, by omega⟩; rw [h2, pthL_n (by omega) (by rw [pcd, if_pos c41]; exact esc_N (fun _ => by first | exact Or.inl c92 | exact Or.inr (Int32.not_le.mp c97)))]; rfl)⟩
                · skip
                  refine lv_iload hx hb dX9_unfolded_95 (lv_at hl 0 rfl) ?_
                  refine lv_if_ge (tgt := 102) hx hb dX9_unfolded_97 (by decide) (fun c97 => ?_) (fun c97 => ?_)
                  · skip
                    have c97 : ¬ hexM (f (i + 2) &&& 255) < 0 := Int32.not_lt.mpr c97
                    have hil : i + 2 < e1 := esc_len hF (by omega) (by omega) (fun _ => c92) (by omega) c97 (by omega)
                    have hesc : escF f i e1 = nI 16 * hexM (f (i + 1) &&& 255) + hexM (f (i + 2) &&& 255) := esc_M hil c92 c97
                    refine lv_bipush (v := nI 16) hx hb dX9_unfolded_102 (by decide) ?_
                    refine lv_iload_n hx hb dX9_unfolded_104 rfl (lv_at hl 1 rfl) ?_
                    refine q_imul (v := (nI 16) * (hexM (f (i + 1) &&& 255))) hx hb dX9_unfolded_105 (rfl) ?_
                    refine lv_iload hx hb dX9_unfolded_106 (lv_at hl 0 rfl) ?_
                    refine q_iadd (v := ((nI 16) * (hexM (f (i + 1) &&& 255))) + (hexM (f (i + 2) &&& 255))) hx hb dX9_unfolded_108 (rfl) ?_
                    refine lv_istore_n (lv' := [(2, .int (((nI 16) * (hexM (f (i + 1) &&& 255))) + (hexM (f (i + 2) &&& 255)))), (4, .int (hexM (f (i + 2) &&& 255))), (3, .int (hexM (f (i + 1) &&& 255))), (1, .int (nI (i + 1))), (0, .ref mm)]) hx hb dX9_unfolded_109 rfl hl (by decide) rfl (fun ls hl => ?_)
                    refine lv_iload_n hx hb dX9_unfolded_110 rfl (lv_at hl 0 rfl) ?_
                    refine lv_bipush (v := nI 33) hx hb dX9_unfolded_111 (by decide) ?_
                    refine lv_icmp_lt (tgt := 122) hx hb dX9_unfolded_113 (by decide) (fun c113 => ?_) (fun c113 => ?_)
                    · skip
                      refine lv_iconst (v := nI 0) hx hb dX9_unfolded_122 (by decide) ?_
                      refine ct_iret (w := [(mm, .inr (7, v0 :: v1 :: v2 :: v3 :: v4 :: v5 :: v6 :: v7 :: v8 :: v9 :: v10 :: v11 :: v12 :: v13 :: v14 :: v15 :: v16 :: .ref ah_ :: v18 :: v19 :: v20 :: v21 :: v22 :: v23 :: v24 :: v25 :: v26 :: v27 :: v28 :: v29 :: v30 :: v31 :: .int (nI m_targetAt) :: .int (nI m_targetEnd) :: .ref an_ :: .int (nI pl) :: v36 :: v37 :: v38 :: [])), (ah_, .inl (gB g, 4096, .inl fh)), (an_, .inl (gB g, 8192, .inl f1))]) hx hb hr rfl hlocks hQ hAe hK (hP.sub [1, 2, 0] rfl) (hD.sub [1, 2, 0] (by decide) rfl) hS (by omega) (by omega) dX9_unfolded_123 ?_
                      refine Or.inl (?_)
                      exact ⟨f1, pl, rfl, rfl, by (obtain ⟨m, h1, h2⟩ := hE; obtain ⟨m, rfl⟩ : ∃ k, m = k + 1 := ⟨m - 1, by omega⟩; rw [h2, pthL_n (by omega) (by rw [pcd, if_pos c41]; (intro z_; rw [hesc] at z_; first | exact z_.1 c113 | exact z_.2 (Int32.not_le.mp c119)))]; rfl)⟩
                    · skip
                      refine lv_iload_n hx hb dX9_unfolded_116 rfl (lv_at hl 0 rfl) ?_
                      refine lv_bipush (v := nI 126) hx hb dX9_unfolded_117 (by decide) ?_
                      refine lv_icmp_le (tgt := 124) hx hb dX9_unfolded_119 (by decide) (fun c119 => ?_) (fun c119 => ?_)
                      · skip
                        refine lv_iload_n hx hb dX9_unfolded_124 rfl (lv_at hl 3 rfl) ?_
                        refine lv_iconst (v := nI 2) hx hb dX9_unfolded_125 (by decide) ?_
                        refine q_iadd (v := nI (i + 1 + 2)) hx hb dX9_unfolded_126 (nI_add (i + 1) 2) ?_
                        refine lv_istore_n (lv' := [(1, .int (nI (i + 1 + 2))), (2, .int (((nI 16) * (hexM (f (i + 1) &&& 255))) + (hexM (f (i + 2) &&& 255)))), (4, .int (hexM (f (i + 2) &&& 255))), (3, .int (hexM (f (i + 1) &&& 255))), (0, .ref mm)]) hx hb dX9_unfolded_127 rfl hl (by decide) rfl (fun ls hl => ?_)
                        have hvi : pVis (((nI 16) * (hexM (f (i + 1) &&& 255))) + (hexM (f (i + 2) &&& 255))) := ⟨c113, Int32.not_lt.mpr c119⟩
                        refine lv_aload_n hx hb dX9_unfolded_128 rfl (lv_at hl 4 rfl) ?_
                        refine va_get (D := gD g) (ci := 7) (v := .ref an_) (C := RX9) (T := TX9) (N := 39) hx hb hts hinX9 hown hK hP 1 rfl rfl 34 (by decide) hf43 (fun _ h9 => h9) rfl dX9_unfolded_129 ?_
                        refine lv_aload_n hx hb dX9_unfolded_132 rfl (lv_at hl 4 rfl) ?_
                        refine va_get (D := gD g) (ci := 7) (v := .int (nI pl)) (C := RX9) (T := TX9) (N := 39) hx hb hts hinX9 hown hK hP 1 rfl rfl 35 (by decide) hf255 (fun _ h9 => h9) rfl dX9_unfolded_133 ?_
                        refine lv_iload_n hx hb dX9_unfolded_136 rfl (lv_at hl 1 rfl) ?_
                        refine lv_i2b (v := (((nI 16) * (hexM (f (i + 1) &&& 255))) + (hexM (f (i + 2) &&& 255))).toInt8.toInt32) hx hb dX9_unfolded_137 (rfl) ?_
                        refine q_bast hx hb hK hP hD hS 0 rfl (pl) rfl (by omega) (by omega) dX9_unfolded_138 (fun H locs hP hD hS => ?_)
                        have hP : va_P (gD g) vwCl [(an_, .inl (gB g, 8192, .inl (upd f1 pl (((((nI 16) * (hexM (f (i + 1) &&& 255))) + (hexM (f (i + 2) &&& 255))).toInt8.toInt32).toInt8.toInt32)))), (mm, .inr (7, v0 :: v1 :: v2 :: v3 :: v4 :: v5 :: v6 :: v7 :: v8 :: v9 :: v10 :: v11 :: v12 :: v13 :: v14 :: v15 :: v16 :: .ref ah_ :: v18 :: v19 :: v20 :: v21 :: v22 :: v23 :: v24 :: v25 :: v26 :: v27 :: v28 :: v29 :: v30 :: v31 :: .int (nI m_targetAt) :: .int (nI m_targetEnd) :: .ref an_ :: .int (nI pl) :: v36 :: v37 :: v38 :: [])), (ah_, .inl (gB g, 4096, .inl fh))] H := hP
                        have hD : va_D A [(an_, .inl (gB g, 8192, .inl (upd f1 pl (((((nI 16) * (hexM (f (i + 1) &&& 255))) + (hexM (f (i + 2) &&& 255))).toInt8.toInt32).toInt8.toInt32)))), (mm, .inr (7, v0 :: v1 :: v2 :: v3 :: v4 :: v5 :: v6 :: v7 :: v8 :: v9 :: v10 :: v11 :: v12 :: v13 :: v14 :: v15 :: v16 :: .ref ah_ :: v18 :: v19 :: v20 :: v21 :: v22 :: v23 :: v24 :: v25 :: v26 :: v27 :: v28 :: v29 :: v30 :: v31 :: .int (nI m_targetAt) :: .int (nI m_targetEnd) :: .ref an_ :: .int (nI pl) :: v36 :: v37 :: v38 :: [])), (ah_, .inl (gB g, 4096, .inl fh))] := hD
                        refine lv_aload_n hx hb dX9_unfolded_139 rfl (lv_at hl 4 rfl) ?_
                        refine lv_dup hx hb dX9_unfolded_140 rfl ?_
                        refine va_get (D := gD g) (ci := 7) (v := .int (nI pl)) (C := RX9) (T := TX9) (N := 39) hx hb hts hinX9 hown hK hP 1 rfl rfl 35 (by decide) hf255 (fun _ h9 => h9) rfl dX9_unfolded_141 ?_
                        refine lv_iconst (v := nI 1) hx hb dX9_unfolded_144 (by decide) ?_
                        refine q_iadd (v := nI (pl + 1)) hx hb dX9_unfolded_145 (nI_add pl 1) ?_
                        refine va_put (D := gD g) (ci := 7) (v := .int (nI (pl + 1))) (ty := .int) (C := RX9) (T := TX9) (N := 39) hx hb hts hinX9 tyX9 tyX9_ok nmX9 hown hK hP hD hS 1 rfl rfl 35 (by decide) hf255 (fun _ h9 => h9) rfl (by decide +kernel) rfl rfl (Nat.le_of_ble_eq_true rfl) dX9_unfolded_146 (fun H locs hP hD hS => ?_)
                        have hP : va_P (gD g) vwCl [(an_, .inl (gB g, 8192, .inl (upd f1 pl (((((nI 16) * (hexM (f (i + 1) &&& 255))) + (hexM (f (i + 2) &&& 255))).toInt8.toInt32).toInt8.toInt32)))), (mm, .inr (7, v0 :: v1 :: v2 :: v3 :: v4 :: v5 :: v6 :: v7 :: v8 :: v9 :: v10 :: v11 :: v12 :: v13 :: v14 :: v15 :: v16 :: .ref ah_ :: v18 :: v19 :: v20 :: v21 :: v22 :: v23 :: v24 :: v25 :: v26 :: v27 :: v28 :: v29 :: v30 :: v31 :: .int (nI m_targetAt) :: .int (nI m_targetEnd) :: .ref an_ :: .int (nI (pl + 1)) :: v36 :: v37 :: v38 :: [])), (ah_, .inl (gB g, 4096, .inl fh))] H := hP
                        have hD : va_D A [(an_, .inl (gB g, 8192, .inl (upd f1 pl (((((nI 16) * (hexM (f (i + 1) &&& 255))) + (hexM (f (i + 2) &&& 255))).toInt8.toInt32).toInt8.toInt32)))), (mm, .inr (7, v0 :: v1 :: v2 :: v3 :: v4 :: v5 :: v6 :: v7 :: v8 :: v9 :: v10 :: v11 :: v12 :: v13 :: v14 :: v15 :: v16 :: .ref ah_ :: v18 :: v19 :: v20 :: v21 :: v22 :: v23 :: v24 :: v25 :: v26 :: v27 :: v28 :: v29 :: v30 :: v31 :: .int (nI m_targetAt) :: .int (nI m_targetEnd) :: .ref an_ :: .int (nI (pl + 1)) :: v36 :: v37 :: v38 :: [])), (ah_, .inl (gB g, 4096, .inl fh))] := hD
                        refine lv_goto (tgt := 10) hx hb dX9_unfolded_149 (by decide) ?_
                        exact ih_K10 (i + 1 + 2) (upd f1 pl (((((nI 16) * (hexM (f (i + 1) &&& 255))) + (hexM (f (i + 2) &&& 255))).toInt8.toInt32).toInt8.toInt32)) (pl + 1) (L ++ [((nI 16) * (hexM (f (i + 1) &&& 255))) + (hexM (f (i + 2) &&& 255))]) (by rw [List.length_append, hpl]; rfl) (by omega) (by omega) (by rw [List.length_append]; show L.length + 1 + m_targetAt ≤ _; omega) (by exact Or.inr (by rw [List.length_append]; exact Nat.le_add_left _ _)) (by subst hpl; exact hasL_snoc hLf (fun j hj => pk_un (by omega)) (pk_us.trans (by rw [b8b8]; exact vis_b hvi))) (by exact vis_snoc hLv hvi) (by (obtain ⟨m, h1, h2⟩ := hE; obtain ⟨m, rfl⟩ : ∃ k, m = k + 1 := ⟨m - 1, by omega⟩; first | exact ⟨m, by omega, pth_step h2 (by omega) (if_neg c41) (if_neg c41) hvi⟩ | exact ⟨m, by omega, pth_step h2 (by omega) ((if_pos c41).trans hesc) (if_pos c41) hvi⟩)) (by omega) _ _ _ (hP.sub [1, 2, 0] rfl) (hD.sub [1, 2, 0] (by decide) rfl) hS (lv_sub hl [4, 0] rfl)
                      · skip
                        refine lv_iconst (v := nI 0) hx hb dX9_unfolded_122 (by decide) ?_
                        refine ct_iret (w := [(mm, .inr (7, v0 :: v1 :: v2 :: v3 :: v4 :: v5 :: v6 :: v7 :: v8 :: v9 :: v10 :: v11 :: v12 :: v13 :: v14 :: v15 :: v16 :: .ref ah_ :: v18 :: v19 :: v20 :: v21 :: v22 :: v23 :: v24 :: v25 :: v26 :: v27 :: v28 :: v29 :: v30 :: v31 :: .int (nI m_targetAt) :: .int (nI m_targetEnd) :: .ref an_ :: .int (nI pl) :: v36 :: v37 :: v38 :: [])), (ah_, .inl (gB g, 4096, .inl fh)), (an_, .inl (gB g, 8192, .inl f1))]) hx hb hr rfl hlocks hQ hAe hK (hP.sub [1, 2, 0] rfl) (hD.sub [1, 2, 0] (by decide) rfl) hS (by omega) (by omega) dX9_unfolded_123 ?_
                        refine Or.inl (?_)
                        exact ⟨f1, pl, rfl, rfl, by (obtain ⟨m, h1, h2⟩ := hE; obtain ⟨m, rfl⟩ : ∃ k, m = k + 1 := ⟨m - 1, by omega⟩; rw [h2, pthL_n (by omega) (by rw [pcd, if_pos c41]; (intro z_; rw [hesc] at z_; first | exact z_.1 c113 | exact z_.2 (Int32.not_le.mp c119)))]; rfl)⟩
                  · skip
                    refine lv_iconst (v := nI 0) hx hb dX9_unfolded_100 (by decide) ?_
                    refine ct_iret (w := [(mm, .inr (7, v0 :: v1 :: v2 :: v3 :: v4 :: v5 :: v6 :: v7 :: v8 :: v9 :: v10 :: v11 :: v12 :: v13 :: v14 :: v15 :: v16 :: .ref ah_ :: v18 :: v19 :: v20 :: v21 :: v22 :: v23 :: v24 :: v25 :: v26 :: v27 :: v28 :: v29 :: v30 :: v31 :: .int (nI m_targetAt) :: .int (nI m_targetEnd) :: .ref an_ :: .int (nI pl) :: v36 :: v37 :: v38 :: [])), (ah_, .inl (gB g, 4096, .inl fh)), (an_, .inl (gB g, 8192, .inl f1))]) hx hb hr rfl hlocks hQ hAe hK (hP.sub [1, 2, 0] rfl) (hD.sub [1, 2, 0] (by decide) rfl) hS (by omega) (by omega) dX9_unfolded_101 ?_
                    refine Or.inl (?_)
                    exact ⟨f1, pl, rfl, rfl, by (obtain ⟨m, h1, h2⟩ := hE; obtain ⟨m, rfl⟩ : ∃ k, m = k + 1 := ⟨m - 1, by omega⟩; rw [h2, pthL_n (by omega) (by rw [pcd, if_pos c41]; exact esc_N (fun _ => by first | exact Or.inl c92 | exact Or.inr (Int32.not_le.mp c97)))]; rfl)⟩
  exact K10 ((e1 - m_targetAt) + 1) m_targetAt fn 0 ([]) (by rfl) (by omega) (by omega) (by show 0 + m_targetAt ≤ m_targetAt; omega) (by exact Or.inl rfl) (by exact fun j hj => absurd hj (Nat.not_lt_zero _)) (by exact fun j hj => absurd hj (Nat.not_lt_zero _)) (by exact ⟨e1 + 1, by omega, by simp⟩) (Nat.lt_succ_self _) _ _ _ (hP.sub [0, 1, 2] rfl) (hD.sub [0, 1, 2] (by decide) rfl) hS (lv_sub hl [1, 0] rfl)
