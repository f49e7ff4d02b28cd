def REd (xe en : Nat) : Prop := (xe = 0 ∧ en = 0) ∨ (xe = 1 ∧ 0 < en)
def OTd (ot me : Nat) : Prop := (ot = 1 ∧ me = 2) ∨ (ot = 0 ∧ ¬ me = 2)
def RKd (ma mS mE xa xz hn : Nat) : Prop := (0 < ma → xa = mS ∧ xz = mE) ∧ (0 < ma → mS ≤ mE ∧ mE ≤ hn)
theorem mark_T {f : Nat → Int32} {v : Int32} {mS mE : Nat} (h10 : mE = mS + 10) (h0 : f mS &&& 255 = nI 34) (h9 : f (mE - 1) &&& 255 = nI 34) (h : ∀ j, j < 8 → f (mS + 1 + j) &&& 255 = mkC v (j + 1)) : pMark f v 1 mS mE := by
  refine ⟨rfl, Or.inl ⟨h10, fun i hi => ?_⟩⟩
  by_cases hz : i = 0
  · subst hz; rw [Nat.add_zero, h0]; rfl
  by_cases h9' : i = 9
  · subst h9'; rw [show mS + 9 = mE - 1 by omega, h9]; rfl
  · have h2 := h (i - 1) (by omega)
    rw [show mS + 1 + (i - 1) = mS + i by omega, show i - 1 + 1 = i by omega] at h2
    exact h2
theorem mark_F {f : Nat → Int32} {v : Int32} {mS mE : Nat} (h : pMark f v 1 mS mE) (hs : ¬ pText f mS mE 16) : mE = mS + 10 ∧ f mS &&& 255 = nI 34 ∧ f (mE - 1) &&& 255 = nI 34 ∧ ∀ j, j < 8 → f (mS + 1 + j) &&& 255 = mkC v (j + 1) := by
  rcases h.2 with ⟨h1, h2⟩ | h2
  · refine ⟨h1, h2 0 (by decide), ?_, fun j hj => ?_⟩
    · have h3 := h2 9 (by decide)
      rw [show mS + 9 = mE - 1 by omega] at h3
      exact h3
    · have h3 := h2 (j + 1) (by omega)
      rw [show mS + (j + 1) = mS + 1 + j by omega] at h3
      exact h3
  · exact absurd h2 hs
theorem RB_ok {le : Nat} {bo : Int32} {xb xg xl : Nat} (h : RB le bo xb xg xl) (hle : ¬ 1 < le) (hxb : xb = 0) (hxg : xg = 0) (hxl : xl ≤ 65536) : ¬ bo < 0 ∧ ¬ nI 65536 < bo := by
  rcases (show le = 0 ∨ le = 1 by omega) with z | z
  · rw [(h.1 z).2.2.2]; decide
  · rcases h.2 z with w | w | w
    · omega
    · omega
    · rw [w.2.2]
      exact ⟨nI_pos (by omega), fun q => absurd ((nI_ltI (by omega) (by omega)).mp q) (by omega)⟩
theorem RB_b {le : Nat} {bo : Int32} {xb xg xl : Nat} (h : RB le bo xb xg xl) (hle : ¬ 1 < le) (hxb : ¬ xb = 0) : bo < 0 := by
  rcases (show le = 0 ∨ le = 1 by omega) with z | z
  · exact absurd (h.1 z).1 hxb
  · rcases h.2 z with w | w | w
    · exact w.2
    · exact absurd w.1 hxb
    · exact absurd w.1 hxb
theorem RB_g {le : Nat} {bo : Int32} {xb xg xl : Nat} (h : RB le bo xb xg xl) (hle : ¬ 1 < le) (hxb : xb = 0) (hxg : ¬ xg = 0) : ¬ bo < 0 ∧ nI 65536 < bo := by
  rcases (show le = 0 ∨ le = 1 by omega) with z | z
  · exact absurd (h.1 z).2.1 hxg
  · rcases h.2 z with w | w | w
    · omega
    · exact ⟨w.2.2.1, w.2.2.2⟩
    · exact absurd w.2.1 hxg
theorem finL_u {L N M : List Int32} (h : finL L N) (k : finL L M) : N = M := by
  rcases h with h | h
  · rcases k with k | k
    · rw [h.2, k.2]
    · exact absurd k.1 h.1
  · rcases k with k | k
    · exact absurd h.1 k.1
    · rw [h.2, k.2]
theorem pJ_n {fb : Nat → Int32} {fa me nw tS tE ho en le ma mS mE cl ke c0 k e0 tk d : Nat} {bo : Int32} {fe fi : Nat → Int32} (h : pJ fb (fa, me, nw, tS, tE, ho, en, le, bo, ma, mS, mE, cl, ke) c0 fe fi k e0 tk) (hj : jdK fa me nw ho en le bo = d) (hd : ¬ d = 0) : k = d := by
  rcases h with ⟨h1, -⟩ | ⟨h1, -⟩
  · exact h1.trans hj
  · exact absurd (hj.symm.trans h1) hd
theorem pJ_0 {fb : Nat → Int32} {fa me nw tS tE ho en le ma mS mE cl ke c0 k e0 tk : Nat} {bo : Int32} {fe fi : Nat → Int32} (h : pJ fb (fa, me, nw, tS, tE, ho, en, le, bo, ma, mS, mE, cl, ke) c0 fe fi k e0 tk) (hj : jdK fa me nw ho en le bo = 0) : ∃ e1, pFind fb (nI 63) tS tE e1 ∧ ((pthL fb e1 (e1 + 1) tS = none ∧ k = 2) ∨ ∃ L N, pthL fb e1 (e1 + 1) tS = some L ∧ finL L N ∧ (((∀ t, t < c0 → ¬ nmD fe t N) ∧ k = 3) ∨ (e0 < c0 ∧ nmD fe e0 N ∧ (∀ t, t < e0 → ¬ nmD fe t N) ∧ ((¬ pWhole fe fi e0 ∧ k = 7) ∨ (pWhole fe fi e0 ∧ ((pMark fb (be4 fe (e0 * 64 + 56)) ma mS mE ∧ k = 1) ∨ (¬ pMark fb (be4 fe (e0 * 64 + 56)) ma mS mE ∧ k = 0 ∧ tk = typL N))))))) := by
  rcases h with ⟨h1, h2⟩ | ⟨-, h2⟩
  · exact absurd (h1.trans hj) h2
  · exact h2
theorem pJ_x {α : Type} {P : List Int32 → Prop} {R : Prop} {X : Option (List Int32)} {L N : List Int32} (h : (X = none ∧ R) ∨ ∃ L N, X = some L ∧ finL L N ∧ P N) (hL : X = some L) (hf : finL L N) : P N := by
  rcases h with ⟨h1, -⟩ | ⟨L', N', h1, h2, h3⟩
  · rw [hL] at h1; cases h1
  · rw [hL] at h1
    cases h1
    rw [finL_u hf h2]
    exact h3
theorem nm_u {fe : Nat → Int32} {N : List Int32} {t e : Nat} (h1 : nmD fe t N) (h2 : ∀ u, u < t → ¬ nmD fe u N) (g1 : nmD fe e N) (g2 : ∀ u, u < e → ¬ nmD fe u N) : t = e := by
  rcases Nat.lt_trichotomy t e with z | z | z
  · exact absurd h1 (g2 t z)
  · exact z
  · exact absurd g1 (h2 e z)

set_option maxHeartbeats 4000000 in
set_option maxRecDepth 100000 in
theorem c_fileOf (l : Launch) (g : GT) (mm : Nat) (v0 : Value) (v1 : Value) (v2 : Value) (v3 : Value) (v4 : Value) (am_ : Nat) (v7 : Value) (v8 : Value) (v9 : Value) (v10 : Value) (v11 : Value) (v12 : Value) (v13 : Value) (v14 : Value) (v15 : Value) (v16 : Value) (v17 : Value) (v18 : Value) (v19 : Value) (v20 : Value) (v21 : Value) (v22 : Value) (v23 : Value) (v24 : Value) (v25 : Value) (v26 : Value) (v27 : Value) (v28 : Value) (v29 : Value) (v30 : Value) (v31 : Value) (v32 : Value) (v33 : Value) (an_ : Nat) (v36 : Value) (v37 : Value) (v38 : Value) (m_pathLength : Nat) (fm : Nat → Int32) (pn : Nat → Int32) (fe : Nat → Int32) (Nl : List Int32) (c0 : Nat) (hc0 : c0 ≤ 64) (hNM : ∀ t, t < c0 → ∀ j, j < 48 → fm (48 * t + j) = fe (t * 64 + j)) (hfe : sb_Fit fe) (hNf : hasL pn 0 Nl) (hNs : m_pathLength = Nl.length) (hNv : ∀ j, j < Nl.length → pVis (Nl.getD j 0)) (hNl : Nl.length ≤ 4200) : CT l g yX9_fileOf wsX9_fileOf ({ frames := 0, cells := 0, slots := 0, locals := 0 } : Room) [.ref mm] [(mm, .inr (7, v0 :: v1 :: v2 :: v3 :: v4 :: .int (nI c0) :: .ref am_ :: v7 :: v8 :: v9 :: v10 :: v11 :: v12 :: v13 :: v14 :: v15 :: v16 :: v17 :: v18 :: v19 :: v20 :: v21 :: v22 :: v23 :: v24 :: v25 :: v26 :: v27 :: v28 :: v29 :: v30 :: v31 :: v32 :: v33 :: .ref an_ :: .int (nI m_pathLength) :: v36 :: v37 :: v38 :: [])), (am_, .inl (gB g, 3072, .inl fm)), (an_, .inl (gB g, 8192, .inl pn))] (fun r w => (r = some (.int (-1)) ∧ w = [(mm, .inr (7, v0 :: v1 :: v2 :: v3 :: v4 :: .int (nI c0) :: .ref am_ :: v7 :: v8 :: v9 :: v10 :: v11 :: v12 :: v13 :: v14 :: v15 :: v16 :: v17 :: v18 :: v19 :: v20 :: v21 :: v22 :: v23 :: v24 :: v25 :: v26 :: v27 :: v28 :: v29 :: v30 :: v31 :: v32 :: v33 :: .ref an_ :: .int (nI m_pathLength) :: v36 :: v37 :: v38 :: [])), (am_, .inl (gB g, 3072, .inl fm)), (an_, .inl (gB g, 8192, .inl pn))] ∧ (∀ t, t < c0 → ¬ nmD fe t Nl)) ∨ (∃ (t1 : Nat), r = some (.int (nI t1)) ∧ w = [(mm, .inr (7, v0 :: v1 :: v2 :: v3 :: v4 :: .int (nI c0) :: .ref am_ :: v7 :: v8 :: v9 :: v10 :: v11 :: v12 :: v13 :: v14 :: v15 :: v16 :: v17 :: v18 :: v19 :: v20 :: v21 :: v22 :: v23 :: v24 :: v25 :: v26 :: v27 :: v28 :: v29 :: v30 :: v31 :: v32 :: v33 :: .ref an_ :: .int (nI m_pathLength) :: v36 :: v37 :: v38 :: [])), (am_, .inl (gB g, 3072, .inl fm)), (an_, .inl (gB g, 8192, .inl pn))] ∧ (t1 < c0) ∧ (nmD fe t1 Nl) ∧ (∀ t, t < t1 → ¬ nmD fe t Nl))) (0) (0) := by
  refine ct_of (cc := cX9_fileOf) (maxL := 4) (ret := (some .int)) (by decide) rfl (Nat.le_of_ble_eq_true rfl) ?_
  intro p e s m args below meth c A Q hx hb hr hml hown hts hlocks hnam hAe hQ hA hG hK hP hD hS ls hl
  have hl : lv_has ls 4 [(0, .ref mm)] := hl
  have hown : s.vm.findClass RX9 = some m.cls := hown
  have hinX9 : ∀ w ∈ u_ws RX9 TX9 39, w ∈ wsX9_fileOf := by decide +kernel
  have hf18 := hts (.fieldLink RX9 18 "RequestReaderModel" "names" "[B") (by decide +kernel)
  have hf43 := hts (.fieldLink RX9 43 "RequestReaderModel" "path" "[B") (by decide +kernel)
  have hf86 := hts (.fieldLink RX9 86 "RequestReaderModel" "fileCount" "I") (by decide +kernel)
  have hf255 := hts (.fieldLink RX9 255 "RequestReaderModel" "pathLength" "I") (by decide +kernel)
  refine lv_iconst (v := nI 0) hx hb dX9_fileOf_0 (by decide) ?_
  refine lv_istore_n (lv' := [(1, .int (nI 0)), (0, .ref mm)]) hx hb dX9_fileOf_1 rfl hl (by decide) rfl (fun ls hl => ?_)
  have K2 : ∀ (N_ : Nat) (t : Nat), (t ≤ c0) → (∀ u, u < t → ¬ nmD fe u Nl) → (c0 - t) < N_ → ∀ (H : Heap) (locs : List Loc) (ls : Array Slot), va_P (gD g) vwCl [(mm, .inr (7, v0 :: v1 :: v2 :: v3 :: v4 :: .int (nI c0) :: .ref am_ :: v7 :: v8 :: v9 :: v10 :: v11 :: v12 :: v13 :: v14 :: v15 :: v16 :: v17 :: v18 :: v19 :: v20 :: v21 :: v22 :: v23 :: v24 :: v25 :: v26 :: v27 :: v28 :: v29 :: v30 :: v31 :: v32 :: v33 :: .ref an_ :: .int (nI m_pathLength) :: v36 :: v37 :: v38 :: [])), (am_, .inl (gB g, 3072, .inl fm)), (an_, .inl (gB g, 8192, .inl pn))] H → va_D A [(mm, .inr (7, v0 :: v1 :: v2 :: v3 :: v4 :: .int (nI c0) :: .ref am_ :: v7 :: v8 :: v9 :: v10 :: v11 :: v12 :: v13 :: v14 :: v15 :: v16 :: v17 :: v18 :: v19 :: v20 :: v21 :: v22 :: v23 :: v24 :: v25 :: v26 :: v27 :: v28 :: v29 :: v30 :: v31 :: v32 :: v33 :: .ref an_ :: .int (nI m_pathLength) :: v36 :: v37 :: v38 :: [])), (am_, .inl (gB g, 3072, .inl fm)), (an_, .inl (gB g, 8192, .inl pn))] → va_S A s.heap H locs → lv_has ls 4 [(0, .ref mm), (1, .int (nI t))] → W p l e ({ frames := 0, cells := 0, slots := 0, locals := 0 } : Room) s m args below meth c H locs (0) (0) Q (F0 m 2 ls []) := by
    intro N_
    induction N_ with
    | zero => intro t ht hall hm_; exact absurd hm_ (Nat.not_lt_zero _)
    | succ N_ ih_K2 =>
      intro t ht hall hm_ H locs ls hP hD hS hl
      refine lv_iload_n hx hb dX9_fileOf_2 rfl (lv_at hl 1 rfl) ?_
      refine lv_aload_n hx hb dX9_fileOf_3 rfl (lv_at hl 0 rfl) ?_
      refine va_get (D := gD g) (ci := 7) (v := .int (nI c0)) (C := RX9) (T := TX9) (N := 39) hx hb hts hinX9 hown hK hP 0 rfl rfl 5 (by decide) hf86 (fun _ h9 => h9) rfl dX9_fileOf_4 ?_
      refine lv_icmp_ge (tgt := 89) hx hb dX9_fileOf_7 (by decide) (fun c7 => ?_) (fun c7 => ?_)
      · skip
        have c7 : c0 ≤ t := (nI_leI (a := c0) (b := t) (by omega) (by omega)).mp c7
        refine lv_iconst (v := (-1)) hx hb dX9_fileOf_89 (by decide) ?_
        refine ct_iret (w := [(mm, .inr (7, v0 :: v1 :: v2 :: v3 :: v4 :: .int (nI c0) :: .ref am_ :: v7 :: v8 :: v9 :: v10 :: v11 :: v12 :: v13 :: v14 :: v15 :: v16 :: v17 :: v18 :: v19 :: v20 :: v21 :: v22 :: v23 :: v24 :: v25 :: v26 :: v27 :: v28 :: v29 :: v30 :: v31 :: v32 :: v33 :: .ref an_ :: .int (nI m_pathLength) :: v36 :: v37 :: v38 :: [])), (am_, .inl (gB g, 3072, .inl fm)), (an_, .inl (gB g, 8192, .inl pn))]) hx hb hr rfl hlocks hQ hAe hK (hP.sub [0, 1, 2] rfl) (hD.sub [0, 1, 2] (by decide) rfl) hS (by omega) (by omega) dX9_fileOf_90 ?_
        refine Or.inl (?_)
        exact ⟨rfl, rfl, by first | exact fun u hu => hall u (by omega) | exact fun u hu z => absurd z.1 (by omega)⟩
      · skip
        have c7 : ¬ (c0 ≤ t) := fun z => c7 ((nI_leI (a := c0) (b := t) (by omega) (by omega)).mpr z)
        refine lv_aload_n hx hb dX9_fileOf_10 rfl (lv_at hl 0 rfl) ?_
        refine va_get (D := gD g) (ci := 7) (v := .int (nI m_pathLength)) (C := RX9) (T := TX9) (N := 39) hx hb hts hinX9 hown hK hP 0 rfl rfl 35 (by decide) hf255 (fun _ h9 => h9) rfl dX9_fileOf_11 ?_
        refine lv_bipush (v := nI 48) hx hb dX9_fileOf_14 (by decide) ?_
        refine lv_icmp_ge (tgt := 89) hx hb dX9_fileOf_16 (by decide) (fun c16 => ?_) (fun c16 => ?_)
        · skip
          have c16 : 48 ≤ m_pathLength := (nI_leI (a := 48) (b := m_pathLength) (by omega) (by omega)).mp c16
          refine lv_iconst (v := (-1)) hx hb dX9_fileOf_89 (by decide) ?_
          refine ct_iret (w := [(mm, .inr (7, v0 :: v1 :: v2 :: v3 :: v4 :: .int (nI c0) :: .ref am_ :: v7 :: v8 :: v9 :: v10 :: v11 :: v12 :: v13 :: v14 :: v15 :: v16 :: v17 :: v18 :: v19 :: v20 :: v21 :: v22 :: v23 :: v24 :: v25 :: v26 :: v27 :: v28 :: v29 :: v30 :: v31 :: v32 :: v33 :: .ref an_ :: .int (nI m_pathLength) :: v36 :: v37 :: v38 :: [])), (am_, .inl (gB g, 3072, .inl fm)), (an_, .inl (gB g, 8192, .inl pn))]) hx hb hr rfl hlocks hQ hAe hK (hP.sub [0, 1, 2] rfl) (hD.sub [0, 1, 2] (by decide) rfl) hS (by omega) (by omega) dX9_fileOf_90 ?_
          refine Or.inl (?_)
          exact ⟨rfl, rfl, by first | exact fun u hu => hall u (by omega) | exact fun u hu z => absurd z.1 (by omega)⟩
        · skip
          have c16 : ¬ (48 ≤ m_pathLength) := fun z => c16 ((nI_leI (a := 48) (b := m_pathLength) (by omega) (by omega)).mpr z)
          refine lv_iconst (v := nI 1) hx hb dX9_fileOf_19 (by decide) ?_
          refine lv_istore_n (lv' := [(2, .int (nI 1)), (0, .ref mm), (1, .int (nI t))]) hx hb dX9_fileOf_20 rfl hl (by decide) rfl (fun ls hl => ?_)
          refine lv_iconst (v := nI 0) hx hb dX9_fileOf_21 (by decide) ?_
          refine lv_istore_n (lv' := [(3, .int (nI 0)), (2, .int (nI 1)), (0, .ref mm), (1, .int (nI t))]) hx hb dX9_fileOf_22 rfl hl (by decide) rfl (fun ls hl => ?_)
          have K23 : ∀ (N_ : Nat) (i3 : Nat) (sm : Nat), (i3 ≤ 48) → ((sm = 1 ∧ ∀ j, j < i3 → fe (t * 64 + j) &&& 255 = if j < Nl.length then Nl.getD j 0 &&& 255 else nI 0) ∨ (sm = 0 ∧ ∃ j, j < 48 ∧ ¬ (fe (t * 64 + j) &&& 255 = if j < Nl.length then Nl.getD j 0 &&& 255 else nI 0))) → (48 - i3) < N_ → ∀ (H : Heap) (locs : List Loc) (ls : Array Slot), va_P (gD g) vwCl [(mm, .inr (7, v0 :: v1 :: v2 :: v3 :: v4 :: .int (nI c0) :: .ref am_ :: v7 :: v8 :: v9 :: v10 :: v11 :: v12 :: v13 :: v14 :: v15 :: v16 :: v17 :: v18 :: v19 :: v20 :: v21 :: v22 :: v23 :: v24 :: v25 :: v26 :: v27 :: v28 :: v29 :: v30 :: v31 :: v32 :: v33 :: .ref an_ :: .int (nI m_pathLength) :: v36 :: v37 :: v38 :: [])), (am_, .inl (gB g, 3072, .inl fm)), (an_, .inl (gB g, 8192, .inl pn))] H → va_D A [(mm, .inr (7, v0 :: v1 :: v2 :: v3 :: v4 :: .int (nI c0) :: .ref am_ :: v7 :: v8 :: v9 :: v10 :: v11 :: v12 :: v13 :: v14 :: v15 :: v16 :: v17 :: v18 :: v19 :: v20 :: v21 :: v22 :: v23 :: v24 :: v25 :: v26 :: v27 :: v28 :: v29 :: v30 :: v31 :: v32 :: v33 :: .ref an_ :: .int (nI m_pathLength) :: v36 :: v37 :: v38 :: [])), (am_, .inl (gB g, 3072, .inl fm)), (an_, .inl (gB g, 8192, .inl pn))] → va_S A s.heap H locs → lv_has ls 4 [(0, .ref mm), (1, .int (nI t)), (2, .int (nI sm)), (3, .int (nI i3))] → W p l e ({ frames := 0, cells := 0, slots := 0, locals := 0 } : Room) s m args below meth c H locs (0) (0) Q (F0 m 23 ls []) := by
            intro N_
            induction N_ with
            | zero => intro i3 sm hi3 hsm hm_; exact absurd hm_ (Nat.not_lt_zero _)
            | succ N_ ih_K23 =>
              intro i3 sm hi3 hsm hm_ H locs ls hP hD hS hl
              have hsm1 : sm ≤ 1 := by rcases hsm with z_ | z_ <;> omega
              refine lv_iload_n hx hb dX9_fileOf_23 rfl (lv_at hl 3 rfl) ?_
              refine lv_bipush (v := nI 48) hx hb dX9_fileOf_24 (by decide) ?_
              refine lv_icmp_ge (tgt := 77) hx hb dX9_fileOf_26 (by decide) (fun c26 => ?_) (fun c26 => ?_)
              · skip
                have c26 : 48 ≤ i3 := (nI_leI (a := 48) (b := i3) (by omega) (by omega)).mp c26
                refine lv_iload_n hx hb dX9_fileOf_77 rfl (lv_at hl 2 rfl) ?_
                refine lv_if_eq (tgt := 83) hx hb dX9_fileOf_78 (by decide) (fun c78 => ?_) (fun c78 => ?_)
                · skip
                  have c78 : sm = 0 := (nI_eq (a := sm) (b := 0) (by omega) (by omega)).mp c78
                  refine lv_iinc (v := nI (t + 1)) (lv' := [(1, .int (nI (t + 1))), (0, .ref mm), (2, .int (nI sm)), (3, .int (nI i3))]) hx hb dX9_fileOf_83 hl (k := 1) rfl (nI_inc t 1) (by decide) rfl (fun ls hl => ?_)
                  refine lv_goto (tgt := 2) hx hb dX9_fileOf_86 (by decide) ?_
                  exact ih_K2 (t + 1) (by omega) (by exact lt_s hall (fun z => hsm.elim (fun w => absurd w.1 (by omega)) (fun w => w.2.elim (fun j hj => hj.2 (z.2 j hj.1))))) (by omega) _ _ _ (hP.sub [0, 1, 2] rfl) (hD.sub [0, 1, 2] (by decide) rfl) hS (lv_sub hl [1, 0] rfl)
                · skip
                  have c78 : ¬ (sm = 0) := fun z => c78 ((nI_eq (a := sm) (b := 0) (by omega) (by omega)).mpr z)
                  refine lv_iload_n hx hb dX9_fileOf_81 rfl (lv_at hl 1 rfl) ?_
                  refine ct_iret (w := [(mm, .inr (7, v0 :: v1 :: v2 :: v3 :: v4 :: .int (nI c0) :: .ref am_ :: v7 :: v8 :: v9 :: v10 :: v11 :: v12 :: v13 :: v14 :: v15 :: v16 :: v17 :: v18 :: v19 :: v20 :: v21 :: v22 :: v23 :: v24 :: v25 :: v26 :: v27 :: v28 :: v29 :: v30 :: v31 :: v32 :: v33 :: .ref an_ :: .int (nI m_pathLength) :: v36 :: v37 :: v38 :: [])), (am_, .inl (gB g, 3072, .inl fm)), (an_, .inl (gB g, 8192, .inl pn))]) hx hb hr rfl hlocks hQ hAe hK (hP.sub [0, 1, 2] rfl) (hD.sub [0, 1, 2] (by decide) rfl) hS (by omega) (by omega) dX9_fileOf_82 ?_
                  refine Or.inr ((?_))
                  exact ⟨t, rfl, rfl, by omega, by exact ⟨by omega, fun j hj => (hsm.elim (fun w => w.2 j (by omega)) (fun w => absurd w.1 (by omega)))⟩, by exact hall⟩
              · skip
                have c26 : ¬ (48 ≤ i3) := fun z => c26 ((nI_leI (a := 48) (b := i3) (by omega) (by omega)).mpr z)
                refine lv_iload_n hx hb dX9_fileOf_29 rfl (lv_at hl 2 rfl) ?_
                refine lv_if_eq (tgt := 69) hx hb dX9_fileOf_30 (by decide) (fun c30 => ?_) (fun c30 => ?_)
                · skip
                  have c30 : sm = 0 := (nI_eq (a := sm) (b := 0) (by omega) (by omega)).mp c30
                  refine lv_iconst (v := nI 0) hx hb dX9_fileOf_69 (by decide) ?_
                  refine lv_istore_n (lv' := [(2, .int (nI 0)), (0, .ref mm), (1, .int (nI t)), (3, .int (nI i3))]) hx hb dX9_fileOf_70 rfl hl (by decide) rfl (fun ls hl => ?_)
                  refine lv_iinc (v := nI (i3 + 1)) (lv' := [(3, .int (nI (i3 + 1))), (2, .int (nI 0)), (0, .ref mm), (1, .int (nI t))]) hx hb dX9_fileOf_71 hl (k := 3) rfl (nI_inc i3 1) (by decide) rfl (fun ls hl => ?_)
                  refine lv_goto (tgt := 23) hx hb dX9_fileOf_74 (by decide) ?_
                  exact ih_K23 (i3 + 1) 0 (by omega) (by first | exact Or.inl ⟨rfl, lt_s (hsm.elim (fun z => z.2) (fun z => absurd z.1 c30)) (((raw_eq2 (hfe _) (vis_fit (hNv _ (by omega)))).mp c62).trans (if_pos (by omega)).symm)⟩ | exact Or.inl ⟨rfl, lt_s (hsm.elim (fun z => z.2) (fun z => absurd z.1 c30)) (((ra hfe (by decide)).mp c62).trans (if_neg (by omega)).symm)⟩ | exact Or.inr ⟨rfl, i3, by omega, fun z => c62 ((raw_eq2 (hfe _) (vis_fit (hNv _ (by omega)))).mpr (z.trans (if_pos (by omega))))⟩ | exact Or.inr ⟨rfl, i3, by omega, fun z => c62 ((ra hfe (by decide)).mpr (z.trans (if_neg (by omega))))⟩ | exact Or.inr ⟨rfl, hsm.elim (fun z => absurd z.1 (by omega)) (fun z => z.2)⟩) (by omega) _ _ _ (hP.sub [0, 1, 2] rfl) (hD.sub [0, 1, 2] (by decide) rfl) hS (lv_sub hl [2, 3, 1, 0] rfl)
                · skip
                  have c30 : ¬ (sm = 0) := fun z => c30 ((nI_eq (a := sm) (b := 0) (by omega) (by omega)).mpr z)
                  refine lv_aload_n hx hb dX9_fileOf_33 rfl (lv_at hl 0 rfl) ?_
                  refine va_get (D := gD g) (ci := 7) (v := .ref am_) (C := RX9) (T := TX9) (N := 39) hx hb hts hinX9 hown hK hP 0 rfl rfl 6 (by decide) hf18 (fun _ h9 => h9) rfl dX9_fileOf_34 ?_
                  refine lv_bipush (v := nI 48) hx hb dX9_fileOf_37 (by decide) ?_
                  refine lv_iload_n hx hb dX9_fileOf_39 rfl (lv_at hl 1 rfl) ?_
                  refine q_imul (v := nI (48 * t)) hx hb dX9_fileOf_40 (pk_mul 48 t) ?_
                  refine lv_iload_n hx hb dX9_fileOf_41 rfl (lv_at hl 3 rfl) ?_
                  refine q_iadd (v := nI (48 * t + i3)) hx hb dX9_fileOf_42 (nI_add (48 * t) i3) ?_
                  refine q_bald hx hb hK hP 1 rfl (48 * t + i3) rfl (by omega) (by omega) dX9_fileOf_43 ?_
                  refine q_top (v := fe (t * 64 + i3)) (hNM t (by omega) i3 (by omega)) ?_
                  refine lv_iload_n hx hb dX9_fileOf_44 rfl (lv_at hl 3 rfl) ?_
                  refine lv_aload_n hx hb dX9_fileOf_45 rfl (lv_at hl 0 rfl) ?_
                  refine va_get (D := gD g) (ci := 7) (v := .int (nI m_pathLength)) (C := RX9) (T := TX9) (N := 39) hx hb hts hinX9 hown hK hP 0 rfl rfl 35 (by decide) hf255 (fun _ h9 => h9) rfl dX9_fileOf_46 ?_
                  refine lv_icmp_ge (tgt := 61) hx hb dX9_fileOf_49 (by decide) (fun c49 => ?_) (fun c49 => ?_)
                  · skip
                    have c49 : m_pathLength ≤ i3 := (nI_leI (a := m_pathLength) (b := i3) (by omega) (by omega)).mp c49
                    refine lv_iconst (v := nI 0) hx hb dX9_fileOf_61 (by decide) ?_
                    refine lv_icmp_ne (tgt := 69) hx hb dX9_fileOf_62 (by decide) (fun c62 => ?_) (fun c62 => ?_)
                    · skip
                      refine lv_iconst (v := nI 0) hx hb dX9_fileOf_69 (by decide) ?_
                      refine lv_istore_n (lv' := [(2, .int (nI 0)), (0, .ref mm), (1, .int (nI t)), (3, .int (nI i3))]) hx hb dX9_fileOf_70 rfl hl (by decide) rfl (fun ls hl => ?_)
                      refine lv_iinc (v := nI (i3 + 1)) (lv' := [(3, .int (nI (i3 + 1))), (2, .int (nI 0)), (0, .ref mm), (1, .int (nI t))]) hx hb dX9_fileOf_71 hl (k := 3) rfl (nI_inc i3 1) (by decide) rfl (fun ls hl => ?_)
                      refine lv_goto (tgt := 23) hx hb dX9_fileOf_74 (by decide) ?_
                      exact ih_K23 (i3 + 1) 0 (by omega) (by first | exact Or.inl ⟨rfl, lt_s (hsm.elim (fun z => z.2) (fun z => absurd z.1 c30)) (((raw_eq2 (hfe _) (vis_fit (hNv _ (by omega)))).mp c62).trans (if_pos (by omega)).symm)⟩ | exact Or.inl ⟨rfl, lt_s (hsm.elim (fun z => z.2) (fun z => absurd z.1 c30)) (((ra hfe (by decide)).mp c62).trans (if_neg (by omega)).symm)⟩ | exact Or.inr ⟨rfl, i3, by omega, fun z => c62 ((raw_eq2 (hfe _) (vis_fit (hNv _ (by omega)))).mpr (z.trans (if_pos (by omega))))⟩ | exact Or.inr ⟨rfl, i3, by omega, fun z => c62 ((ra hfe (by decide)).mpr (z.trans (if_neg (by omega))))⟩ | exact Or.inr ⟨rfl, hsm.elim (fun z => absurd z.1 (by omega)) (fun z => z.2)⟩) (by omega) _ _ _ (hP.sub [0, 1, 2] rfl) (hD.sub [0, 1, 2] (by decide) rfl) hS (lv_sub hl [2, 3, 1, 0] rfl)
                    · skip
                      refine lv_iconst (v := nI 1) hx hb dX9_fileOf_65 (by decide) ?_
                      refine lv_goto (tgt := 70) hx hb dX9_fileOf_66 (by decide) ?_
                      refine lv_istore_n (lv' := [(2, .int (nI 1)), (0, .ref mm), (1, .int (nI t)), (3, .int (nI i3))]) hx hb dX9_fileOf_70 rfl hl (by decide) rfl (fun ls hl => ?_)
                      refine lv_iinc (v := nI (i3 + 1)) (lv' := [(3, .int (nI (i3 + 1))), (2, .int (nI 1)), (0, .ref mm), (1, .int (nI t))]) hx hb dX9_fileOf_71 hl (k := 3) rfl (nI_inc i3 1) (by decide) rfl (fun ls hl => ?_)
                      refine lv_goto (tgt := 23) hx hb dX9_fileOf_74 (by decide) ?_
                      exact ih_K23 (i3 + 1) 1 (by omega) (by first | exact Or.inl ⟨rfl, lt_s (hsm.elim (fun z => z.2) (fun z => absurd z.1 c30)) (((raw_eq2 (hfe _) (vis_fit (hNv _ (by omega)))).mp c62).trans (if_pos (by omega)).symm)⟩ | exact Or.inl ⟨rfl, lt_s (hsm.elim (fun z => z.2) (fun z => absurd z.1 c30)) (((ra hfe (by decide)).mp c62).trans (if_neg (by omega)).symm)⟩ | exact Or.inr ⟨rfl, i3, by omega, fun z => c62 ((raw_eq2 (hfe _) (vis_fit (hNv _ (by omega)))).mpr (z.trans (if_pos (by omega))))⟩ | exact Or.inr ⟨rfl, i3, by omega, fun z => c62 ((ra hfe (by decide)).mpr (z.trans (if_neg (by omega))))⟩ | exact Or.inr ⟨rfl, hsm.elim (fun z => absurd z.1 (by omega)) (fun z => z.2)⟩) (by omega) _ _ _ (hP.sub [0, 1, 2] rfl) (hD.sub [0, 1, 2] (by decide) rfl) hS (lv_sub hl [2, 3, 1, 0] rfl)
                  · skip
                    have c49 : ¬ (m_pathLength ≤ i3) := fun z => c49 ((nI_leI (a := m_pathLength) (b := i3) (by omega) (by omega)).mpr z)
                    refine lv_aload_n hx hb dX9_fileOf_52 rfl (lv_at hl 0 rfl) ?_
                    refine va_get (D := gD g) (ci := 7) (v := .ref an_) (C := RX9) (T := TX9) (N := 39) hx hb hts hinX9 hown hK hP 0 rfl rfl 34 (by decide) hf43 (fun _ h9 => h9) rfl dX9_fileOf_53 ?_
                    refine lv_iload_n hx hb dX9_fileOf_56 rfl (lv_at hl 3 rfl) ?_
                    refine q_bald hx hb hK hP 2 rfl (i3) rfl (by omega) (by omega) dX9_fileOf_57 ?_
                    refine q_top (v := Nl.getD i3 0) (hasL_at hNf (by omega)) ?_
                    refine lv_goto (tgt := 62) hx hb dX9_fileOf_58 (by decide) ?_
                    refine lv_icmp_ne (tgt := 69) hx hb dX9_fileOf_62 (by decide) (fun c62 => ?_) (fun c62 => ?_)
                    · skip
                      refine lv_iconst (v := nI 0) hx hb dX9_fileOf_69 (by decide) ?_
                      refine lv_istore_n (lv' := [(2, .int (nI 0)), (0, .ref mm), (1, .int (nI t)), (3, .int (nI i3))]) hx hb dX9_fileOf_70 rfl hl (by decide) rfl (fun ls hl => ?_)
                      refine lv_iinc (v := nI (i3 + 1)) (lv' := [(3, .int (nI (i3 + 1))), (2, .int (nI 0)), (0, .ref mm), (1, .int (nI t))]) hx hb dX9_fileOf_71 hl (k := 3) rfl (nI_inc i3 1) (by decide) rfl (fun ls hl => ?_)
                      refine lv_goto (tgt := 23) hx hb dX9_fileOf_74 (by decide) ?_
                      exact ih_K23 (i3 + 1) 0 (by omega) (by first | exact Or.inl ⟨rfl, lt_s (hsm.elim (fun z => z.2) (fun z => absurd z.1 c30)) (((raw_eq2 (hfe _) (vis_fit (hNv _ (by omega)))).mp c62).trans (if_pos (by omega)).symm)⟩ | exact Or.inl ⟨rfl, lt_s (hsm.elim (fun z => z.2) (fun z => absurd z.1 c30)) (((ra hfe (by decide)).mp c62).trans (if_neg (by omega)).symm)⟩ | exact Or.inr ⟨rfl, i3, by omega, fun z => c62 ((raw_eq2 (hfe _) (vis_fit (hNv _ (by omega)))).mpr (z.trans (if_pos (by omega))))⟩ | exact Or.inr ⟨rfl, i3, by omega, fun z => c62 ((ra hfe (by decide)).mpr (z.trans (if_neg (by omega))))⟩ | exact Or.inr ⟨rfl, hsm.elim (fun z => absurd z.1 (by omega)) (fun z => z.2)⟩) (by omega) _ _ _ (hP.sub [0, 1, 2] rfl) (hD.sub [0, 1, 2] (by decide) rfl) hS (lv_sub hl [2, 3, 1, 0] rfl)
                    · skip
                      refine lv_iconst (v := nI 1) hx hb dX9_fileOf_65 (by decide) ?_
                      refine lv_goto (tgt := 70) hx hb dX9_fileOf_66 (by decide) ?_
                      refine lv_istore_n (lv' := [(2, .int (nI 1)), (0, .ref mm), (1, .int (nI t)), (3, .int (nI i3))]) hx hb dX9_fileOf_70 rfl hl (by decide) rfl (fun ls hl => ?_)
                      refine lv_iinc (v := nI (i3 + 1)) (lv' := [(3, .int (nI (i3 + 1))), (2, .int (nI 1)), (0, .ref mm), (1, .int (nI t))]) hx hb dX9_fileOf_71 hl (k := 3) rfl (nI_inc i3 1) (by decide) rfl (fun ls hl => ?_)
                      refine lv_goto (tgt := 23) hx hb dX9_fileOf_74 (by decide) ?_
                      exact ih_K23 (i3 + 1) 1 (by omega) (by first | exact Or.inl ⟨rfl, lt_s (hsm.elim (fun z => z.2) (fun z => absurd z.1 c30)) (((raw_eq2 (hfe _) (vis_fit (hNv _ (by omega)))).mp c62).trans (if_pos (by omega)).symm)⟩ | exact Or.inl ⟨rfl, lt_s (hsm.elim (fun z => z.2) (fun z => absurd z.1 c30)) (((ra hfe (by decide)).mp c62).trans (if_neg (by omega)).symm)⟩ | exact Or.inr ⟨rfl, i3, by omega, fun z => c62 ((raw_eq2 (hfe _) (vis_fit (hNv _ (by omega)))).mpr (z.trans (if_pos (by omega))))⟩ | exact Or.inr ⟨rfl, i3, by omega, fun z => c62 ((ra hfe (by decide)).mpr (z.trans (if_neg (by omega))))⟩ | exact Or.inr ⟨rfl, hsm.elim (fun z => absurd z.1 (by omega)) (fun z => z.2)⟩) (by omega) _ _ _ (hP.sub [0, 1, 2] rfl) (hD.sub [0, 1, 2] (by decide) rfl) hS (lv_sub hl [2, 3, 1, 0] rfl)
          exact K23 ((48 - 0) + 1) 0 1 (by omega) (by exact Or.inl ⟨rfl, fun j hj => absurd hj (Nat.not_lt_zero _)⟩) (Nat.lt_succ_self _) _ _ _ (hP.sub [0, 1, 2] rfl) (hD.sub [0, 1, 2] (by decide) rfl) hS (lv_sub hl [2, 3, 1, 0] rfl)
  exact K2 ((c0 - 0) + 1) 0 (by omega) (by intro j h1; omega) (Nat.lt_succ_self _) _ _ _ (hP.sub [0, 1, 2] rfl) (hD.sub [0, 1, 2] (by decide) rfl) hS (lv_sub hl [1, 0] rfl)

set_option maxHeartbeats 4000000 in
set_option maxRecDepth 100000 in
theorem c_fits (l : Launch) (g : GT) (mm : Nat) (v0 : Value) (v1 : Value) (v2 : Value) (v3 : Value) (v4 : Value) (v5 : Value) (v6 : Value) (v7 : Value) (v8 : Value) (ac_ : Nat) (v10 : Value) (v11 : Value) (v12 : Value) (v13 : Value) (v14 : Value) (v15 : Value) (v16 : Value) (ah_ : Nat) (v18 : Value) (v19 : Value) (v20 : Value) (v21 : Value) (v22 : Value) (v23 : Value) (v24 : Value) (v25 : Value) (v26 : Value) (v27 : Value) (v28 : Value) (v29 : Value) (v30 : Value) (v31 : Value) (v32 : Value) (v33 : Value) (v34 : Value) (v35 : Value) (v36 : Value) (m_markAt : Nat) (m_markEnd : Nat) (fh : Nat → Int32) (f : Nat → Int32) (fc : Nat → Int32) (hn : Nat) (t : Nat) (v : Int32) (hhn : hn ≤ 4096) (hM : ∀ j, j < hn → fh j = f j) (hfit : sb_Fit f) (hmm : m_markAt ≤ m_markEnd ∧ m_markEnd ≤ hn) (ht : t < 64) (hck : fc t = v) : CT l g yX9_fits wsX9_fits ({ frames := 5, cells := 0, slots := 0, locals := 109 } : Room) [.ref mm, .int (nI t)] [(mm, .inr (7, v0 :: v1 :: v2 :: v3 :: v4 :: v5 :: v6 :: v7 :: v8 :: .ref ac_ :: v10 :: v11 :: v12 :: v13 :: v14 :: v15 :: v16 :: .ref ah_ :: v18 :: v19 :: v20 :: v21 :: v22 :: v23 :: v24 :: v25 :: v26 :: v27 :: v28 :: v29 :: v30 :: v31 :: v32 :: v33 :: v34 :: v35 :: v36 :: .int (nI m_markAt) :: .int (nI m_markEnd) :: [])), (ah_, .inl (gB g, 4096, .inl fh)), (ac_, .inl (gI g, 64, .inl fc))] (fun r w => (r = some (.int (nI 1)) ∧ w = [(mm, .inr (7, v0 :: v1 :: v2 :: v3 :: v4 :: v5 :: v6 :: v7 :: v8 :: .ref ac_ :: v10 :: v11 :: v12 :: v13 :: v14 :: v15 :: v16 :: .ref ah_ :: v18 :: v19 :: v20 :: v21 :: v22 :: v23 :: v24 :: v25 :: v26 :: v27 :: v28 :: v29 :: v30 :: v31 :: v32 :: v33 :: v34 :: v35 :: v36 :: .int (nI m_markAt) :: .int (nI m_markEnd) :: [])), (ah_, .inl (gB g, 4096, .inl fh)), (ac_, .inl (gI g, 64, .inl fc))] ∧ (pMark f v 1 m_markAt m_markEnd)) ∨ (r = some (.int (nI 0)) ∧ w = [(mm, .inr (7, v0 :: v1 :: v2 :: v3 :: v4 :: v5 :: v6 :: v7 :: v8 :: .ref ac_ :: v10 :: v11 :: v12 :: v13 :: v14 :: v15 :: v16 :: .ref ah_ :: v18 :: v19 :: v20 :: v21 :: v22 :: v23 :: v24 :: v25 :: v26 :: v27 :: v28 :: v29 :: v30 :: v31 :: v32 :: v33 :: v34 :: v35 :: v36 :: .int (nI m_markAt) :: .int (nI m_markEnd) :: [])), (ah_, .inl (gB g, 4096, .inl fh)), (ac_, .inl (gI g, 64, .inl fc))] ∧ (¬ (pMark f v 1 m_markAt m_markEnd)))) (0) (0) := by
  refine ct_of (cc := cX9_fits) (maxL := 3) (ret := (some .boolean)) (by decide) rfl (Nat.le_of_ble_eq_true rfl) ?_
  intro p e s m args below meth c A Q hx hb hr hml hown hts hlocks hnam hAe hQ hA hG hK hP hD hS ls hl
  have hl : lv_has ls 3 [(0, .ref mm), (1, .int (nI t))] := hl
  have hown : s.vm.findClass RX9 = some m.cls := hown
  have hinX9 : ∀ w ∈ u_ws RX9 TX9 39, w ∈ wsX9_fits := by decide +kernel
  have hf28 := hts (.fieldLink RX9 28 "RequestReaderModel" "fileChecks" "[I") (by decide +kernel)
  have hf40 := hts (.fieldLink RX9 40 "RequestReaderModel" "head" "[B") (by decide +kernel)
  have hf235 := hts (.fieldLink RX9 235 "RequestReaderModel" "markAt" "I") (by decide +kernel)
  have hf238 := hts (.fieldLink RX9 238 "RequestReaderModel" "markEnd" "I") (by decide +kernel)
  refine lv_aload_n hx hb dX9_fits_0 rfl (lv_at hl 0 rfl) ?_
  refine lv_aload_n hx hb dX9_fits_1 rfl (lv_at hl 0 rfl) ?_
  refine va_get (D := gD g) (ci := 7) (v := .int (nI m_markAt)) (C := RX9) (T := TX9) (N := 39) hx hb hts hinX9 hown hK hP 0 rfl rfl 37 (by decide) hf235 (fun _ h9 => h9) rfl dX9_fits_2 ?_
  refine lv_aload_n hx hb dX9_fits_5 rfl (lv_at hl 0 rfl) ?_
  refine va_get (D := gD g) (ci := 7) (v := .int (nI m_markEnd)) (C := RX9) (T := TX9) (N := 39) hx hb hts hinX9 hown hK hP 0 rfl rfl 38 (by decide) hf238 (fun _ h9 => h9) rfl dX9_fits_6 ?_
  refine q_ldcwS hx hb hown ((hG.1 48 (by decide)).2.2.2.2) dX9_fits_9 ?_
  refine ct_callV (wr := [(ac_, .inl (gI g, 64, .inl fc))]) hx hb hml hown hts hK hP hD hS hA hG hl.1 (c_says l g mm ((v0 : Value)) ((v1 : Value)) ((v2 : Value)) ((v3 : Value)) ((v4 : Value)) ((v5 : Value)) ((v6 : Value)) ((v7 : Value)) ((v8 : Value)) ((.ref ac_ : Value)) ((v10 : Value)) ((v11 : Value)) ((v12 : Value)) ((v13 : Value)) ((v14 : Value)) ((v15 : Value)) ((v16 : Value)) ah_ ((v18 : Value)) ((v19 : Value)) ((v20 : Value)) ((v21 : Value)) ((v22 : Value)) ((v23 : Value)) ((v24 : Value)) ((v25 : Value)) ((v26 : Value)) ((v27 : Value)) ((v28 : Value)) ((v29 : Value)) ((v30 : Value)) ((v31 : Value)) ((v32 : Value)) ((v33 : Value)) ((v34 : Value)) ((v35 : Value)) ((v36 : Value)) ((.int (nI m_markAt) : Value)) ((.int (nI m_markEnd) : Value)) fh f hn m_markAt m_markEnd 48 16 (by omega) (by assumption) (by omega) (by omega) (by first | assumption | decide) (by first | assumption | rfl)) (cwV 3 hts gX9_fits_X9_says rfl rfl rfl (by decide +kernel) ⟨Nat.le_of_ble_eq_true rfl, Nat.le_of_ble_eq_true rfl⟩) (va_recv hK hP (ci := 7) (q0 := 0) rfl rfl) rfl rfl (Nat.le_of_ble_eq_true rfl) dX9_fits_12 ⟨show 0 + 0 ≤ 0 by omega, show 0 + 0 ≤ 0 by omega⟩ [0, 1] [2] rfl rfl (by decide) (by decide) (by decide) (fun r_ w_ H locs hp_ hP hD hS => ?_)
  rcases hp_ with ⟨rfl, rfl, hT_12⟩ | ⟨rfl, rfl, hF_12⟩
  · skip
    have hP : va_P (gD g) vwCl [(ac_, .inl (gI g, 64, .inl fc)), (mm, .inr (7, v0 :: v1 :: v2 :: v3 :: v4 :: v5 :: v6 :: v7 :: v8 :: .ref ac_ :: v10 :: v11 :: v12 :: v13 :: v14 :: v15 :: v16 :: .ref ah_ :: v18 :: v19 :: v20 :: v21 :: v22 :: v23 :: v24 :: v25 :: v26 :: v27 :: v28 :: v29 :: v30 :: v31 :: v32 :: v33 :: v34 :: v35 :: v36 :: .int (nI m_markAt) :: .int (nI m_markEnd) :: [])), (ah_, .inl (gB g, 4096, .inl fh))] H := hP
    have hD : va_D A [(ac_, .inl (gI g, 64, .inl fc)), (mm, .inr (7, v0 :: v1 :: v2 :: v3 :: v4 :: v5 :: v6 :: v7 :: v8 :: .ref ac_ :: v10 :: v11 :: v12 :: v13 :: v14 :: v15 :: v16 :: .ref ah_ :: v18 :: v19 :: v20 :: v21 :: v22 :: v23 :: v24 :: v25 :: v26 :: v27 :: v28 :: v29 :: v30 :: v31 :: v32 :: v33 :: v34 :: v35 :: v36 :: .int (nI m_markAt) :: .int (nI m_markEnd) :: [])), (ah_, .inl (gB g, 4096, .inl fh))] := hD
    have hT_12 : pText f m_markAt m_markEnd 16 := hT_12
    refine W.eq (g2 := F0 m 15 ls [.int (nI 1)]) rfl ?_
    refine lv_if_eq (tgt := 20) hx hb dX9_fits_15 (by decide) (fun c15 => absurd c15 (by decide)) (fun _ => ?_)
    refine lv_iconst (v := nI 1) hx hb dX9_fits_18 (by decide) ?_
    refine ct_iret (w := [(mm, .inr (7, v0 :: v1 :: v2 :: v3 :: v4 :: v5 :: v6 :: v7 :: v8 :: .ref ac_ :: v10 :: v11 :: v12 :: v13 :: v14 :: v15 :: v16 :: .ref ah_ :: v18 :: v19 :: v20 :: v21 :: v22 :: v23 :: v24 :: v25 :: v26 :: v27 :: v28 :: v29 :: v30 :: v31 :: v32 :: v33 :: v34 :: v35 :: v36 :: .int (nI m_markAt) :: .int (nI m_markEnd) :: [])), (ah_, .inl (gB g, 4096, .inl fh)), (ac_, .inl (gI g, 64, .inl fc))]) hx hb hr rfl hlocks hQ hAe hK (hP.sub [1, 2, 0] rfl) (hD.sub [1, 2, 0] (by decide) rfl) hS (by omega) (by omega) dX9_fits_19 ?_
    refine Or.inl (?_)
    exact ⟨rfl, rfl, by first | exact ⟨rfl, Or.inr hT_12⟩ | exact mark_T (by omega) c45 c61 (fun j hj => hall j (by omega))⟩
  · skip
    have hP : va_P (gD g) vwCl [(ac_, .inl (gI g, 64, .inl fc)), (mm, .inr (7, v0 :: v1 :: v2 :: v3 :: v4 :: v5 :: v6 :: v7 :: v8 :: .ref ac_ :: v10 :: v11 :: v12 :: v13 :: v14 :: v15 :: v16 :: .ref ah_ :: v18 :: v19 :: v20 :: v21 :: v22 :: v23 :: v24 :: v25 :: v26 :: v27 :: v28 :: v29 :: v30 :: v31 :: v32 :: v33 :: v34 :: v35 :: v36 :: .int (nI m_markAt) :: .int (nI m_markEnd) :: [])), (ah_, .inl (gB g, 4096, .inl fh))] H := hP
    have hD : va_D A [(ac_, .inl (gI g, 64, .inl fc)), (mm, .inr (7, v0 :: v1 :: v2 :: v3 :: v4 :: v5 :: v6 :: v7 :: v8 :: .ref ac_ :: v10 :: v11 :: v12 :: v13 :: v14 :: v15 :: v16 :: .ref ah_ :: v18 :: v19 :: v20 :: v21 :: v22 :: v23 :: v24 :: v25 :: v26 :: v27 :: v28 :: v29 :: v30 :: v31 :: v32 :: v33 :: v34 :: v35 :: v36 :: .int (nI m_markAt) :: .int (nI m_markEnd) :: [])), (ah_, .inl (gB g, 4096, .inl fh))] := hD
    have hF_12 : ¬ (pText f m_markAt m_markEnd 16) := hF_12
    refine W.eq (g2 := F0 m 15 ls [.int (nI 0)]) rfl ?_
    refine lv_if_eq (tgt := 20) hx hb dX9_fits_15 (by decide) (fun _ => ?_) (fun c15 => absurd (by decide) c15)
    refine lv_aload_n hx hb dX9_fits_20 rfl (lv_at hl 0 rfl) ?_
    refine va_get (D := gD g) (ci := 7) (v := .int (nI m_markEnd)) (C := RX9) (T := TX9) (N := 39) hx hb hts hinX9 hown hK hP 1 rfl rfl 38 (by decide) hf238 (fun _ h9 => h9) rfl dX9_fits_21 ?_
    refine lv_aload_n hx hb dX9_fits_24 rfl (lv_at hl 0 rfl) ?_
    refine va_get (D := gD g) (ci := 7) (v := .int (nI m_markAt)) (C := RX9) (T := TX9) (N := 39) hx hb hts hinX9 hown hK hP 1 rfl rfl 37 (by decide) hf235 (fun _ h9 => h9) rfl dX9_fits_25 ?_
    refine q_isub (v := nI (m_markEnd - m_markAt)) hx hb dX9_fits_28 (pk_sub (a := m_markEnd) (b := m_markAt) (by omega)) ?_
    refine lv_bipush (v := nI 10) hx hb dX9_fits_29 (by decide) ?_
    refine lv_icmp_ne (tgt := 64) hx hb dX9_fits_31 (by decide) (fun c31 => ?_) (fun c31 => ?_)
    · skip
      have c31 : ¬ (m_markEnd - m_markAt = 10) := fun z => c31 ((nI_eq (a := m_markEnd - m_markAt) (b := 10) (by omega) (by omega)).mpr z)
      refine lv_iconst (v := nI 0) hx hb dX9_fits_64 (by decide) ?_
      refine ct_iret (w := [(mm, .inr (7, v0 :: v1 :: v2 :: v3 :: v4 :: v5 :: v6 :: v7 :: v8 :: .ref ac_ :: v10 :: v11 :: v12 :: v13 :: v14 :: v15 :: v16 :: .ref ah_ :: v18 :: v19 :: v20 :: v21 :: v22 :: v23 :: v24 :: v25 :: v26 :: v27 :: v28 :: v29 :: v30 :: v31 :: v32 :: v33 :: v34 :: v35 :: v36 :: .int (nI m_markAt) :: .int (nI m_markEnd) :: [])), (ah_, .inl (gB g, 4096, .inl fh)), (ac_, .inl (gI g, 64, .inl fc))]) hx hb hr rfl hlocks hQ hAe hK (hP.sub [1, 2, 0] rfl) (hD.sub [1, 2, 0] (by decide) rfl) hS (by omega) (by omega) dX9_fits_65 ?_
      refine Or.inr ((?_))
      exact ⟨rfl, rfl, by exact fun z => by have h_ := mark_F z hF_12; first | omega | exact c45 h_.2.1 | exact c61 h_.2.2.1 | exact c96 ((h_.2.2.2 i (by omega)).trans ev_93.symm)⟩
    · skip
      have c31 : m_markEnd - m_markAt = 10 := (nI_eq (a := m_markEnd - m_markAt) (b := 10) (by omega) (by omega)).mp c31
      refine lv_aload_n hx hb dX9_fits_34 rfl (lv_at hl 0 rfl) ?_
      refine va_get (D := gD g) (ci := 7) (v := .ref ah_) (C := RX9) (T := TX9) (N := 39) hx hb hts hinX9 hown hK hP 1 rfl rfl 17 (by decide) hf40 (fun _ h9 => h9) rfl dX9_fits_35 ?_
      refine lv_aload_n hx hb dX9_fits_38 rfl (lv_at hl 0 rfl) ?_
      refine va_get (D := gD g) (ci := 7) (v := .int (nI m_markAt)) (C := RX9) (T := TX9) (N := 39) hx hb hts hinX9 hown hK hP 1 rfl rfl 37 (by decide) hf235 (fun _ h9 => h9) rfl dX9_fits_39 ?_
      refine q_bald hx hb hK hP 2 rfl (m_markAt) rfl (by omega) (by omega) dX9_fits_42 ?_
      refine q_top (v := f m_markAt) (hM _ (by omega)) ?_
      refine lv_bipush (v := nI 34) hx hb dX9_fits_43 (by decide) ?_
      refine lv_icmp_ne (tgt := 64) hx hb dX9_fits_45 (by decide) (fun c45 => ?_) (fun c45 => ?_)
      · skip
        have c45 : ¬ f m_markAt &&& 255 = nI 34 := fun z => c45 ((ra hfit (by decide)).mpr z)
        refine lv_iconst (v := nI 0) hx hb dX9_fits_64 (by decide) ?_
        refine ct_iret (w := [(mm, .inr (7, v0 :: v1 :: v2 :: v3 :: v4 :: v5 :: v6 :: v7 :: v8 :: .ref ac_ :: v10 :: v11 :: v12 :: v13 :: v14 :: v15 :: v16 :: .ref ah_ :: v18 :: v19 :: v20 :: v21 :: v22 :: v23 :: v24 :: v25 :: v26 :: v27 :: v28 :: v29 :: v30 :: v31 :: v32 :: v33 :: v34 :: v35 :: v36 :: .int (nI m_markAt) :: .int (nI m_markEnd) :: [])), (ah_, .inl (gB g, 4096, .inl fh)), (ac_, .inl (gI g, 64, .inl fc))]) hx hb hr rfl hlocks hQ hAe hK (hP.sub [1, 2, 0] rfl) (hD.sub [1, 2, 0] (by decide) rfl) hS (by omega) (by omega) dX9_fits_65 ?_
        refine Or.inr ((?_))
        exact ⟨rfl, rfl, by exact fun z => by have h_ := mark_F z hF_12; first | omega | exact c45 h_.2.1 | exact c61 h_.2.2.1 | exact c96 ((h_.2.2.2 i (by omega)).trans ev_93.symm)⟩
      · skip
        have c45 := (ra hfit (by decide)).mp c45
        refine lv_aload_n hx hb dX9_fits_48 rfl (lv_at hl 0 rfl) ?_
        refine va_get (D := gD g) (ci := 7) (v := .ref ah_) (C := RX9) (T := TX9) (N := 39) hx hb hts hinX9 hown hK hP 1 rfl rfl 17 (by decide) hf40 (fun _ h9 => h9) rfl dX9_fits_49 ?_
        refine lv_aload_n hx hb dX9_fits_52 rfl (lv_at hl 0 rfl) ?_
        refine va_get (D := gD g) (ci := 7) (v := .int (nI m_markEnd)) (C := RX9) (T := TX9) (N := 39) hx hb hts hinX9 hown hK hP 1 rfl rfl 38 (by decide) hf238 (fun _ h9 => h9) rfl dX9_fits_53 ?_
        refine lv_iconst (v := nI 1) hx hb dX9_fits_56 (by decide) ?_
        refine q_isub (v := nI (m_markEnd - 1)) hx hb dX9_fits_57 (pk_sub (a := m_markEnd) (b := 1) (by omega)) ?_
        refine q_bald hx hb hK hP 2 rfl (m_markEnd - 1) rfl (by omega) (by omega) dX9_fits_58 ?_
        refine q_top (v := f (m_markEnd - 1)) (hM _ (by omega)) ?_
        refine lv_bipush (v := nI 34) hx hb dX9_fits_59 (by decide) ?_
        refine lv_icmp_eq (tgt := 66) hx hb dX9_fits_61 (by decide) (fun c61 => ?_) (fun c61 => ?_)
        · skip
          have c61 := (ra hfit (by decide)).mp c61
          refine lv_iconst (v := nI 0) hx hb dX9_fits_66 (by decide) ?_
          refine lv_istore_n (lv' := [(2, .int (nI 0)), (0, .ref mm), (1, .int (nI t))]) hx hb dX9_fits_67 rfl hl (by decide) rfl (fun ls hl => ?_)
          have K68 : ∀ (N_ : Nat) (i : Nat), (i ≤ 8) → (∀ j, j < i → f (m_markAt + 1 + j) &&& 255 = mkC v (j + 1)) → (8 - i) < N_ → ∀ (H : Heap) (locs : List Loc) (ls : Array Slot), va_P (gD g) vwCl [(ac_, .inl (gI g, 64, .inl fc)), (mm, .inr (7, v0 :: v1 :: v2 :: v3 :: v4 :: v5 :: v6 :: v7 :: v8 :: .ref ac_ :: v10 :: v11 :: v12 :: v13 :: v14 :: v15 :: v16 :: .ref ah_ :: v18 :: v19 :: v20 :: v21 :: v22 :: v23 :: v24 :: v25 :: v26 :: v27 :: v28 :: v29 :: v30 :: v31 :: v32 :: v33 :: v34 :: v35 :: v36 :: .int (nI m_markAt) :: .int (nI m_markEnd) :: [])), (ah_, .inl (gB g, 4096, .inl fh))] H → va_D A [(ac_, .inl (gI g, 64, .inl fc)), (mm, .inr (7, v0 :: v1 :: v2 :: v3 :: v4 :: v5 :: v6 :: v7 :: v8 :: .ref ac_ :: v10 :: v11 :: v12 :: v13 :: v14 :: v15 :: v16 :: .ref ah_ :: v18 :: v19 :: v20 :: v21 :: v22 :: v23 :: v24 :: v25 :: v26 :: v27 :: v28 :: v29 :: v30 :: v31 :: v32 :: v33 :: v34 :: v35 :: v36 :: .int (nI m_markAt) :: .int (nI m_markEnd) :: [])), (ah_, .inl (gB g, 4096, .inl fh))] → va_S A s.heap H locs → lv_has ls 3 [(0, .ref mm), (1, .int (nI t)), (2, .int (nI i))] → W p l e ({ frames := 5, cells := 0, slots := 0, locals := 109 } : Room) s m args below meth c H locs (0) (0) Q (F0 m 68 ls []) := by
            intro N_
            induction N_ with
            | zero => intro i hi hall hm_; exact absurd hm_ (Nat.not_lt_zero _)
            | succ N_ ih_K68 =>
              intro i hi hall hm_ H locs ls hP hD hS hl
              refine lv_iload_n hx hb dX9_fits_68 rfl (lv_at hl 2 rfl) ?_
              refine lv_bipush (v := nI 8) hx hb dX9_fits_69 (by decide) ?_
              refine lv_icmp_ge (tgt := 107) hx hb dX9_fits_71 (by decide) (fun c71 => ?_) (fun c71 => ?_)
              · skip
                have c71 : 8 ≤ i := (nI_leI (a := 8) (b := i) (by omega) (by omega)).mp c71
                refine lv_iconst (v := nI 1) hx hb dX9_fits_107 (by decide) ?_
                refine ct_iret (w := [(mm, .inr (7, v0 :: v1 :: v2 :: v3 :: v4 :: v5 :: v6 :: v7 :: v8 :: .ref ac_ :: v10 :: v11 :: v12 :: v13 :: v14 :: v15 :: v16 :: .ref ah_ :: v18 :: v19 :: v20 :: v21 :: v22 :: v23 :: v24 :: v25 :: v26 :: v27 :: v28 :: v29 :: v30 :: v31 :: v32 :: v33 :: v34 :: v35 :: v36 :: .int (nI m_markAt) :: .int (nI m_markEnd) :: [])), (ah_, .inl (gB g, 4096, .inl fh)), (ac_, .inl (gI g, 64, .inl fc))]) hx hb hr rfl hlocks hQ hAe hK (hP.sub [1, 2, 0] rfl) (hD.sub [1, 2, 0] (by decide) rfl) hS (by omega) (by omega) dX9_fits_108 ?_
                refine Or.inl (?_)
                exact ⟨rfl, rfl, by first | exact ⟨rfl, Or.inr hT_12⟩ | exact mark_T (by omega) c45 c61 (fun j hj => hall j (by omega))⟩
              · skip
                have c71 : ¬ (8 ≤ i) := fun z => c71 ((nI_leI (a := 8) (b := i) (by omega) (by omega)).mpr z)
                refine lv_aload_n hx hb dX9_fits_74 rfl (lv_at hl 0 rfl) ?_
                refine lv_aload_n hx hb dX9_fits_75 rfl (lv_at hl 0 rfl) ?_
                refine va_get (D := gD g) (ci := 7) (v := .int (nI m_markAt)) (C := RX9) (T := TX9) (N := 39) hx hb hts hinX9 hown hK hP 1 rfl rfl 37 (by decide) hf235 (fun _ h9 => h9) rfl dX9_fits_76 ?_
                refine lv_iconst (v := nI 1) hx hb dX9_fits_79 (by decide) ?_
                refine q_iadd (v := nI (m_markAt + 1)) hx hb dX9_fits_80 (nI_add m_markAt 1) ?_
                refine lv_iload_n hx hb dX9_fits_81 rfl (lv_at hl 2 rfl) ?_
                refine q_iadd (v := nI (m_markAt + 1 + i)) hx hb dX9_fits_82 (nI_add (m_markAt + 1) i) ?_
                refine ct_callV (wr := [(ac_, .inl (gI g, 64, .inl fc))]) hx hb hml hown hts hK hP hD hS hA hG hl.1 (c_headAt l g mm ((v0 : Value)) ((v1 : Value)) ((v2 : Value)) ((v3 : Value)) ((v4 : Value)) ((v5 : Value)) ((v6 : Value)) ((v7 : Value)) ((v8 : Value)) ((.ref ac_ : Value)) ((v10 : Value)) ((v11 : Value)) ((v12 : Value)) ((v13 : Value)) ((v14 : Value)) ((v15 : Value)) ((v16 : Value)) ah_ ((v18 : Value)) ((v19 : Value)) ((v20 : Value)) ((v21 : Value)) ((v22 : Value)) ((v23 : Value)) ((v24 : Value)) ((v25 : Value)) ((v26 : Value)) ((v27 : Value)) ((v28 : Value)) ((v29 : Value)) ((v30 : Value)) ((v31 : Value)) ((v32 : Value)) ((v33 : Value)) ((v34 : Value)) ((v35 : Value)) ((v36 : Value)) ((.int (nI m_markAt) : Value)) ((.int (nI m_markEnd) : Value)) fh f hn (m_markAt + 1 + i) (by omega) (by assumption) (by omega)) (cwV 1 hts gX9_fits_X9_headAt rfl rfl rfl (by decide +kernel) ⟨Nat.le_of_ble_eq_true rfl, Nat.le_of_ble_eq_true rfl⟩) (va_recv hK hP (ci := 7) (q0 := 1) rfl rfl) rfl rfl (Nat.le_of_ble_eq_true rfl) dX9_fits_83 ⟨show 0 + 0 ≤ 0 by omega, show 0 + 0 ≤ 0 by omega⟩ [1, 2] [0] rfl rfl (by decide) (by decide) (by decide) (fun r_ w_ H locs hp_ hP hD hS => ?_)
                obtain ⟨rfl, rfl⟩ := hp_
                have hP : va_P (gD g) vwCl [(ac_, .inl (gI g, 64, .inl fc)), (mm, .inr (7, v0 :: v1 :: v2 :: v3 :: v4 :: v5 :: v6 :: v7 :: v8 :: .ref ac_ :: v10 :: v11 :: v12 :: v13 :: v14 :: v15 :: v16 :: .ref ah_ :: v18 :: v19 :: v20 :: v21 :: v22 :: v23 :: v24 :: v25 :: v26 :: v27 :: v28 :: v29 :: v30 :: v31 :: v32 :: v33 :: v34 :: v35 :: v36 :: .int (nI m_markAt) :: .int (nI m_markEnd) :: [])), (ah_, .inl (gB g, 4096, .inl fh))] H := hP
                have hD : va_D A [(ac_, .inl (gI g, 64, .inl fc)), (mm, .inr (7, v0 :: v1 :: v2 :: v3 :: v4 :: v5 :: v6 :: v7 :: v8 :: .ref ac_ :: v10 :: v11 :: v12 :: v13 :: v14 :: v15 :: v16 :: .ref ah_ :: v18 :: v19 :: v20 :: v21 :: v22 :: v23 :: v24 :: v25 :: v26 :: v27 :: v28 :: v29 :: v30 :: v31 :: v32 :: v33 :: v34 :: v35 :: v36 :: .int (nI m_markAt) :: .int (nI m_markEnd) :: [])), (ah_, .inl (gB g, 4096, .inl fh))] := hD
                refine W.eq (g2 := F0 m 86 ls [.int (f (m_markAt + 1 + i) &&& 255)]) rfl ?_
                refine lv_aload_n hx hb dX9_fits_86 rfl (lv_at hl 0 rfl) ?_
                refine va_get (D := gD g) (ci := 7) (v := .ref ac_) (C := RX9) (T := TX9) (N := 39) hx hb hts hinX9 hown hK hP 1 rfl rfl 9 (by decide) hf28 (fun _ h9 => h9) rfl dX9_fits_87 ?_
                refine lv_iload_n hx hb dX9_fits_90 rfl (lv_at hl 1 rfl) ?_
                refine q_iald hx hb hK hP 0 rfl (t) rfl (by omega) (by omega) dX9_fits_91 ?_
                refine q_top (v := v) hck ?_
                refine lv_iload_n hx hb dX9_fits_92 rfl (lv_at hl 2 rfl) ?_
                refine ct_callS (wr := [(ac_, .inl (gI g, 64, .inl fc)), (mm, .inr (7, v0 :: v1 :: v2 :: v3 :: v4 :: v5 :: v6 :: v7 :: v8 :: .ref ac_ :: v10 :: v11 :: v12 :: v13 :: v14 :: v15 :: v16 :: .ref ah_ :: v18 :: v19 :: v20 :: v21 :: v22 :: v23 :: v24 :: v25 :: v26 :: v27 :: v28 :: v29 :: v30 :: v31 :: v32 :: v33 :: v34 :: v35 :: v36 :: .int (nI m_markAt) :: .int (nI m_markEnd) :: [])), (ah_, .inl (gB g, 4096, .inl fh))]) hx hb hml hown hts hK hP hD hS hA hG hl.1 (c_mHexD l g v i (by omega)) (va_cwS 2 hts gX9_fits_X9_hexDigit rfl rfl rfl (by decide +kernel) ⟨Nat.le_of_ble_eq_true rfl, Nat.le_of_ble_eq_true rfl⟩) rfl rfl (Nat.le_of_ble_eq_true rfl) dX9_fits_93 ⟨show 0 + 0 ≤ 0 by omega, show 0 + 0 ≤ 0 by omega⟩ [] [0, 1, 2] rfl rfl (by decide) (by decide) (by decide) (fun r_ w_ H locs hp_ hP hD hS => ?_)
                obtain ⟨v1_93, rfl, rfl, ev_93⟩ := hp_
                have hP : va_P (gD g) vwCl [(ac_, .inl (gI g, 64, .inl fc)), (mm, .inr (7, v0 :: v1 :: v2 :: v3 :: v4 :: v5 :: v6 :: v7 :: v8 :: .ref ac_ :: v10 :: v11 :: v12 :: v13 :: v14 :: v15 :: v16 :: .ref ah_ :: v18 :: v19 :: v20 :: v21 :: v22 :: v23 :: v24 :: v25 :: v26 :: v27 :: v28 :: v29 :: v30 :: v31 :: v32 :: v33 :: v34 :: v35 :: v36 :: .int (nI m_markAt) :: .int (nI m_markEnd) :: [])), (ah_, .inl (gB g, 4096, .inl fh))] H := hP
                have hD : va_D A [(ac_, .inl (gI g, 64, .inl fc)), (mm, .inr (7, v0 :: v1 :: v2 :: v3 :: v4 :: v5 :: v6 :: v7 :: v8 :: .ref ac_ :: v10 :: v11 :: v12 :: v13 :: v14 :: v15 :: v16 :: .ref ah_ :: v18 :: v19 :: v20 :: v21 :: v22 :: v23 :: v24 :: v25 :: v26 :: v27 :: v28 :: v29 :: v30 :: v31 :: v32 :: v33 :: v34 :: v35 :: v36 :: .int (nI m_markAt) :: .int (nI m_markEnd) :: [])), (ah_, .inl (gB g, 4096, .inl fh))] := hD
                have ev_93 : v1_93 = mkC v (i + 1) := ev_93
                refine W.eq (g2 := F0 m 96 ls [.int v1_93, .int (f (m_markAt + 1 + i) &&& 255)]) rfl ?_
                refine lv_icmp_eq (tgt := 101) hx hb dX9_fits_96 (by decide) (fun c96 => ?_) (fun c96 => ?_)
                · skip
                  refine lv_iinc (v := nI (i + 1)) (lv' := [(2, .int (nI (i + 1))), (0, .ref mm), (1, .int (nI t))]) hx hb dX9_fits_101 hl (k := 2) rfl (nI_inc i 1) (by decide) rfl (fun ls hl => ?_)
                  refine lv_goto (tgt := 68) hx hb dX9_fits_104 (by decide) ?_
                  exact ih_K68 (i + 1) (by omega) (by exact lt_s hall (c96.trans ev_93)) (by omega) _ _ _ (hP.sub [0, 1, 2] rfl) (hD.sub [0, 1, 2] (by decide) rfl) hS (lv_sub hl [1, 2, 0] rfl)
                · skip
                  refine lv_iconst (v := nI 0) hx hb dX9_fits_99 (by decide) ?_
                  refine ct_iret (w := [(mm, .inr (7, v0 :: v1 :: v2 :: v3 :: v4 :: v5 :: v6 :: v7 :: v8 :: .ref ac_ :: v10 :: v11 :: v12 :: v13 :: v14 :: v15 :: v16 :: .ref ah_ :: v18 :: v19 :: v20 :: v21 :: v22 :: v23 :: v24 :: v25 :: v26 :: v27 :: v28 :: v29 :: v30 :: v31 :: v32 :: v33 :: v34 :: v35 :: v36 :: .int (nI m_markAt) :: .int (nI m_markEnd) :: [])), (ah_, .inl (gB g, 4096, .inl fh)), (ac_, .inl (gI g, 64, .inl fc))]) hx hb hr rfl hlocks hQ hAe hK (hP.sub [1, 2, 0] rfl) (hD.sub [1, 2, 0] (by decide) rfl) hS (by omega) (by omega) dX9_fits_100 ?_
                  refine Or.inr ((?_))
                  exact ⟨rfl, rfl, by exact fun z => by have h_ := mark_F z hF_12; first | omega | exact c45 h_.2.1 | exact c61 h_.2.2.1 | exact c96 ((h_.2.2.2 i (by omega)).trans ev_93.symm)⟩
          exact K68 ((8 - 0) + 1) 0 (by omega) (by intro j h1; omega) (Nat.lt_succ_self _) _ _ _ (hP.sub [0, 1, 2] rfl) (hD.sub [0, 1, 2] (by decide) rfl) hS (lv_sub hl [1, 2, 0] rfl)
        · skip
          have c61 : ¬ f (m_markEnd - 1) &&& 255 = nI 34 := fun z => c61 ((ra hfit (by decide)).mpr z)
          refine lv_iconst (v := nI 0) hx hb dX9_fits_64 (by decide) ?_
          refine ct_iret (w := [(mm, .inr (7, v0 :: v1 :: v2 :: v3 :: v4 :: v5 :: v6 :: v7 :: v8 :: .ref ac_ :: v10 :: v11 :: v12 :: v13 :: v14 :: v15 :: v16 :: .ref ah_ :: v18 :: v19 :: v20 :: v21 :: v22 :: v23 :: v24 :: v25 :: v26 :: v27 :: v28 :: v29 :: v30 :: v31 :: v32 :: v33 :: v34 :: v35 :: v36 :: .int (nI m_markAt) :: .int (nI m_markEnd) :: [])), (ah_, .inl (gB g, 4096, .inl fh)), (ac_, .inl (gI g, 64, .inl fc))]) hx hb hr rfl hlocks hQ hAe hK (hP.sub [1, 2, 0] rfl) (hD.sub [1, 2, 0] (by decide) rfl) hS (by omega) (by omega) dX9_fits_65 ?_
          refine Or.inr ((?_))
          exact ⟨rfl, rfl, by exact fun z => by have h_ := mark_F z hF_12; first | omega | exact c45 h_.2.1 | exact c61 h_.2.2.1 | exact c96 ((h_.2.2.2 i (by omega)).trans ev_93.symm)⟩

set_option maxHeartbeats 30000000 in
set_option maxRecDepth 100000 in
theorem c_chosen (l : Launch) (g : GT) (mm : Nat) (v0 : Value) (v1 : Value) (ai_ : Nat) (v3 : Value) (v4 : Value) (am_ : Nat) (ap_ : Nat) (aq_ : Nat) (ac_ : Nat) (v10 : Value) (v11 : Value) (v12 : Value) (v13 : Value) (v14 : Value) (v15 : Value) (v16 : Value) (ah_ : Nat) (v18 : Value) (v20 : Value) (v22 : Value) (v23 : Value) (v27 : Value) (v31 : Value) (an_ : Nat) (m_pathLength : Nat) (fh : Nat → Int32) (f : Nat → Int32) (fn : Nat → Int32) (fm : Nat → Int32) (fp : Nat → Int32) (fl : Nat → Int32) (fc : Nat → Int32) (fi : Nat → Int32) (fe : Nat → Int32) (fq : Nat → Int32) (hn : Nat) (si : Nat) (c0 : Nat) (ov : Nat) (ot : Nat) (k : Nat) (e0 : Nat) (tk : Nat) (me : Nat) (nw : Nat) (tS : Nat) (tE : Nat) (ho : Nat) (en : Nat) (le : Nat) (bo : Int32) (ma : Nat) (mS : Nat) (mE : Nat) (cl : Nat) (ke : Nat) (xe : Nat) (xb : Nat) (xg : Nat) (xl : Nat) (xa : Nat) (xz : Nat) (hhn : hn ≤ 4096) (hM : ∀ j, j < hn → fh j = f j) (hfit : sb_Fit f) (hov : ov + nw = 1) (hot : OTd ot me) (hcn : ho ≤ 4096 ∧ le ≤ 4096 ∧ ma ≤ 4096) (re : REd xe en) (rb : RB le bo xb xg xl) (rkd : RKd ma mS mE xa xz hn) (rx : xe ≤ 1 ∧ ot ≤ 1 ∧ xb ≤ 1 ∧ xg ≤ 1 ∧ xl ≤ 65536) (htg : pTarg f tS tE) (hte : tE ≤ hn) (hc0 : c0 ≤ 64) (hNM : ∀ t, t < c0 → ∀ j, j < 48 → fm (48 * t + j) = fe (t * 64 + j)) (hfe : sb_Fit fe) (hpl : ∀ t, t < c0 → fp t = be4 fe (t * 64 + 48) ∧ fl t = be4 fe (t * 64 + 52) ∧ fc t = be4 fe (t * 64 + 56)) (hsi : si ≤ 65535) (hMi : ∀ j, j < si → fi j = fq j) (hval : ∀ t, t < c0 → u32 (be4 fe (t * 64 + 48)) + u32 (be4 fe (t * 64 + 52)) ≤ si) (hJ : pJ f (0, me, nw, tS, tE, ho, en, le, bo, ma, mS, mE, cl, ke) c0 fe fq k e0 tk) : CT l g yX9_chosen wsX9_chosen ({ frames := 6, cells := 0, slots := 0, locals := 131 } : Room) [.ref mm] [(mm, .inr (7, v0 :: v1 :: .ref ai_ :: v3 :: v4 :: .int (nI c0) :: .ref am_ :: .ref ap_ :: .ref aq_ :: .ref ac_ :: v10 :: v11 :: v12 :: v13 :: v14 :: v15 :: v16 :: .ref ah_ :: v18 :: .int (nI 0) :: v20 :: .int (nI ov) :: v22 :: v23 :: .int (nI ho) :: .int (nI le) :: .int (nI ma) :: v27 :: .int (nI xb) :: .int (nI xg) :: .int (nI xe) :: v31 :: .int (nI tS) :: .int (nI tE) :: .ref an_ :: .int (nI m_pathLength) :: .int (nI ot) :: .int (nI xa) :: .int (nI xz) :: [])), (ah_, .inl (gB g, 4096, .inl fh)), (an_, .inl (gB g, 8192, .inl fn)), (am_, .inl (gB g, 3072, .inl fm)), (ap_, .inl (gI g, 64, .inl fp)), (aq_, .inl (gI g, 64, .inl fl)), (ac_, .inl (gI g, 64, .inl fc)), (ai_, .inl (gB g, 65535, .inl fi))] (fun r w => (∃ (f1 : Nat → Int32) (s1 : Nat) (sv : Nat), r = some (.int (-1)) ∧ w = [(mm, .inr (7, v0 :: v1 :: .ref ai_ :: v3 :: v4 :: .int (nI c0) :: .ref am_ :: .ref ap_ :: .ref aq_ :: .ref ac_ :: v10 :: v11 :: v12 :: v13 :: v14 :: v15 :: v16 :: .ref ah_ :: v18 :: .int (nI sv) :: v20 :: .int (nI ov) :: v22 :: v23 :: .int (nI ho) :: .int (nI le) :: .int (nI ma) :: v27 :: .int (nI xb) :: .int (nI xg) :: .int (nI xe) :: v31 :: .int (nI tS) :: .int (nI tE) :: .ref an_ :: .int (nI s1) :: .int (nI ot) :: .int (nI xa) :: .int (nI xz) :: [])), (ah_, .inl (gB g, 4096, .inl fh)), (an_, .inl (gB g, 8192, .inl f1)), (am_, .inl (gB g, 3072, .inl fm)), (ap_, .inl (gI g, 64, .inl fp)), (aq_, .inl (gI g, 64, .inl fl)), (ac_, .inl (gI g, 64, .inl fc)), (ai_, .inl (gB g, 65535, .inl fi))] ∧ (sv = stN k ∧ ¬ (k = 0 ∨ k = 1))) ∨ (∃ (f1 : Nat → Int32) (s1 : Nat) (sv : Nat) (t2 : Nat), r = some (.int (nI t2)) ∧ w = [(mm, .inr (7, v0 :: v1 :: .ref ai_ :: v3 :: v4 :: .int (nI c0) :: .ref am_ :: .ref ap_ :: .ref aq_ :: .ref ac_ :: v10 :: v11 :: v12 :: v13 :: v14 :: v15 :: v16 :: .ref ah_ :: v18 :: .int (nI sv) :: v20 :: .int (nI ov) :: v22 :: v23 :: .int (nI ho) :: .int (nI le) :: .int (nI ma) :: v27 :: .int (nI xb) :: .int (nI xg) :: .int (nI xe) :: v31 :: .int (nI tS) :: .int (nI tE) :: .ref an_ :: .int (nI s1) :: .int (nI ot) :: .int (nI xa) :: .int (nI xz) :: [])), (ah_, .inl (gB g, 4096, .inl fh)), (an_, .inl (gB g, 8192, .inl f1)), (am_, .inl (gB g, 3072, .inl fm)), (ap_, .inl (gI g, 64, .inl fp)), (aq_, .inl (gI g, 64, .inl fl)), (ac_, .inl (gI g, 64, .inl fc)), (ai_, .inl (gB g, 65535, .inl fi))] ∧ (sv = stN k ∧ (k = 0 ∨ k = 1)) ∧ (t2 = e0 ∧ e0 < c0) ∧ (∃ Nl : List Int32, nmD fe e0 Nl ∧ (∀ j, j < Nl.length → pVis (Nl.getD j 0)) ∧ (k = 0 → tk = typL Nl)))) (0) (0) := by
  refine ct_of (cc := cX9_chosen) (maxL := 2) (ret := (some .int)) (by decide) rfl (Nat.le_of_ble_eq_true rfl) ?_
  intro p e s m args below meth c A Q hx hb hr hml hown hts hlocks hnam hAe hQ hA hG hK hP hD hS ls hl
  have hl : lv_has ls 2 [(0, .ref mm)] := hl
  have hown : s.vm.findClass RX9 = some m.cls := hown
  have hinX9 : ∀ w ∈ u_ws RX9 TX9 39, w ∈ wsX9_chosen := by decide +kernel
  have hf21 := hts (.fieldLink RX9 21 "RequestReaderModel" "filePlaces" "[I") (by decide +kernel)
  have hf25 := hts (.fieldLink RX9 25 "RequestReaderModel" "fileLengths" "[I") (by decide +kernel)
  have hf28 := hts (.fieldLink RX9 28 "RequestReaderModel" "fileChecks" "[I") (by decide +kernel)
  have hf111 := hts (.fieldLink RX9 111 "RequestReaderModel" "status" "I") (by decide +kernel)
  have hf121 := hts (.fieldLink RX9 121 "RequestReaderModel" "oldVersion" "Z") (by decide +kernel)
  have hf130 := hts (.fieldLink RX9 130 "RequestReaderModel" "hosts" "I") (by decide +kernel)
  have hf133 := hts (.fieldLink RX9 133 "RequestReaderModel" "lengths" "I") (by decide +kernel)
  have hf136 := hts (.fieldLink RX9 136 "RequestReaderModel" "marks" "I") (by decide +kernel)
  have hf142 := hts (.fieldLink RX9 142 "RequestReaderModel" "badLength" "Z") (by decide +kernel)
  have hf145 := hts (.fieldLink RX9 145 "RequestReaderModel" "greatLength" "Z") (by decide +kernel)
  have hf148 := hts (.fieldLink RX9 148 "RequestReaderModel" "encoded" "Z") (by decide +kernel)
  have hf185 := hts (.fieldLink RX9 185 "RequestReaderModel" "other" "Z") (by decide +kernel)
  have J32 : (¬ ((0 : Nat) = 1 ∨ (nw = 1 ∧ ¬ ho = 1) ∨ (nw = 0 ∧ 1 < ho))) → ∀ (H : Heap) (locs : List Loc) (ls : Array Slot), va_P (gD g) vwCl [(mm, .inr (7, v0 :: v1 :: .ref ai_ :: v3 :: v4 :: .int (nI c0) :: .ref am_ :: .ref ap_ :: .ref aq_ :: .ref ac_ :: v10 :: v11 :: v12 :: v13 :: v14 :: v15 :: v16 :: .ref ah_ :: v18 :: .int (nI 0) :: v20 :: .int (nI ov) :: v22 :: v23 :: .int (nI ho) :: .int (nI le) :: .int (nI ma) :: v27 :: .int (nI xb) :: .int (nI xg) :: .int (nI xe) :: v31 :: .int (nI tS) :: .int (nI tE) :: .ref an_ :: .int (nI m_pathLength) :: .int (nI ot) :: .int (nI xa) :: .int (nI xz) :: [])), (ah_, .inl (gB g, 4096, .inl fh)), (an_, .inl (gB g, 8192, .inl fn)), (am_, .inl (gB g, 3072, .inl fm)), (ap_, .inl (gI g, 64, .inl fp)), (aq_, .inl (gI g, 64, .inl fl)), (ac_, .inl (gI g, 64, .inl fc)), (ai_, .inl (gB g, 65535, .inl fi))] H → va_D A [(mm, .inr (7, v0 :: v1 :: .ref ai_ :: v3 :: v4 :: .int (nI c0) :: .ref am_ :: .ref ap_ :: .ref aq_ :: .ref ac_ :: v10 :: v11 :: v12 :: v13 :: v14 :: v15 :: v16 :: .ref ah_ :: v18 :: .int (nI 0) :: v20 :: .int (nI ov) :: v22 :: v23 :: .int (nI ho) :: .int (nI le) :: .int (nI ma) :: v27 :: .int (nI xb) :: .int (nI xg) :: .int (nI xe) :: v31 :: .int (nI tS) :: .int (nI tE) :: .ref an_ :: .int (nI m_pathLength) :: .int (nI ot) :: .int (nI xa) :: .int (nI xz) :: [])), (ah_, .inl (gB g, 4096, .inl fh)), (an_, .inl (gB g, 8192, .inl fn)), (am_, .inl (gB g, 3072, .inl fm)), (ap_, .inl (gI g, 64, .inl fp)), (aq_, .inl (gI g, 64, .inl fl)), (ac_, .inl (gI g, 64, .inl fc)), (ai_, .inl (gB g, 65535, .inl fi))] → va_S A s.heap H locs → lv_has ls 2 [(0, .ref mm)] → W p l e ({ frames := 6, cells := 0, slots := 0, locals := 131 } : Room) s m args below meth c H locs (0) (0) Q (F0 m 32 ls []) := by
    intro  h32 H locs ls hP hD hS hl
    refine lv_aload_n hx hb dX9_chosen_32 rfl (lv_at hl 0 rfl) ?_
    refine va_get (D := gD g) (ci := 7) (v := .int (nI xe)) (C := RX9) (T := TX9) (N := 39) hx hb hts hinX9 hown hK hP 0 rfl rfl 30 (by decide) hf148 (fun _ h9 => h9) rfl dX9_chosen_33 ?_
    refine lv_if_eq (tgt := 49) hx hb dX9_chosen_36 (by decide) (fun c36 => ?_) (fun c36 => ?_)
    · skip
      have c36 : xe = 0 := (nI_eq (a := xe) (b := 0) (by omega) (by omega)).mp c36
      have hen : ¬ 0 < en := (by rcases re with z_ | z_ <;> omega)
      refine lv_aload_n hx hb dX9_chosen_49 rfl (lv_at hl 0 rfl) ?_
      refine va_get (D := gD g) (ci := 7) (v := .int (nI le)) (C := RX9) (T := TX9) (N := 39) hx hb hts hinX9 hown hK hP 0 rfl rfl 25 (by decide) hf133 (fun _ h9 => h9) rfl dX9_chosen_50 ?_
      refine lv_iconst (v := nI 1) hx hb dX9_chosen_53 (by decide) ?_
      refine lv_icmp_gt (tgt := 64) hx hb dX9_chosen_54 (by decide) (fun c54 => ?_) (fun c54 => ?_)
      · skip
        have c54 : 1 < le := (nI_ltI (a := 1) (b := le) (by omega) (by omega)).mp c54
        have hkk : k = 2 := pJ_n hJ (jdK_3 h32 hen (by first | exact Or.inl (by omega) | exact Or.inr (RB_b rb (by omega) (by omega)))) (by decide)
        refine lv_aload_n hx hb dX9_chosen_64 rfl (lv_at hl 0 rfl) ?_
        refine lv_sipush (v := nI 400) hx hb dX9_chosen_65 (by decide) ?_
        refine va_put (D := gD g) (ci := 7) (v := .int (nI 400)) (ty := .int) (C := RX9) (T := TX9) (N := 39) hx hb hts hinX9 tyX9 tyX9_ok nmX9 hown hK hP hD hS 0 rfl rfl 19 (by decide) hf111 (fun _ h9 => h9) rfl (by decide +kernel) rfl rfl (Nat.le_of_ble_eq_true rfl) dX9_chosen_68 (fun H locs hP hD hS => ?_)
        have hP : va_P (gD g) vwCl [(mm, .inr (7, v0 :: v1 :: .ref ai_ :: v3 :: v4 :: .int (nI c0) :: .ref am_ :: .ref ap_ :: .ref aq_ :: .ref ac_ :: v10 :: v11 :: v12 :: v13 :: v14 :: v15 :: v16 :: .ref ah_ :: v18 :: .int (nI 400) :: v20 :: .int (nI ov) :: v22 :: v23 :: .int (nI ho) :: .int (nI le) :: .int (nI ma) :: v27 :: .int (nI xb) :: .int (nI xg) :: .int (nI xe) :: v31 :: .int (nI tS) :: .int (nI tE) :: .ref an_ :: .int (nI m_pathLength) :: .int (nI ot) :: .int (nI xa) :: .int (nI xz) :: [])), (ah_, .inl (gB g, 4096, .inl fh)), (an_, .inl (gB g, 8192, .inl fn)), (am_, .inl (gB g, 3072, .inl fm)), (ap_, .inl (gI g, 64, .inl fp)), (aq_, .inl (gI g, 64, .inl fl)), (ac_, .inl (gI g, 64, .inl fc)), (ai_, .inl (gB g, 65535, .inl fi))] H := hP
        have hD : va_D A [(mm, .inr (7, v0 :: v1 :: .ref ai_ :: v3 :: v4 :: .int (nI c0) :: .ref am_ :: .ref ap_ :: .ref aq_ :: .ref ac_ :: v10 :: v11 :: v12 :: v13 :: v14 :: v15 :: v16 :: .ref ah_ :: v18 :: .int (nI 400) :: v20 :: .int (nI ov) :: v22 :: v23 :: .int (nI ho) :: .int (nI le) :: .int (nI ma) :: v27 :: .int (nI xb) :: .int (nI xg) :: .int (nI xe) :: v31 :: .int (nI tS) :: .int (nI tE) :: .ref an_ :: .int (nI m_pathLength) :: .int (nI ot) :: .int (nI xa) :: .int (nI xz) :: [])), (ah_, .inl (gB g, 4096, .inl fh)), (an_, .inl (gB g, 8192, .inl fn)), (am_, .inl (gB g, 3072, .inl fm)), (ap_, .inl (gI g, 64, .inl fp)), (aq_, .inl (gI g, 64, .inl fl)), (ac_, .inl (gI g, 64, .inl fc)), (ai_, .inl (gB g, 65535, .inl fi))] := hD
        refine lv_goto (tgt := 122) hx hb dX9_chosen_71 (by decide) ?_
        refine lv_aload_n hx hb dX9_chosen_122 rfl (lv_at hl 0 rfl) ?_
        refine va_get (D := gD g) (ci := 7) (v := .int (nI 400)) (C := RX9) (T := TX9) (N := 39) hx hb hts hinX9 hown hK hP 0 rfl rfl 19 (by decide) hf111 (fun _ h9 => h9) rfl dX9_chosen_123 ?_
        refine lv_if_eq (tgt := 131) hx hb dX9_chosen_126 (by decide) (fun c126 => absurd c126 (by decide)) (fun _ => ?_)
        refine lv_iconst (v := (-1)) hx hb dX9_chosen_129 (by decide) ?_
        refine ct_iret (w := [(mm, .inr (7, v0 :: v1 :: .ref ai_ :: v3 :: v4 :: .int (nI c0) :: .ref am_ :: .ref ap_ :: .ref aq_ :: .ref ac_ :: v10 :: v11 :: v12 :: v13 :: v14 :: v15 :: v16 :: .ref ah_ :: v18 :: .int (nI 400) :: v20 :: .int (nI ov) :: v22 :: v23 :: .int (nI ho) :: .int (nI le) :: .int (nI ma) :: v27 :: .int (nI xb) :: .int (nI xg) :: .int (nI xe) :: v31 :: .int (nI tS) :: .int (nI tE) :: .ref an_ :: .int (nI m_pathLength) :: .int (nI ot) :: .int (nI xa) :: .int (nI xz) :: [])), (ah_, .inl (gB g, 4096, .inl fh)), (an_, .inl (gB g, 8192, .inl fn)), (am_, .inl (gB g, 3072, .inl fm)), (ap_, .inl (gI g, 64, .inl fp)), (aq_, .inl (gI g, 64, .inl fl)), (ac_, .inl (gI g, 64, .inl fc)), (ai_, .inl (gB g, 65535, .inl fi))]) hx hb hr rfl hlocks hQ hAe hK (hP.sub [0, 1, 2, 3, 4, 5, 6, 7] rfl) (hD.sub [0, 1, 2, 3, 4, 5, 6, 7] (by decide) rfl) hS (by omega) (by omega) dX9_chosen_130 ?_
        refine Or.inl (?_)
        exact ⟨fn, m_pathLength, 400, rfl, rfl, by exact ⟨by rw [hkk]; rfl, by rw [hkk]; decide⟩⟩
      · skip
        have c54 : ¬ (1 < le) := fun z => c54 ((nI_ltI (a := 1) (b := le) (by omega) (by omega)).mpr z)
        refine lv_aload_n hx hb dX9_chosen_57 rfl (lv_at hl 0 rfl) ?_
        refine va_get (D := gD g) (ci := 7) (v := .int (nI xb)) (C := RX9) (T := TX9) (N := 39) hx hb hts hinX9 hown hK hP 0 rfl rfl 28 (by decide) hf142 (fun _ h9 => h9) rfl dX9_chosen_58 ?_
        refine lv_if_eq (tgt := 74) hx hb dX9_chosen_61 (by decide) (fun c61 => ?_) (fun c61 => ?_)
        · skip
          have c61 : xb = 0 := (nI_eq (a := xb) (b := 0) (by omega) (by omega)).mp c61
          refine lv_aload_n hx hb dX9_chosen_74 rfl (lv_at hl 0 rfl) ?_
          refine va_get (D := gD g) (ci := 7) (v := .int (nI xg)) (C := RX9) (T := TX9) (N := 39) hx hb hts hinX9 hown hK hP 0 rfl rfl 29 (by decide) hf145 (fun _ h9 => h9) rfl dX9_chosen_75 ?_
          refine lv_if_eq (tgt := 91) hx hb dX9_chosen_78 (by decide) (fun c78 => ?_) (fun c78 => ?_)
          · skip
            have c78 : xg = 0 := (nI_eq (a := xg) (b := 0) (by omega) (by omega)).mp c78
            have hk_ := RB_ok rb (by omega) (by omega) (by omega) (by omega)
            refine lv_aload_n hx hb dX9_chosen_91 rfl (lv_at hl 0 rfl) ?_
            refine va_get (D := gD g) (ci := 7) (v := .int (nI ot)) (C := RX9) (T := TX9) (N := 39) hx hb hts hinX9 hown hK hP 0 rfl rfl 36 (by decide) hf185 (fun _ h9 => h9) rfl dX9_chosen_92 ?_
            refine lv_if_eq (tgt := 108) hx hb dX9_chosen_95 (by decide) (fun c95 => ?_) (fun c95 => ?_)
            · skip
              have c95 : ot = 0 := (nI_eq (a := ot) (b := 0) (by omega) (by omega)).mp c95
              obtain ⟨e1, hF1, hJ1⟩ := pJ_0 hJ (jdK_6 h32 hen (by omega) hk_.1 hk_.2 (by rcases hot with z_ | z_ <;> omega))
              refine lv_aload_n hx hb dX9_chosen_108 rfl (lv_at hl 0 rfl) ?_
              refine ct_callV (wr := [(am_, .inl (gB g, 3072, .inl fm)), (ap_, .inl (gI g, 64, .inl fp)), (aq_, .inl (gI g, 64, .inl fl)), (ac_, .inl (gI g, 64, .inl fc)), (ai_, .inl (gB g, 65535, .inl fi))]) hx hb hml hown hts hK hP hD hS hA hG hl.1 (c_unfold l g mm ((v0 : Value)) ((v1 : Value)) ((.ref ai_ : Value)) ((v3 : Value)) ((v4 : Value)) ((.int (nI c0) : Value)) ((.ref am_ : Value)) ((.ref ap_ : Value)) ((.ref aq_ : Value)) ((.ref ac_ : Value)) ((v10 : Value)) ((v11 : Value)) ((v12 : Value)) ((v13 : Value)) ((v14 : Value)) ((v15 : Value)) ((v16 : Value)) ah_ ((v18 : Value)) ((.int (nI 0) : Value)) ((v20 : Value)) ((.int (nI ov) : Value)) ((v22 : Value)) ((v23 : Value)) ((.int (nI ho) : Value)) ((.int (nI le) : Value)) ((.int (nI ma) : Value)) ((v27 : Value)) ((.int (nI xb) : Value)) ((.int (nI xg) : Value)) ((.int (nI xe) : Value)) ((v31 : Value)) tS tE an_ m_pathLength ((.int (nI ot) : Value)) ((.int (nI xa) : Value)) ((.int (nI xz) : Value)) fh f fn hn e1 (by omega) (by assumption) (by assumption) (by omega) (by omega) (by exact hF1)) (cwV 0 hts gX9_chosen_X9_unfolded rfl rfl rfl (by decide +kernel) ⟨Nat.le_of_ble_eq_true rfl, Nat.le_of_ble_eq_true rfl⟩) (va_recv hK hP (ci := 7) (q0 := 0) rfl rfl) rfl rfl (Nat.le_of_ble_eq_true rfl) dX9_chosen_109 ⟨show 0 + 0 ≤ 0 by omega, show 0 + 0 ≤ 0 by omega⟩ [0, 1, 2] [3, 4, 5, 6, 7] rfl rfl (by decide) (by decide) (by decide) (fun r_ w_ H locs hp_ hP hD hS => ?_)
              rcases hp_ with ⟨f1_109, s1_109, rfl, rfl, hnone_109⟩ | ⟨f1_109, s1_109, L_109, Nl_109, rfl, rfl, hNs_109, hL_109, hfin_109, hNf_109, hNv_109, hNl_109⟩
              · skip
                have hP : va_P (gD g) vwCl [(am_, .inl (gB g, 3072, .inl fm)), (ap_, .inl (gI g, 64, .inl fp)), (aq_, .inl (gI g, 64, .inl fl)), (ac_, .inl (gI g, 64, .inl fc)), (ai_, .inl (gB g, 65535, .inl fi)), (mm, .inr (7, v0 :: v1 :: .ref ai_ :: v3 :: v4 :: .int (nI c0) :: .ref am_ :: .ref ap_ :: .ref aq_ :: .ref ac_ :: v10 :: v11 :: v12 :: v13 :: v14 :: v15 :: v16 :: .ref ah_ :: v18 :: .int (nI 0) :: v20 :: .int (nI ov) :: v22 :: v23 :: .int (nI ho) :: .int (nI le) :: .int (nI ma) :: v27 :: .int (nI xb) :: .int (nI xg) :: .int (nI xe) :: v31 :: .int (nI tS) :: .int (nI tE) :: .ref an_ :: .int (nI s1_109) :: .int (nI ot) :: .int (nI xa) :: .int (nI xz) :: [])), (ah_, .inl (gB g, 4096, .inl fh)), (an_, .inl (gB g, 8192, .inl f1_109))] H := hP
                have hD : va_D A [(am_, .inl (gB g, 3072, .inl fm)), (ap_, .inl (gI g, 64, .inl fp)), (aq_, .inl (gI g, 64, .inl fl)), (ac_, .inl (gI g, 64, .inl fc)), (ai_, .inl (gB g, 65535, .inl fi)), (mm, .inr (7, v0 :: v1 :: .ref ai_ :: v3 :: v4 :: .int (nI c0) :: .ref am_ :: .ref ap_ :: .ref aq_ :: .ref ac_ :: v10 :: v11 :: v12 :: v13 :: v14 :: v15 :: v16 :: .ref ah_ :: v18 :: .int (nI 0) :: v20 :: .int (nI ov) :: v22 :: v23 :: .int (nI ho) :: .int (nI le) :: .int (nI ma) :: v27 :: .int (nI xb) :: .int (nI xg) :: .int (nI xe) :: v31 :: .int (nI tS) :: .int (nI tE) :: .ref an_ :: .int (nI s1_109) :: .int (nI ot) :: .int (nI xa) :: .int (nI xz) :: [])), (ah_, .inl (gB g, 4096, .inl fh)), (an_, .inl (gB g, 8192, .inl f1_109))] := hD
                have hnone_109 : pthL f e1 (e1 + 1) tS = none := hnone_109
                refine W.eq (g2 := F0 m 112 ls [.int (nI 0)]) rfl ?_
                have hkk : k = 2 := by
                  rcases hJ1 with z | ⟨L, Nl, z, -⟩
                  · exact z.2
                  · rw [hnone_109] at z; cases z
                refine lv_if_ne (tgt := 122) hx hb dX9_chosen_112 (by decide) (fun c112 => absurd (by decide) c112) (fun _ => ?_)
                refine lv_aload_n hx hb dX9_chosen_115 rfl (lv_at hl 0 rfl) ?_
                refine lv_sipush (v := nI 400) hx hb dX9_chosen_116 (by decide) ?_
                refine va_put (D := gD g) (ci := 7) (v := .int (nI 400)) (ty := .int) (C := RX9) (T := TX9) (N := 39) hx hb hts hinX9 tyX9 tyX9_ok nmX9 hown hK hP hD hS 5 rfl rfl 19 (by decide) hf111 (fun _ h9 => h9) rfl (by decide +kernel) rfl rfl (Nat.le_of_ble_eq_true rfl) dX9_chosen_119 (fun H locs hP hD hS => ?_)
                have hP : va_P (gD g) vwCl [(am_, .inl (gB g, 3072, .inl fm)), (ap_, .inl (gI g, 64, .inl fp)), (aq_, .inl (gI g, 64, .inl fl)), (ac_, .inl (gI g, 64, .inl fc)), (ai_, .inl (gB g, 65535, .inl fi)), (mm, .inr (7, v0 :: v1 :: .ref ai_ :: v3 :: v4 :: .int (nI c0) :: .ref am_ :: .ref ap_ :: .ref aq_ :: .ref ac_ :: v10 :: v11 :: v12 :: v13 :: v14 :: v15 :: v16 :: .ref ah_ :: v18 :: .int (nI 400) :: v20 :: .int (nI ov) :: v22 :: v23 :: .int (nI ho) :: .int (nI le) :: .int (nI ma) :: v27 :: .int (nI xb) :: .int (nI xg) :: .int (nI xe) :: v31 :: .int (nI tS) :: .int (nI tE) :: .ref an_ :: .int (nI s1_109) :: .int (nI ot) :: .int (nI xa) :: .int (nI xz) :: [])), (ah_, .inl (gB g, 4096, .inl fh)), (an_, .inl (gB g, 8192, .inl f1_109))] H := hP
                have hD : va_D A [(am_, .inl (gB g, 3072, .inl fm)), (ap_, .inl (gI g, 64, .inl fp)), (aq_, .inl (gI g, 64, .inl fl)), (ac_, .inl (gI g, 64, .inl fc)), (ai_, .inl (gB g, 65535, .inl fi)), (mm, .inr (7, v0 :: v1 :: .ref ai_ :: v3 :: v4 :: .int (nI c0) :: .ref am_ :: .ref ap_ :: .ref aq_ :: .ref ac_ :: v10 :: v11 :: v12 :: v13 :: v14 :: v15 :: v16 :: .ref ah_ :: v18 :: .int (nI 400) :: v20 :: .int (nI ov) :: v22 :: v23 :: .int (nI ho) :: .int (nI le) :: .int (nI ma) :: v27 :: .int (nI xb) :: .int (nI xg) :: .int (nI xe) :: v31 :: .int (nI tS) :: .int (nI tE) :: .ref an_ :: .int (nI s1_109) :: .int (nI ot) :: .int (nI xa) :: .int (nI xz) :: [])), (ah_, .inl (gB g, 4096, .inl fh)), (an_, .inl (gB g, 8192, .inl f1_109))] := hD
                refine lv_aload_n hx hb dX9_chosen_122 rfl (lv_at hl 0 rfl) ?_
                refine va_get (D := gD g) (ci := 7) (v := .int (nI 400)) (C := RX9) (T := TX9) (N := 39) hx hb hts hinX9 hown hK hP 5 rfl rfl 19 (by decide) hf111 (fun _ h9 => h9) rfl dX9_chosen_123 ?_
                refine lv_if_eq (tgt := 131) hx hb dX9_chosen_126 (by decide) (fun c126 => absurd c126 (by decide)) (fun _ => ?_)
                refine lv_iconst (v := (-1)) hx hb dX9_chosen_129 (by decide) ?_
                refine ct_iret (w := [(mm, .inr (7, v0 :: v1 :: .ref ai_ :: v3 :: v4 :: .int (nI c0) :: .ref am_ :: .ref ap_ :: .ref aq_ :: .ref ac_ :: v10 :: v11 :: v12 :: v13 :: v14 :: v15 :: v16 :: .ref ah_ :: v18 :: .int (nI 400) :: v20 :: .int (nI ov) :: v22 :: v23 :: .int (nI ho) :: .int (nI le) :: .int (nI ma) :: v27 :: .int (nI xb) :: .int (nI xg) :: .int (nI xe) :: v31 :: .int (nI tS) :: .int (nI tE) :: .ref an_ :: .int (nI s1_109) :: .int (nI ot) :: .int (nI xa) :: .int (nI xz) :: [])), (ah_, .inl (gB g, 4096, .inl fh)), (an_, .inl (gB g, 8192, .inl f1_109)), (am_, .inl (gB g, 3072, .inl fm)), (ap_, .inl (gI g, 64, .inl fp)), (aq_, .inl (gI g, 64, .inl fl)), (ac_, .inl (gI g, 64, .inl fc)), (ai_, .inl (gB g, 65535, .inl fi))]) hx hb hr rfl hlocks hQ hAe hK (hP.sub [5, 6, 7, 0, 1, 2, 3, 4] rfl) (hD.sub [5, 6, 7, 0, 1, 2, 3, 4] (by decide) rfl) hS (by omega) (by omega) dX9_chosen_130 ?_
                refine Or.inl (?_)
                exact ⟨f1_109, s1_109, 400, rfl, rfl, by exact ⟨by rw [hkk]; rfl, by rw [hkk]; decide⟩⟩
              · skip
                have hP : va_P (gD g) vwCl [(am_, .inl (gB g, 3072, .inl fm)), (ap_, .inl (gI g, 64, .inl fp)), (aq_, .inl (gI g, 64, .inl fl)), (ac_, .inl (gI g, 64, .inl fc)), (ai_, .inl (gB g, 65535, .inl fi)), (mm, .inr (7, v0 :: v1 :: .ref ai_ :: v3 :: v4 :: .int (nI c0) :: .ref am_ :: .ref ap_ :: .ref aq_ :: .ref ac_ :: v10 :: v11 :: v12 :: v13 :: v14 :: v15 :: v16 :: .ref ah_ :: v18 :: .int (nI 0) :: v20 :: .int (nI ov) :: v22 :: v23 :: .int (nI ho) :: .int (nI le) :: .int (nI ma) :: v27 :: .int (nI xb) :: .int (nI xg) :: .int (nI xe) :: v31 :: .int (nI tS) :: .int (nI tE) :: .ref an_ :: .int (nI s1_109) :: .int (nI ot) :: .int (nI xa) :: .int (nI xz) :: [])), (ah_, .inl (gB g, 4096, .inl fh)), (an_, .inl (gB g, 8192, .inl f1_109))] H := hP
                have hD : va_D A [(am_, .inl (gB g, 3072, .inl fm)), (ap_, .inl (gI g, 64, .inl fp)), (aq_, .inl (gI g, 64, .inl fl)), (ac_, .inl (gI g, 64, .inl fc)), (ai_, .inl (gB g, 65535, .inl fi)), (mm, .inr (7, v0 :: v1 :: .ref ai_ :: v3 :: v4 :: .int (nI c0) :: .ref am_ :: .ref ap_ :: .ref aq_ :: .ref ac_ :: v10 :: v11 :: v12 :: v13 :: v14 :: v15 :: v16 :: .ref ah_ :: v18 :: .int (nI 0) :: v20 :: .int (nI ov) :: v22 :: v23 :: .int (nI ho) :: .int (nI le) :: .int (nI ma) :: v27 :: .int (nI xb) :: .int (nI xg) :: .int (nI xe) :: v31 :: .int (nI tS) :: .int (nI tE) :: .ref an_ :: .int (nI s1_109) :: .int (nI ot) :: .int (nI xa) :: .int (nI xz) :: [])), (ah_, .inl (gB g, 4096, .inl fh)), (an_, .inl (gB g, 8192, .inl f1_109))] := hD
                have hNs_109 : s1_109 = Nl_109.length := hNs_109
                have hL_109 : pthL f e1 (e1 + 1) tS = some L_109 := hL_109
                have hfin_109 : finL L_109 Nl_109 := hfin_109
                have hNf_109 : hasL f1_109 0 Nl_109 := hNf_109
                have hNv_109 : ∀ j, j < Nl_109.length → pVis (Nl_109.getD j 0) := hNv_109
                have hNl_109 : Nl_109.length ≤ 4200 := hNl_109
                refine W.eq (g2 := F0 m 112 ls [.int (nI 1)]) rfl ?_
                have hJ2 := pJ_x (α := Nat) hJ1 hL_109 hfin_109
                refine lv_if_ne (tgt := 122) hx hb dX9_chosen_112 (by decide) (fun _ => ?_) (fun c112 => absurd c112 (by decide))
                refine lv_aload_n hx hb dX9_chosen_122 rfl (lv_at hl 0 rfl) ?_
                refine va_get (D := gD g) (ci := 7) (v := .int (nI 0)) (C := RX9) (T := TX9) (N := 39) hx hb hts hinX9 hown hK hP 5 rfl rfl 19 (by decide) hf111 (fun _ h9 => h9) rfl dX9_chosen_123 ?_
                refine lv_if_eq (tgt := 131) hx hb dX9_chosen_126 (by decide) (fun _ => ?_) (fun c126 => absurd (by decide) c126)
                refine lv_aload_n hx hb dX9_chosen_131 rfl (lv_at hl 0 rfl) ?_
                refine ct_callV (wr := [(ap_, .inl (gI g, 64, .inl fp)), (aq_, .inl (gI g, 64, .inl fl)), (ac_, .inl (gI g, 64, .inl fc)), (ai_, .inl (gB g, 65535, .inl fi)), (ah_, .inl (gB g, 4096, .inl fh))]) hx hb hml hown hts hK hP hD hS hA hG hl.1 (c_fileOf l g mm ((v0 : Value)) ((v1 : Value)) ((.ref ai_ : Value)) ((v3 : Value)) ((v4 : Value)) am_ ((.ref ap_ : Value)) ((.ref aq_ : Value)) ((.ref ac_ : Value)) ((v10 : Value)) ((v11 : Value)) ((v12 : Value)) ((v13 : Value)) ((v14 : Value)) ((v15 : Value)) ((v16 : Value)) ((.ref ah_ : Value)) ((v18 : Value)) ((.int (nI 0) : Value)) ((v20 : Value)) ((.int (nI ov) : Value)) ((v22 : Value)) ((v23 : Value)) ((.int (nI ho) : Value)) ((.int (nI le) : Value)) ((.int (nI ma) : Value)) ((v27 : Value)) ((.int (nI xb) : Value)) ((.int (nI xg) : Value)) ((.int (nI xe) : Value)) ((v31 : Value)) ((.int (nI tS) : Value)) ((.int (nI tE) : Value)) an_ ((.int (nI ot) : Value)) ((.int (nI xa) : Value)) ((.int (nI xz) : Value)) s1_109 fm f1_109 fe Nl_109 c0 (by omega) (by assumption) (by assumption) (by assumption) (by assumption) (by assumption) (by assumption)) (cwV 0 hts gX9_chosen_X9_fileOf rfl rfl rfl (by decide +kernel) ⟨Nat.le_of_ble_eq_true rfl, Nat.le_of_ble_eq_true rfl⟩) (va_recv hK hP (ci := 7) (q0 := 5) rfl rfl) rfl rfl (Nat.le_of_ble_eq_true rfl) dX9_chosen_132 ⟨show 0 + 0 ≤ 0 by omega, show 0 + 0 ≤ 0 by omega⟩ [5, 0, 7] [1, 2, 3, 4, 6] rfl rfl (by decide) (by decide) (by decide) (fun r_ w_ H locs hp_ hP hD hS => ?_)
                rcases hp_ with ⟨rfl, rfl, hno_132⟩ | ⟨t1_132, rfl, rfl, ht1_132, hnm_132, hmin_132⟩
                · skip
                  have hP : va_P (gD g) vwCl [(ap_, .inl (gI g, 64, .inl fp)), (aq_, .inl (gI g, 64, .inl fl)), (ac_, .inl (gI g, 64, .inl fc)), (ai_, .inl (gB g, 65535, .inl fi)), (ah_, .inl (gB g, 4096, .inl fh)), (mm, .inr (7, v0 :: v1 :: .ref ai_ :: v3 :: v4 :: .int (nI c0) :: .ref am_ :: .ref ap_ :: .ref aq_ :: .ref ac_ :: v10 :: v11 :: v12 :: v13 :: v14 :: v15 :: v16 :: .ref ah_ :: v18 :: .int (nI 0) :: v20 :: .int (nI ov) :: v22 :: v23 :: .int (nI ho) :: .int (nI le) :: .int (nI ma) :: v27 :: .int (nI xb) :: .int (nI xg) :: .int (nI xe) :: v31 :: .int (nI tS) :: .int (nI tE) :: .ref an_ :: .int (nI s1_109) :: .int (nI ot) :: .int (nI xa) :: .int (nI xz) :: [])), (am_, .inl (gB g, 3072, .inl fm)), (an_, .inl (gB g, 8192, .inl f1_109))] H := hP
                  have hD : va_D A [(ap_, .inl (gI g, 64, .inl fp)), (aq_, .inl (gI g, 64, .inl fl)), (ac_, .inl (gI g, 64, .inl fc)), (ai_, .inl (gB g, 65535, .inl fi)), (ah_, .inl (gB g, 4096, .inl fh)), (mm, .inr (7, v0 :: v1 :: .ref ai_ :: v3 :: v4 :: .int (nI c0) :: .ref am_ :: .ref ap_ :: .ref aq_ :: .ref ac_ :: v10 :: v11 :: v12 :: v13 :: v14 :: v15 :: v16 :: .ref ah_ :: v18 :: .int (nI 0) :: v20 :: .int (nI ov) :: v22 :: v23 :: .int (nI ho) :: .int (nI le) :: .int (nI ma) :: v27 :: .int (nI xb) :: .int (nI xg) :: .int (nI xe) :: v31 :: .int (nI tS) :: .int (nI tE) :: .ref an_ :: .int (nI s1_109) :: .int (nI ot) :: .int (nI xa) :: .int (nI xz) :: [])), (am_, .inl (gB g, 3072, .inl fm)), (an_, .inl (gB g, 8192, .inl f1_109))] := hD
                  have hno_132 : ∀ t, t < c0 → ¬ nmD fe t Nl_109 := hno_132
                  refine W.eq (g2 := F0 m 135 ls [.int (-1)]) rfl ?_
                  have hkk : k = 3 := by
                    rcases hJ2 with z | z
                    · exact z.2
                    · exact absurd z.2.1 (hno_132 _ z.1)
                  refine lv_istore_n (lv' := [(1, .int (-1)), (0, .ref mm)]) hx hb dX9_chosen_135 rfl hl (by decide) rfl (fun ls hl => ?_)
                  refine lv_iload_n hx hb dX9_chosen_136 rfl (lv_at hl 0 rfl) ?_
                  refine lv_if_ge (tgt := 150) hx hb dX9_chosen_137 (by decide) (fun c137 => absurd c137 (by decide)) (fun _ => ?_)
                  refine lv_aload_n hx hb dX9_chosen_140 rfl (lv_at hl 1 rfl) ?_
                  refine lv_sipush (v := nI 404) hx hb dX9_chosen_141 (by decide) ?_
                  refine va_put (D := gD g) (ci := 7) (v := .int (nI 404)) (ty := .int) (C := RX9) (T := TX9) (N := 39) hx hb hts hinX9 tyX9 tyX9_ok nmX9 hown hK hP hD hS 5 rfl rfl 19 (by decide) hf111 (fun _ h9 => h9) rfl (by decide +kernel) rfl rfl (Nat.le_of_ble_eq_true rfl) dX9_chosen_144 (fun H locs hP hD hS => ?_)
                  have hP : va_P (gD g) vwCl [(ap_, .inl (gI g, 64, .inl fp)), (aq_, .inl (gI g, 64, .inl fl)), (ac_, .inl (gI g, 64, .inl fc)), (ai_, .inl (gB g, 65535, .inl fi)), (ah_, .inl (gB g, 4096, .inl fh)), (mm, .inr (7, v0 :: v1 :: .ref ai_ :: v3 :: v4 :: .int (nI c0) :: .ref am_ :: .ref ap_ :: .ref aq_ :: .ref ac_ :: v10 :: v11 :: v12 :: v13 :: v14 :: v15 :: v16 :: .ref ah_ :: v18 :: .int (nI 404) :: v20 :: .int (nI ov) :: v22 :: v23 :: .int (nI ho) :: .int (nI le) :: .int (nI ma) :: v27 :: .int (nI xb) :: .int (nI xg) :: .int (nI xe) :: v31 :: .int (nI tS) :: .int (nI tE) :: .ref an_ :: .int (nI s1_109) :: .int (nI ot) :: .int (nI xa) :: .int (nI xz) :: [])), (am_, .inl (gB g, 3072, .inl fm)), (an_, .inl (gB g, 8192, .inl f1_109))] H := hP
                  have hD : va_D A [(ap_, .inl (gI g, 64, .inl fp)), (aq_, .inl (gI g, 64, .inl fl)), (ac_, .inl (gI g, 64, .inl fc)), (ai_, .inl (gB g, 65535, .inl fi)), (ah_, .inl (gB g, 4096, .inl fh)), (mm, .inr (7, v0 :: v1 :: .ref ai_ :: v3 :: v4 :: .int (nI c0) :: .ref am_ :: .ref ap_ :: .ref aq_ :: .ref ac_ :: v10 :: v11 :: v12 :: v13 :: v14 :: v15 :: v16 :: .ref ah_ :: v18 :: .int (nI 404) :: v20 :: .int (nI ov) :: v22 :: v23 :: .int (nI ho) :: .int (nI le) :: .int (nI ma) :: v27 :: .int (nI xb) :: .int (nI xg) :: .int (nI xe) :: v31 :: .int (nI tS) :: .int (nI tE) :: .ref an_ :: .int (nI s1_109) :: .int (nI ot) :: .int (nI xa) :: .int (nI xz) :: [])), (am_, .inl (gB g, 3072, .inl fm)), (an_, .inl (gB g, 8192, .inl f1_109))] := hD
                  refine lv_goto (tgt := 221) hx hb dX9_chosen_147 (by decide) ?_
                  refine lv_aload_n hx hb dX9_chosen_221 rfl (lv_at hl 1 rfl) ?_
                  refine va_get (D := gD g) (ci := 7) (v := .int (nI 404)) (C := RX9) (T := TX9) (N := 39) hx hb hts hinX9 hown hK hP 5 rfl rfl 19 (by decide) hf111 (fun _ h9 => h9) rfl dX9_chosen_222 ?_
                  refine lv_sipush (v := nI 200) hx hb dX9_chosen_225 (by decide) ?_
                  refine lv_icmp_eq (tgt := 241) hx hb dX9_chosen_228 (by decide) (fun c228 => absurd c228 (by decide)) (fun _ => ?_)
                  refine lv_aload_n hx hb dX9_chosen_231 rfl (lv_at hl 1 rfl) ?_
                  refine va_get (D := gD g) (ci := 7) (v := .int (nI 404)) (C := RX9) (T := TX9) (N := 39) hx hb hts hinX9 hown hK hP 5 rfl rfl 19 (by decide) hf111 (fun _ h9 => h9) rfl dX9_chosen_232 ?_
                  refine lv_sipush (v := nI 304) hx hb dX9_chosen_235 (by decide) ?_
                  refine lv_icmp_ne (tgt := 245) hx hb dX9_chosen_238 (by decide) (fun _ => ?_) (fun c238 => absurd c238 (by decide))
                  refine lv_iconst (v := (-1)) hx hb dX9_chosen_245 (by decide) ?_
                  refine ct_iret (w := [(mm, .inr (7, v0 :: v1 :: .ref ai_ :: v3 :: v4 :: .int (nI c0) :: .ref am_ :: .ref ap_ :: .ref aq_ :: .ref ac_ :: v10 :: v11 :: v12 :: v13 :: v14 :: v15 :: v16 :: .ref ah_ :: v18 :: .int (nI 404) :: v20 :: .int (nI ov) :: v22 :: v23 :: .int (nI ho) :: .int (nI le) :: .int (nI ma) :: v27 :: .int (nI xb) :: .int (nI xg) :: .int (nI xe) :: v31 :: .int (nI tS) :: .int (nI tE) :: .ref an_ :: .int (nI s1_109) :: .int (nI ot) :: .int (nI xa) :: .int (nI xz) :: [])), (ah_, .inl (gB g, 4096, .inl fh)), (an_, .inl (gB g, 8192, .inl f1_109)), (am_, .inl (gB g, 3072, .inl fm)), (ap_, .inl (gI g, 64, .inl fp)), (aq_, .inl (gI g, 64, .inl fl)), (ac_, .inl (gI g, 64, .inl fc)), (ai_, .inl (gB g, 65535, .inl fi))]) hx hb hr rfl hlocks hQ hAe hK (hP.sub [5, 4, 7, 6, 0, 1, 2, 3] rfl) (hD.sub [5, 4, 7, 6, 0, 1, 2, 3] (by decide) rfl) hS (by omega) (by omega) dX9_chosen_246 ?_
                  refine Or.inl (?_)
                  exact ⟨f1_109, s1_109, 404, rfl, rfl, by exact ⟨by rw [hkk]; rfl, by rw [hkk]; decide⟩⟩
                · skip
                  have hP : va_P (gD g) vwCl [(ap_, .inl (gI g, 64, .inl fp)), (aq_, .inl (gI g, 64, .inl fl)), (ac_, .inl (gI g, 64, .inl fc)), (ai_, .inl (gB g, 65535, .inl fi)), (ah_, .inl (gB g, 4096, .inl fh)), (mm, .inr (7, v0 :: v1 :: .ref ai_ :: v3 :: v4 :: .int (nI c0) :: .ref am_ :: .ref ap_ :: .ref aq_ :: .ref ac_ :: v10 :: v11 :: v12 :: v13 :: v14 :: v15 :: v16 :: .ref ah_ :: v18 :: .int (nI 0) :: v20 :: .int (nI ov) :: v22 :: v23 :: .int (nI ho) :: .int (nI le) :: .int (nI ma) :: v27 :: .int (nI xb) :: .int (nI xg) :: .int (nI xe) :: v31 :: .int (nI tS) :: .int (nI tE) :: .ref an_ :: .int (nI s1_109) :: .int (nI ot) :: .int (nI xa) :: .int (nI xz) :: [])), (am_, .inl (gB g, 3072, .inl fm)), (an_, .inl (gB g, 8192, .inl f1_109))] H := hP
                  have hD : va_D A [(ap_, .inl (gI g, 64, .inl fp)), (aq_, .inl (gI g, 64, .inl fl)), (ac_, .inl (gI g, 64, .inl fc)), (ai_, .inl (gB g, 65535, .inl fi)), (ah_, .inl (gB g, 4096, .inl fh)), (mm, .inr (7, v0 :: v1 :: .ref ai_ :: v3 :: v4 :: .int (nI c0) :: .ref am_ :: .ref ap_ :: .ref aq_ :: .ref ac_ :: v10 :: v11 :: v12 :: v13 :: v14 :: v15 :: v16 :: .ref ah_ :: v18 :: .int (nI 0) :: v20 :: .int (nI ov) :: v22 :: v23 :: .int (nI ho) :: .int (nI le) :: .int (nI ma) :: v27 :: .int (nI xb) :: .int (nI xg) :: .int (nI xe) :: v31 :: .int (nI tS) :: .int (nI tE) :: .ref an_ :: .int (nI s1_109) :: .int (nI ot) :: .int (nI xa) :: .int (nI xz) :: [])), (am_, .inl (gB g, 3072, .inl fm)), (an_, .inl (gB g, 8192, .inl f1_109))] := hD
                  have ht1_132 : t1_132 < c0 := ht1_132
                  have hnm_132 : nmD fe t1_132 Nl_109 := hnm_132
                  have hmin_132 : ∀ t, t < t1_132 → ¬ nmD fe t Nl_109 := hmin_132
                  refine W.eq (g2 := F0 m 135 ls [.int (nI t1_132)]) rfl ?_
                  have hJ3 := hJ2.resolve_left (fun z => z.1 _ ht1_132 hnm_132)
                  have hee : t1_132 = e0 := nm_u hnm_132 hmin_132 hJ3.2.1 hJ3.2.2.1
                  have hJ4 := hJ3.2.2.2
                  have hv1 := hval t1_132 ht1_132
                  refine lv_istore_n (lv' := [(1, .int (nI t1_132)), (0, .ref mm)]) hx hb dX9_chosen_135 rfl hl (by decide) rfl (fun ls hl => ?_)
                  refine lv_iload_n hx hb dX9_chosen_136 rfl (lv_at hl 0 rfl) ?_
                  refine lv_if_ge (tgt := 150) hx hb dX9_chosen_137 (by decide) (fun c137 => ?_) (fun c137 => ?_)
                  · skip
                    have c137 : 0 ≤ t1_132 := (nI_leI (a := 0) (b := t1_132) (by omega) (by omega)).mp c137
                    refine lv_aload_n hx hb dX9_chosen_150 rfl (lv_at hl 1 rfl) ?_
                    refine lv_aload_n hx hb dX9_chosen_151 rfl (lv_at hl 1 rfl) ?_
                    refine va_get (D := gD g) (ci := 7) (v := .ref ap_) (C := RX9) (T := TX9) (N := 39) hx hb hts hinX9 hown hK hP 5 rfl rfl 7 (by decide) hf21 (fun _ h9 => h9) rfl dX9_chosen_152 ?_
                    refine lv_iload_n hx hb dX9_chosen_155 rfl (lv_at hl 0 rfl) ?_
                    refine q_iald hx hb hK hP 0 rfl (t1_132) rfl (by omega) (by omega) dX9_chosen_156 ?_
                    refine q_top (v := nI (u32 (be4 fe (t1_132 * 64 + 48)))) (((hpl t1_132 ht1_132).1).trans (nI_u32 _).symm) ?_
                    refine lv_aload_n hx hb dX9_chosen_157 rfl (lv_at hl 1 rfl) ?_
                    refine va_get (D := gD g) (ci := 7) (v := .ref ap_) (C := RX9) (T := TX9) (N := 39) hx hb hts hinX9 hown hK hP 5 rfl rfl 7 (by decide) hf21 (fun _ h9 => h9) rfl dX9_chosen_158 ?_
                    refine lv_iload_n hx hb dX9_chosen_161 rfl (lv_at hl 0 rfl) ?_
                    refine q_iald hx hb hK hP 0 rfl (t1_132) rfl (by omega) (by omega) dX9_chosen_162 ?_
                    refine q_top (v := nI (u32 (be4 fe (t1_132 * 64 + 48)))) (((hpl t1_132 ht1_132).1).trans (nI_u32 _).symm) ?_
                    refine lv_aload_n hx hb dX9_chosen_163 rfl (lv_at hl 1 rfl) ?_
                    refine va_get (D := gD g) (ci := 7) (v := .ref aq_) (C := RX9) (T := TX9) (N := 39) hx hb hts hinX9 hown hK hP 5 rfl rfl 8 (by decide) hf25 (fun _ h9 => h9) rfl dX9_chosen_164 ?_
                    refine lv_iload_n hx hb dX9_chosen_167 rfl (lv_at hl 0 rfl) ?_
                    refine q_iald hx hb hK hP 1 rfl (t1_132) rfl (by omega) (by omega) dX9_chosen_168 ?_
                    refine q_top (v := nI (u32 (be4 fe (t1_132 * 64 + 52)))) (((hpl t1_132 ht1_132).2.1).trans (nI_u32 _).symm) ?_
                    refine q_iadd (v := nI (u32 (be4 fe (t1_132 * 64 + 48)) + (u32 (be4 fe (t1_132 * 64 + 52))))) hx hb dX9_chosen_169 (nI_add (u32 (be4 fe (t1_132 * 64 + 48))) (u32 (be4 fe (t1_132 * 64 + 52)))) ?_
                    refine ct_callV (wr := [(ap_, .inl (gI g, 64, .inl fp)), (aq_, .inl (gI g, 64, .inl fl)), (ac_, .inl (gI g, 64, .inl fc)), (ah_, .inl (gB g, 4096, .inl fh)), (am_, .inl (gB g, 3072, .inl fm)), (an_, .inl (gB g, 8192, .inl f1_109))]) hx hb hml hown hts hK hP hD hS hA hG hl.1 (c_mCheck l g mm ((v0 : Value)) ((v1 : Value)) ai_ ((v3 : Value)) ((v4 : Value)) ((.int (nI c0) : Value)) ((.ref am_ : Value)) ((.ref ap_ : Value)) ((.ref aq_ : Value)) ((.ref ac_ : Value)) ((v10 : Value)) ((v11 : Value)) ((v12 : Value)) ((v13 : Value)) ((v14 : Value)) ((v15 : Value)) ((v16 : Value)) ((.ref ah_ : Value)) ((v18 : Value)) ((.int (nI 0) : Value)) ((v20 : Value)) ((.int (nI ov) : Value)) ((v22 : Value)) ((v23 : Value)) ((.int (nI ho) : Value)) ((.int (nI le) : Value)) ((.int (nI ma) : Value)) ((v27 : Value)) ((.int (nI xb) : Value)) ((.int (nI xg) : Value)) ((.int (nI xe) : Value)) ((v31 : Value)) ((.int (nI tS) : Value)) ((.int (nI tE) : Value)) ((.ref an_ : Value)) ((.int (nI s1_109) : Value)) ((.int (nI ot) : Value)) ((.int (nI xa) : Value)) ((.int (nI xz) : Value)) fi fq si (u32 (be4 fe (t1_132 * 64 + 48))) (u32 (be4 fe (t1_132 * 64 + 48)) + (u32 (be4 fe (t1_132 * 64 + 52)))) (by omega) (by assumption) (by omega) (by omega)) (cwV 2 hts gX9_chosen_X9_check rfl rfl rfl (by decide +kernel) ⟨Nat.le_of_ble_eq_true rfl, Nat.le_of_ble_eq_true rfl⟩) (va_recv hK hP (ci := 7) (q0 := 5) rfl rfl) rfl rfl (Nat.le_of_ble_eq_true rfl) dX9_chosen_170 ⟨show 0 + 0 ≤ 0 by omega, show 0 + 0 ≤ 0 by omega⟩ [5, 3] [0, 1, 2, 4, 6, 7] rfl rfl (by decide) (by decide) (by decide) (fun r_ w_ H locs hp_ hP hD hS => ?_)
                    obtain ⟨rfl, rfl⟩ := hp_
                    have hP : va_P (gD g) vwCl [(ap_, .inl (gI g, 64, .inl fp)), (aq_, .inl (gI g, 64, .inl fl)), (ac_, .inl (gI g, 64, .inl fc)), (ah_, .inl (gB g, 4096, .inl fh)), (am_, .inl (gB g, 3072, .inl fm)), (an_, .inl (gB g, 8192, .inl f1_109)), (mm, .inr (7, v0 :: v1 :: .ref ai_ :: v3 :: v4 :: .int (nI c0) :: .ref am_ :: .ref ap_ :: .ref aq_ :: .ref ac_ :: v10 :: v11 :: v12 :: v13 :: v14 :: v15 :: v16 :: .ref ah_ :: v18 :: .int (nI 0) :: v20 :: .int (nI ov) :: v22 :: v23 :: .int (nI ho) :: .int (nI le) :: .int (nI ma) :: v27 :: .int (nI xb) :: .int (nI xg) :: .int (nI xe) :: v31 :: .int (nI tS) :: .int (nI tE) :: .ref an_ :: .int (nI s1_109) :: .int (nI ot) :: .int (nI xa) :: .int (nI xz) :: [])), (ai_, .inl (gB g, 65535, .inl fi))] H := hP
                    have hD : va_D A [(ap_, .inl (gI g, 64, .inl fp)), (aq_, .inl (gI g, 64, .inl fl)), (ac_, .inl (gI g, 64, .inl fc)), (ah_, .inl (gB g, 4096, .inl fh)), (am_, .inl (gB g, 3072, .inl fm)), (an_, .inl (gB g, 8192, .inl f1_109)), (mm, .inr (7, v0 :: v1 :: .ref ai_ :: v3 :: v4 :: .int (nI c0) :: .ref am_ :: .ref ap_ :: .ref aq_ :: .ref ac_ :: v10 :: v11 :: v12 :: v13 :: v14 :: v15 :: v16 :: .ref ah_ :: v18 :: .int (nI 0) :: v20 :: .int (nI ov) :: v22 :: v23 :: .int (nI ho) :: .int (nI le) :: .int (nI ma) :: v27 :: .int (nI xb) :: .int (nI xg) :: .int (nI xe) :: v31 :: .int (nI tS) :: .int (nI tE) :: .ref an_ :: .int (nI s1_109) :: .int (nI ot) :: .int (nI xa) :: .int (nI xz) :: [])), (ai_, .inl (gB g, 65535, .inl fi))] := hD
                    refine W.eq (g2 := F0 m 173 ls [.int (crcR fq (u32 (be4 fe (t1_132 * 64 + 48))) ((u32 (be4 fe (t1_132 * 64 + 48)) + (u32 (be4 fe (t1_132 * 64 + 52)))) - (u32 (be4 fe (t1_132 * 64 + 48)))) ^^^ -1)]) rfl ?_
                    refine lv_aload_n hx hb dX9_chosen_173 rfl (lv_at hl 1 rfl) ?_
                    refine va_get (D := gD g) (ci := 7) (v := .ref ac_) (C := RX9) (T := TX9) (N := 39) hx hb hts hinX9 hown hK hP 6 rfl rfl 9 (by decide) hf28 (fun _ h9 => h9) rfl dX9_chosen_174 ?_
                    refine lv_iload_n hx hb dX9_chosen_177 rfl (lv_at hl 0 rfl) ?_
                    refine q_iald hx hb hK hP 2 rfl (t1_132) rfl (by omega) (by omega) dX9_chosen_178 ?_
                    refine q_top (v := be4 fe (t1_132 * 64 + 56)) ((hpl t1_132 ht1_132).2.2) ?_
                    refine lv_icmp_eq (tgt := 192) hx hb dX9_chosen_179 (by decide) (fun c179 => ?_) (fun c179 => ?_)
                    · skip
                      have hcr : crcR fq (u32 (be4 fe (t1_132 * 64 + 48))) (u32 (be4 fe (t1_132 * 64 + 48)) + u32 (be4 fe (t1_132 * 64 + 52)) - u32 (be4 fe (t1_132 * 64 + 48))) = crcR fq (u32 (be4 fe (t1_132 * 64 + 48))) (u32 (be4 fe (t1_132 * 64 + 52))) := by rw [Nat.add_sub_cancel_left]
                      rw [hcr, hee] at c179
                      have hJ5 : (pMark f (be4 fe (e0 * 64 + 56)) ma mS mE ∧ k = 1) ∨ (¬ pMark f (be4 fe (e0 * 64 + 56)) ma mS mE ∧ k = 0 ∧ tk = typL Nl_109) := hJ4.elim (fun z => absurd c179 z.1) (fun z => z.2)
                      refine lv_aload_n hx hb dX9_chosen_192 rfl (lv_at hl 1 rfl) ?_
                      refine lv_aload_n hx hb dX9_chosen_193 rfl (lv_at hl 1 rfl) ?_
                      refine va_get (D := gD g) (ci := 7) (v := .int (nI ma)) (C := RX9) (T := TX9) (N := 39) hx hb hts hinX9 hown hK hP 6 rfl rfl 26 (by decide) hf136 (fun _ h9 => h9) rfl dX9_chosen_194 ?_
                      refine lv_iconst (v := nI 1) hx hb dX9_chosen_197 (by decide) ?_
                      refine lv_icmp_ne (tgt := 215) hx hb dX9_chosen_198 (by decide) (fun c198 => ?_) (fun c198 => ?_)
                      · skip
                        have c198 : ¬ (ma = 1) := fun z => c198 ((nI_eq (a := ma) (b := 1) (by omega) (by omega)).mpr z)
                        have hkk : k = 0 := by
                          rcases hJ5 with z | z
                          · exact absurd z.1.1 c198
                          · exact z.2.1
                        refine lv_sipush (v := nI 200) hx hb dX9_chosen_215 (by decide) ?_
                        refine va_put (D := gD g) (ci := 7) (v := .int (nI 200)) (ty := .int) (C := RX9) (T := TX9) (N := 39) hx hb hts hinX9 tyX9 tyX9_ok nmX9 hown hK hP hD hS 6 rfl rfl 19 (by decide) hf111 (fun _ h9 => h9) rfl (by decide +kernel) rfl rfl (Nat.le_of_ble_eq_true rfl) dX9_chosen_218 (fun H locs hP hD hS => ?_)
                        have hP : va_P (gD g) vwCl [(ap_, .inl (gI g, 64, .inl fp)), (aq_, .inl (gI g, 64, .inl fl)), (ac_, .inl (gI g, 64, .inl fc)), (ah_, .inl (gB g, 4096, .inl fh)), (am_, .inl (gB g, 3072, .inl fm)), (an_, .inl (gB g, 8192, .inl f1_109)), (mm, .inr (7, v0 :: v1 :: .ref ai_ :: v3 :: v4 :: .int (nI c0) :: .ref am_ :: .ref ap_ :: .ref aq_ :: .ref ac_ :: v10 :: v11 :: v12 :: v13 :: v14 :: v15 :: v16 :: .ref ah_ :: v18 :: .int (nI 200) :: v20 :: .int (nI ov) :: v22 :: v23 :: .int (nI ho) :: .int (nI le) :: .int (nI ma) :: v27 :: .int (nI xb) :: .int (nI xg) :: .int (nI xe) :: v31 :: .int (nI tS) :: .int (nI tE) :: .ref an_ :: .int (nI s1_109) :: .int (nI ot) :: .int (nI xa) :: .int (nI xz) :: [])), (ai_, .inl (gB g, 65535, .inl fi))] H := hP
                        have hD : va_D A [(ap_, .inl (gI g, 64, .inl fp)), (aq_, .inl (gI g, 64, .inl fl)), (ac_, .inl (gI g, 64, .inl fc)), (ah_, .inl (gB g, 4096, .inl fh)), (am_, .inl (gB g, 3072, .inl fm)), (an_, .inl (gB g, 8192, .inl f1_109)), (mm, .inr (7, v0 :: v1 :: .ref ai_ :: v3 :: v4 :: .int (nI c0) :: .ref am_ :: .ref ap_ :: .ref aq_ :: .ref ac_ :: v10 :: v11 :: v12 :: v13 :: v14 :: v15 :: v16 :: .ref ah_ :: v18 :: .int (nI 200) :: v20 :: .int (nI ov) :: v22 :: v23 :: .int (nI ho) :: .int (nI le) :: .int (nI ma) :: v27 :: .int (nI xb) :: .int (nI xg) :: .int (nI xe) :: v31 :: .int (nI tS) :: .int (nI tE) :: .ref an_ :: .int (nI s1_109) :: .int (nI ot) :: .int (nI xa) :: .int (nI xz) :: [])), (ai_, .inl (gB g, 65535, .inl fi))] := hD
                        refine lv_aload_n hx hb dX9_chosen_221 rfl (lv_at hl 1 rfl) ?_
                        refine va_get (D := gD g) (ci := 7) (v := .int (nI 200)) (C := RX9) (T := TX9) (N := 39) hx hb hts hinX9 hown hK hP 6 rfl rfl 19 (by decide) hf111 (fun _ h9 => h9) rfl dX9_chosen_222 ?_
                        refine lv_sipush (v := nI 200) hx hb dX9_chosen_225 (by decide) ?_
                        refine lv_icmp_eq (tgt := 241) hx hb dX9_chosen_228 (by decide) (fun _ => ?_) (fun c228 => absurd (by decide) c228)
                        refine lv_iload_n hx hb dX9_chosen_241 rfl (lv_at hl 0 rfl) ?_
                        refine lv_goto (tgt := 246) hx hb dX9_chosen_242 (by decide) ?_
                        refine ct_iret (w := [(mm, .inr (7, v0 :: v1 :: .ref ai_ :: v3 :: v4 :: .int (nI c0) :: .ref am_ :: .ref ap_ :: .ref aq_ :: .ref ac_ :: v10 :: v11 :: v12 :: v13 :: v14 :: v15 :: v16 :: .ref ah_ :: v18 :: .int (nI 200) :: v20 :: .int (nI ov) :: v22 :: v23 :: .int (nI ho) :: .int (nI le) :: .int (nI ma) :: v27 :: .int (nI xb) :: .int (nI xg) :: .int (nI xe) :: v31 :: .int (nI tS) :: .int (nI tE) :: .ref an_ :: .int (nI s1_109) :: .int (nI ot) :: .int (nI xa) :: .int (nI xz) :: [])), (ah_, .inl (gB g, 4096, .inl fh)), (an_, .inl (gB g, 8192, .inl f1_109)), (am_, .inl (gB g, 3072, .inl fm)), (ap_, .inl (gI g, 64, .inl fp)), (aq_, .inl (gI g, 64, .inl fl)), (ac_, .inl (gI g, 64, .inl fc)), (ai_, .inl (gB g, 65535, .inl fi))]) hx hb hr rfl hlocks hQ hAe hK (hP.sub [6, 3, 5, 4, 0, 1, 2, 7] rfl) (hD.sub [6, 3, 5, 4, 0, 1, 2, 7] (by decide) rfl) hS (by omega) (by omega) dX9_chosen_246 ?_
                        refine Or.inr ((?_))
                        exact ⟨f1_109, s1_109, 200, t1_132, rfl, rfl, by exact ⟨by rw [hkk]; rfl, by rw [hkk]; decide⟩, by exact ⟨hee, by omega⟩, by exact ⟨Nl_109, by rw [← hee]; exact hnm_132, hNv_109, fun z => hJ5.elim (fun w => absurd (w.2.symm.trans z) (by decide)) (fun w => w.2.2)⟩⟩
                      · skip
                        have c198 : ma = 1 := (nI_eq (a := ma) (b := 1) (by omega) (by omega)).mp c198
                        refine lv_aload_n hx hb dX9_chosen_201 rfl (lv_at hl 1 rfl) ?_
                        refine lv_iload_n hx hb dX9_chosen_202 rfl (lv_at hl 0 rfl) ?_
                        refine ct_callV (wr := [(ap_, .inl (gI g, 64, .inl fp)), (aq_, .inl (gI g, 64, .inl fl)), (am_, .inl (gB g, 3072, .inl fm)), (an_, .inl (gB g, 8192, .inl f1_109)), (ai_, .inl (gB g, 65535, .inl fi))]) hx hb hml hown hts hK hP hD hS hA hG hl.1 (c_fits l g mm ((v0 : Value)) ((v1 : Value)) ((.ref ai_ : Value)) ((v3 : Value)) ((v4 : Value)) ((.int (nI c0) : Value)) ((.ref am_ : Value)) ((.ref ap_ : Value)) ((.ref aq_ : Value)) ac_ ((v10 : Value)) ((v11 : Value)) ((v12 : Value)) ((v13 : Value)) ((v14 : Value)) ((v15 : Value)) ((v16 : Value)) ah_ ((v18 : Value)) ((.int (nI 0) : Value)) ((v20 : Value)) ((.int (nI ov) : Value)) ((v22 : Value)) ((v23 : Value)) ((.int (nI ho) : Value)) ((.int (nI le) : Value)) ((.int (nI ma) : Value)) ((v27 : Value)) ((.int (nI xb) : Value)) ((.int (nI xg) : Value)) ((.int (nI xe) : Value)) ((v31 : Value)) ((.int (nI tS) : Value)) ((.int (nI tE) : Value)) ((.ref an_ : Value)) ((.int (nI s1_109) : Value)) ((.int (nI ot) : Value)) xa xz fh f fc hn t1_132 (be4 fe (t1_132 * 64 + 56)) (by omega) (by assumption) (by assumption) (by rw [(rkd.1 (by omega)).1, (rkd.1 (by omega)).2]; exact rkd.2 (by omega)) (by omega) (by exact (hpl t1_132 ht1_132).2.2)) (cwV 1 hts gX9_chosen_X9_fits rfl rfl rfl (by decide +kernel) ⟨Nat.le_of_ble_eq_true rfl, Nat.le_of_ble_eq_true rfl⟩) (va_recv hK hP (ci := 7) (q0 := 6) rfl rfl) rfl rfl (Nat.le_of_ble_eq_true rfl) dX9_chosen_203 ⟨show 0 + 0 ≤ 0 by omega, show 0 + 0 ≤ 0 by omega⟩ [6, 3, 2] [0, 1, 4, 5, 7] rfl rfl (by decide) (by decide) (by decide) (fun r_ w_ H locs hp_ hP hD hS => ?_)
                        rcases hp_ with ⟨rfl, rfl, hT_203⟩ | ⟨rfl, rfl, hF_203⟩
                        · skip
                          have hP : va_P (gD g) vwCl [(ap_, .inl (gI g, 64, .inl fp)), (aq_, .inl (gI g, 64, .inl fl)), (am_, .inl (gB g, 3072, .inl fm)), (an_, .inl (gB g, 8192, .inl f1_109)), (ai_, .inl (gB g, 65535, .inl fi)), (mm, .inr (7, v0 :: v1 :: .ref ai_ :: v3 :: v4 :: .int (nI c0) :: .ref am_ :: .ref ap_ :: .ref aq_ :: .ref ac_ :: v10 :: v11 :: v12 :: v13 :: v14 :: v15 :: v16 :: .ref ah_ :: v18 :: .int (nI 0) :: v20 :: .int (nI ov) :: v22 :: v23 :: .int (nI ho) :: .int (nI le) :: .int (nI ma) :: v27 :: .int (nI xb) :: .int (nI xg) :: .int (nI xe) :: v31 :: .int (nI tS) :: .int (nI tE) :: .ref an_ :: .int (nI s1_109) :: .int (nI ot) :: .int (nI xa) :: .int (nI xz) :: [])), (ah_, .inl (gB g, 4096, .inl fh)), (ac_, .inl (gI g, 64, .inl fc))] H := hP
                          have hD : va_D A [(ap_, .inl (gI g, 64, .inl fp)), (aq_, .inl (gI g, 64, .inl fl)), (am_, .inl (gB g, 3072, .inl fm)), (an_, .inl (gB g, 8192, .inl f1_109)), (ai_, .inl (gB g, 65535, .inl fi)), (mm, .inr (7, v0 :: v1 :: .ref ai_ :: v3 :: v4 :: .int (nI c0) :: .ref am_ :: .ref ap_ :: .ref aq_ :: .ref ac_ :: v10 :: v11 :: v12 :: v13 :: v14 :: v15 :: v16 :: .ref ah_ :: v18 :: .int (nI 0) :: v20 :: .int (nI ov) :: v22 :: v23 :: .int (nI ho) :: .int (nI le) :: .int (nI ma) :: v27 :: .int (nI xb) :: .int (nI xg) :: .int (nI xe) :: v31 :: .int (nI tS) :: .int (nI tE) :: .ref an_ :: .int (nI s1_109) :: .int (nI ot) :: .int (nI xa) :: .int (nI xz) :: [])), (ah_, .inl (gB g, 4096, .inl fh)), (ac_, .inl (gI g, 64, .inl fc))] := hD
                          have hT_203 : pMark f (be4 fe (t1_132 * 64 + 56)) 1 xa xz := hT_203
                          refine W.eq (g2 := F0 m 206 ls [.int (nI 1), .ref mm]) rfl ?_
                          have hkk : k = 1 := by
                            have hm_ := hT_203
                            rw [(rkd.1 (by omega)).1, (rkd.1 (by omega)).2, hee] at hm_
                            rcases hJ5 with z | z
                            · exact z.2
                            · exact absurd (by rw [c198]; exact hm_) z.1
                          refine lv_if_eq (tgt := 215) hx hb dX9_chosen_206 (by decide) (fun c206 => absurd c206 (by decide)) (fun _ => ?_)
                          refine lv_sipush (v := nI 304) hx hb dX9_chosen_209 (by decide) ?_
                          refine lv_goto (tgt := 218) hx hb dX9_chosen_212 (by decide) ?_
                          refine va_put (D := gD g) (ci := 7) (v := .int (nI 304)) (ty := .int) (C := RX9) (T := TX9) (N := 39) hx hb hts hinX9 tyX9 tyX9_ok nmX9 hown hK hP hD hS 5 rfl rfl 19 (by decide) hf111 (fun _ h9 => h9) rfl (by decide +kernel) rfl rfl (Nat.le_of_ble_eq_true rfl) dX9_chosen_218 (fun H locs hP hD hS => ?_)
                          have hP : va_P (gD g) vwCl [(ap_, .inl (gI g, 64, .inl fp)), (aq_, .inl (gI g, 64, .inl fl)), (am_, .inl (gB g, 3072, .inl fm)), (an_, .inl (gB g, 8192, .inl f1_109)), (ai_, .inl (gB g, 65535, .inl fi)), (mm, .inr (7, v0 :: v1 :: .ref ai_ :: v3 :: v4 :: .int (nI c0) :: .ref am_ :: .ref ap_ :: .ref aq_ :: .ref ac_ :: v10 :: v11 :: v12 :: v13 :: v14 :: v15 :: v16 :: .ref ah_ :: v18 :: .int (nI 304) :: v20 :: .int (nI ov) :: v22 :: v23 :: .int (nI ho) :: .int (nI le) :: .int (nI ma) :: v27 :: .int (nI xb) :: .int (nI xg) :: .int (nI xe) :: v31 :: .int (nI tS) :: .int (nI tE) :: .ref an_ :: .int (nI s1_109) :: .int (nI ot) :: .int (nI xa) :: .int (nI xz) :: [])), (ah_, .inl (gB g, 4096, .inl fh)), (ac_, .inl (gI g, 64, .inl fc))] H := hP
                          have hD : va_D A [(ap_, .inl (gI g, 64, .inl fp)), (aq_, .inl (gI g, 64, .inl fl)), (am_, .inl (gB g, 3072, .inl fm)), (an_, .inl (gB g, 8192, .inl f1_109)), (ai_, .inl (gB g, 65535, .inl fi)), (mm, .inr (7, v0 :: v1 :: .ref ai_ :: v3 :: v4 :: .int (nI c0) :: .ref am_ :: .ref ap_ :: .ref aq_ :: .ref ac_ :: v10 :: v11 :: v12 :: v13 :: v14 :: v15 :: v16 :: .ref ah_ :: v18 :: .int (nI 304) :: v20 :: .int (nI ov) :: v22 :: v23 :: .int (nI ho) :: .int (nI le) :: .int (nI ma) :: v27 :: .int (nI xb) :: .int (nI xg) :: .int (nI xe) :: v31 :: .int (nI tS) :: .int (nI tE) :: .ref an_ :: .int (nI s1_109) :: .int (nI ot) :: .int (nI xa) :: .int (nI xz) :: [])), (ah_, .inl (gB g, 4096, .inl fh)), (ac_, .inl (gI g, 64, .inl fc))] := hD
                          refine lv_aload_n hx hb dX9_chosen_221 rfl (lv_at hl 1 rfl) ?_
                          refine va_get (D := gD g) (ci := 7) (v := .int (nI 304)) (C := RX9) (T := TX9) (N := 39) hx hb hts hinX9 hown hK hP 5 rfl rfl 19 (by decide) hf111 (fun _ h9 => h9) rfl dX9_chosen_222 ?_
                          refine lv_sipush (v := nI 200) hx hb dX9_chosen_225 (by decide) ?_
                          refine lv_icmp_eq (tgt := 241) hx hb dX9_chosen_228 (by decide) (fun c228 => absurd c228 (by decide)) (fun _ => ?_)
                          refine lv_aload_n hx hb dX9_chosen_231 rfl (lv_at hl 1 rfl) ?_
                          refine va_get (D := gD g) (ci := 7) (v := .int (nI 304)) (C := RX9) (T := TX9) (N := 39) hx hb hts hinX9 hown hK hP 5 rfl rfl 19 (by decide) hf111 (fun _ h9 => h9) rfl dX9_chosen_232 ?_
                          refine lv_sipush (v := nI 304) hx hb dX9_chosen_235 (by decide) ?_
                          refine lv_icmp_ne (tgt := 245) hx hb dX9_chosen_238 (by decide) (fun c238 => absurd (by decide) c238) (fun _ => ?_)
                          refine lv_iload_n hx hb dX9_chosen_241 rfl (lv_at hl 0 rfl) ?_
                          refine lv_goto (tgt := 246) hx hb dX9_chosen_242 (by decide) ?_
                          refine ct_iret (w := [(mm, .inr (7, v0 :: v1 :: .ref ai_ :: v3 :: v4 :: .int (nI c0) :: .ref am_ :: .ref ap_ :: .ref aq_ :: .ref ac_ :: v10 :: v11 :: v12 :: v13 :: v14 :: v15 :: v16 :: .ref ah_ :: v18 :: .int (nI 304) :: v20 :: .int (nI ov) :: v22 :: v23 :: .int (nI ho) :: .int (nI le) :: .int (nI ma) :: v27 :: .int (nI xb) :: .int (nI xg) :: .int (nI xe) :: v31 :: .int (nI tS) :: .int (nI tE) :: .ref an_ :: .int (nI s1_109) :: .int (nI ot) :: .int (nI xa) :: .int (nI xz) :: [])), (ah_, .inl (gB g, 4096, .inl fh)), (an_, .inl (gB g, 8192, .inl f1_109)), (am_, .inl (gB g, 3072, .inl fm)), (ap_, .inl (gI g, 64, .inl fp)), (aq_, .inl (gI g, 64, .inl fl)), (ac_, .inl (gI g, 64, .inl fc)), (ai_, .inl (gB g, 65535, .inl fi))]) hx hb hr rfl hlocks hQ hAe hK (hP.sub [5, 6, 3, 2, 0, 1, 7, 4] rfl) (hD.sub [5, 6, 3, 2, 0, 1, 7, 4] (by decide) rfl) hS (by omega) (by omega) dX9_chosen_246 ?_
                          refine Or.inr ((?_))
                          exact ⟨f1_109, s1_109, 304, t1_132, rfl, rfl, by exact ⟨by rw [hkk]; rfl, by rw [hkk]; decide⟩, by exact ⟨hee, by omega⟩, by exact ⟨Nl_109, by rw [← hee]; exact hnm_132, hNv_109, fun z => hJ5.elim (fun w => absurd (w.2.symm.trans z) (by decide)) (fun w => w.2.2)⟩⟩
                        · skip
                          have hP : va_P (gD g) vwCl [(ap_, .inl (gI g, 64, .inl fp)), (aq_, .inl (gI g, 64, .inl fl)), (am_, .inl (gB g, 3072, .inl fm)), (an_, .inl (gB g, 8192, .inl f1_109)), (ai_, .inl (gB g, 65535, .inl fi)), (mm, .inr (7, v0 :: v1 :: .ref ai_ :: v3 :: v4 :: .int (nI c0) :: .ref am_ :: .ref ap_ :: .ref aq_ :: .ref ac_ :: v10 :: v11 :: v12 :: v13 :: v14 :: v15 :: v16 :: .ref ah_ :: v18 :: .int (nI 0) :: v20 :: .int (nI ov) :: v22 :: v23 :: .int (nI ho) :: .int (nI le) :: .int (nI ma) :: v27 :: .int (nI xb) :: .int (nI xg) :: .int (nI xe) :: v31 :: .int (nI tS) :: .int (nI tE) :: .ref an_ :: .int (nI s1_109) :: .int (nI ot) :: .int (nI xa) :: .int (nI xz) :: [])), (ah_, .inl (gB g, 4096, .inl fh)), (ac_, .inl (gI g, 64, .inl fc))] H := hP
                          have hD : va_D A [(ap_, .inl (gI g, 64, .inl fp)), (aq_, .inl (gI g, 64, .inl fl)), (am_, .inl (gB g, 3072, .inl fm)), (an_, .inl (gB g, 8192, .inl f1_109)), (ai_, .inl (gB g, 65535, .inl fi)), (mm, .inr (7, v0 :: v1 :: .ref ai_ :: v3 :: v4 :: .int (nI c0) :: .ref am_ :: .ref ap_ :: .ref aq_ :: .ref ac_ :: v10 :: v11 :: v12 :: v13 :: v14 :: v15 :: v16 :: .ref ah_ :: v18 :: .int (nI 0) :: v20 :: .int (nI ov) :: v22 :: v23 :: .int (nI ho) :: .int (nI le) :: .int (nI ma) :: v27 :: .int (nI xb) :: .int (nI xg) :: .int (nI xe) :: v31 :: .int (nI tS) :: .int (nI tE) :: .ref an_ :: .int (nI s1_109) :: .int (nI ot) :: .int (nI xa) :: .int (nI xz) :: [])), (ah_, .inl (gB g, 4096, .inl fh)), (ac_, .inl (gI g, 64, .inl fc))] := hD
                          have hF_203 : ¬ (pMark f (be4 fe (t1_132 * 64 + 56)) 1 xa xz) := hF_203
                          refine W.eq (g2 := F0 m 206 ls [.int (nI 0), .ref mm]) rfl ?_
                          have hkk : k = 0 := by
                            have hm_ := hF_203
                            rw [(rkd.1 (by omega)).1, (rkd.1 (by omega)).2, hee] at hm_
                            rcases hJ5 with z | z
                            · exact absurd (by rw [← c198]; exact z.1) hm_
                            · exact z.2.1
                          refine lv_if_eq (tgt := 215) hx hb dX9_chosen_206 (by decide) (fun _ => ?_) (fun c206 => absurd (by decide) c206)
                          refine lv_sipush (v := nI 200) hx hb dX9_chosen_215 (by decide) ?_
                          refine va_put (D := gD g) (ci := 7) (v := .int (nI 200)) (ty := .int) (C := RX9) (T := TX9) (N := 39) hx hb hts hinX9 tyX9 tyX9_ok nmX9 hown hK hP hD hS 5 rfl rfl 19 (by decide) hf111 (fun _ h9 => h9) rfl (by decide +kernel) rfl rfl (Nat.le_of_ble_eq_true rfl) dX9_chosen_218 (fun H locs hP hD hS => ?_)
                          have hP : va_P (gD g) vwCl [(ap_, .inl (gI g, 64, .inl fp)), (aq_, .inl (gI g, 64, .inl fl)), (am_, .inl (gB g, 3072, .inl fm)), (an_, .inl (gB g, 8192, .inl f1_109)), (ai_, .inl (gB g, 65535, .inl fi)), (mm, .inr (7, v0 :: v1 :: .ref ai_ :: v3 :: v4 :: .int (nI c0) :: .ref am_ :: .ref ap_ :: .ref aq_ :: .ref ac_ :: v10 :: v11 :: v12 :: v13 :: v14 :: v15 :: v16 :: .ref ah_ :: v18 :: .int (nI 200) :: v20 :: .int (nI ov) :: v22 :: v23 :: .int (nI ho) :: .int (nI le) :: .int (nI ma) :: v27 :: .int (nI xb) :: .int (nI xg) :: .int (nI xe) :: v31 :: .int (nI tS) :: .int (nI tE) :: .ref an_ :: .int (nI s1_109) :: .int (nI ot) :: .int (nI xa) :: .int (nI xz) :: [])), (ah_, .inl (gB g, 4096, .inl fh)), (ac_, .inl (gI g, 64, .inl fc))] H := hP
                          have hD : va_D A [(ap_, .inl (gI g, 64, .inl fp)), (aq_, .inl (gI g, 64, .inl fl)), (am_, .inl (gB g, 3072, .inl fm)), (an_, .inl (gB g, 8192, .inl f1_109)), (ai_, .inl (gB g, 65535, .inl fi)), (mm, .inr (7, v0 :: v1 :: .ref ai_ :: v3 :: v4 :: .int (nI c0) :: .ref am_ :: .ref ap_ :: .ref aq_ :: .ref ac_ :: v10 :: v11 :: v12 :: v13 :: v14 :: v15 :: v16 :: .ref ah_ :: v18 :: .int (nI 200) :: v20 :: .int (nI ov) :: v22 :: v23 :: .int (nI ho) :: .int (nI le) :: .int (nI ma) :: v27 :: .int (nI xb) :: .int (nI xg) :: .int (nI xe) :: v31 :: .int (nI tS) :: .int (nI tE) :: .ref an_ :: .int (nI s1_109) :: .int (nI ot) :: .int (nI xa) :: .int (nI xz) :: [])), (ah_, .inl (gB g, 4096, .inl fh)), (ac_, .inl (gI g, 64, .inl fc))] := hD
                          refine lv_aload_n hx hb dX9_chosen_221 rfl (lv_at hl 1 rfl) ?_
                          refine va_get (D := gD g) (ci := 7) (v := .int (nI 200)) (C := RX9) (T := TX9) (N := 39) hx hb hts hinX9 hown hK hP 5 rfl rfl 19 (by decide) hf111 (fun _ h9 => h9) rfl dX9_chosen_222 ?_
                          refine lv_sipush (v := nI 200) hx hb dX9_chosen_225 (by decide) ?_
                          refine lv_icmp_eq (tgt := 241) hx hb dX9_chosen_228 (by decide) (fun _ => ?_) (fun c228 => absurd (by decide) c228)
                          refine lv_iload_n hx hb dX9_chosen_241 rfl (lv_at hl 0 rfl) ?_
                          refine lv_goto (tgt := 246) hx hb dX9_chosen_242 (by decide) ?_
                          refine ct_iret (w := [(mm, .inr (7, v0 :: v1 :: .ref ai_ :: v3 :: v4 :: .int (nI c0) :: .ref am_ :: .ref ap_ :: .ref aq_ :: .ref ac_ :: v10 :: v11 :: v12 :: v13 :: v14 :: v15 :: v16 :: .ref ah_ :: v18 :: .int (nI 200) :: v20 :: .int (nI ov) :: v22 :: v23 :: .int (nI ho) :: .int (nI le) :: .int (nI ma) :: v27 :: .int (nI xb) :: .int (nI xg) :: .int (nI xe) :: v31 :: .int (nI tS) :: .int (nI tE) :: .ref an_ :: .int (nI s1_109) :: .int (nI ot) :: .int (nI xa) :: .int (nI xz) :: [])), (ah_, .inl (gB g, 4096, .inl fh)), (an_, .inl (gB g, 8192, .inl f1_109)), (am_, .inl (gB g, 3072, .inl fm)), (ap_, .inl (gI g, 64, .inl fp)), (aq_, .inl (gI g, 64, .inl fl)), (ac_, .inl (gI g, 64, .inl fc)), (ai_, .inl (gB g, 65535, .inl fi))]) hx hb hr rfl hlocks hQ hAe hK (hP.sub [5, 6, 3, 2, 0, 1, 7, 4] rfl) (hD.sub [5, 6, 3, 2, 0, 1, 7, 4] (by decide) rfl) hS (by omega) (by omega) dX9_chosen_246 ?_
                          refine Or.inr ((?_))
                          exact ⟨f1_109, s1_109, 200, t1_132, rfl, rfl, by exact ⟨by rw [hkk]; rfl, by rw [hkk]; decide⟩, by exact ⟨hee, by omega⟩, by exact ⟨Nl_109, by rw [← hee]; exact hnm_132, hNv_109, fun z => hJ5.elim (fun w => absurd (w.2.symm.trans z) (by decide)) (fun w => w.2.2)⟩⟩
                    · skip
                      have hcr : crcR fq (u32 (be4 fe (t1_132 * 64 + 48))) (u32 (be4 fe (t1_132 * 64 + 48)) + u32 (be4 fe (t1_132 * 64 + 52)) - u32 (be4 fe (t1_132 * 64 + 48))) = crcR fq (u32 (be4 fe (t1_132 * 64 + 48))) (u32 (be4 fe (t1_132 * 64 + 52))) := by rw [Nat.add_sub_cancel_left]
                      rw [hcr, hee] at c179
                      have hkk : k = 7 := hJ4.elim (fun z => z.2) (fun z => absurd z.1 c179)
                      refine lv_aload_n hx hb dX9_chosen_182 rfl (lv_at hl 1 rfl) ?_
                      refine lv_sipush (v := nI 500) hx hb dX9_chosen_183 (by decide) ?_
                      refine va_put (D := gD g) (ci := 7) (v := .int (nI 500)) (ty := .int) (C := RX9) (T := TX9) (N := 39) hx hb hts hinX9 tyX9 tyX9_ok nmX9 hown hK hP hD hS 6 rfl rfl 19 (by decide) hf111 (fun _ h9 => h9) rfl (by decide +kernel) rfl rfl (Nat.le_of_ble_eq_true rfl) dX9_chosen_186 (fun H locs hP hD hS => ?_)
                      have hP : va_P (gD g) vwCl [(ap_, .inl (gI g, 64, .inl fp)), (aq_, .inl (gI g, 64, .inl fl)), (ac_, .inl (gI g, 64, .inl fc)), (ah_, .inl (gB g, 4096, .inl fh)), (am_, .inl (gB g, 3072, .inl fm)), (an_, .inl (gB g, 8192, .inl f1_109)), (mm, .inr (7, v0 :: v1 :: .ref ai_ :: v3 :: v4 :: .int (nI c0) :: .ref am_ :: .ref ap_ :: .ref aq_ :: .ref ac_ :: v10 :: v11 :: v12 :: v13 :: v14 :: v15 :: v16 :: .ref ah_ :: v18 :: .int (nI 500) :: v20 :: .int (nI ov) :: v22 :: v23 :: .int (nI ho) :: .int (nI le) :: .int (nI ma) :: v27 :: .int (nI xb) :: .int (nI xg) :: .int (nI xe) :: v31 :: .int (nI tS) :: .int (nI tE) :: .ref an_ :: .int (nI s1_109) :: .int (nI ot) :: .int (nI xa) :: .int (nI xz) :: [])), (ai_, .inl (gB g, 65535, .inl fi))] H := hP
                      have hD : va_D A [(ap_, .inl (gI g, 64, .inl fp)), (aq_, .inl (gI g, 64, .inl fl)), (ac_, .inl (gI g, 64, .inl fc)), (ah_, .inl (gB g, 4096, .inl fh)), (am_, .inl (gB g, 3072, .inl fm)), (an_, .inl (gB g, 8192, .inl f1_109)), (mm, .inr (7, v0 :: v1 :: .ref ai_ :: v3 :: v4 :: .int (nI c0) :: .ref am_ :: .ref ap_ :: .ref aq_ :: .ref ac_ :: v10 :: v11 :: v12 :: v13 :: v14 :: v15 :: v16 :: .ref ah_ :: v18 :: .int (nI 500) :: v20 :: .int (nI ov) :: v22 :: v23 :: .int (nI ho) :: .int (nI le) :: .int (nI ma) :: v27 :: .int (nI xb) :: .int (nI xg) :: .int (nI xe) :: v31 :: .int (nI tS) :: .int (nI tE) :: .ref an_ :: .int (nI s1_109) :: .int (nI ot) :: .int (nI xa) :: .int (nI xz) :: [])), (ai_, .inl (gB g, 65535, .inl fi))] := hD
                      refine lv_goto (tgt := 221) hx hb dX9_chosen_189 (by decide) ?_
                      refine lv_aload_n hx hb dX9_chosen_221 rfl (lv_at hl 1 rfl) ?_
                      refine va_get (D := gD g) (ci := 7) (v := .int (nI 500)) (C := RX9) (T := TX9) (N := 39) hx hb hts hinX9 hown hK hP 6 rfl rfl 19 (by decide) hf111 (fun _ h9 => h9) rfl dX9_chosen_222 ?_
                      refine lv_sipush (v := nI 200) hx hb dX9_chosen_225 (by decide) ?_
                      refine lv_icmp_eq (tgt := 241) hx hb dX9_chosen_228 (by decide) (fun c228 => absurd c228 (by decide)) (fun _ => ?_)
                      refine lv_aload_n hx hb dX9_chosen_231 rfl (lv_at hl 1 rfl) ?_
                      refine va_get (D := gD g) (ci := 7) (v := .int (nI 500)) (C := RX9) (T := TX9) (N := 39) hx hb hts hinX9 hown hK hP 6 rfl rfl 19 (by decide) hf111 (fun _ h9 => h9) rfl dX9_chosen_232 ?_
                      refine lv_sipush (v := nI 304) hx hb dX9_chosen_235 (by decide) ?_
                      refine lv_icmp_ne (tgt := 245) hx hb dX9_chosen_238 (by decide) (fun _ => ?_) (fun c238 => absurd c238 (by decide))
                      refine lv_iconst (v := (-1)) hx hb dX9_chosen_245 (by decide) ?_
                      refine ct_iret (w := [(mm, .inr (7, v0 :: v1 :: .ref ai_ :: v3 :: v4 :: .int (nI c0) :: .ref am_ :: .ref ap_ :: .ref aq_ :: .ref ac_ :: v10 :: v11 :: v12 :: v13 :: v14 :: v15 :: v16 :: .ref ah_ :: v18 :: .int (nI 500) :: v20 :: .int (nI ov) :: v22 :: v23 :: .int (nI ho) :: .int (nI le) :: .int (nI ma) :: v27 :: .int (nI xb) :: .int (nI xg) :: .int (nI xe) :: v31 :: .int (nI tS) :: .int (nI tE) :: .ref an_ :: .int (nI s1_109) :: .int (nI ot) :: .int (nI xa) :: .int (nI xz) :: [])), (ah_, .inl (gB g, 4096, .inl fh)), (an_, .inl (gB g, 8192, .inl f1_109)), (am_, .inl (gB g, 3072, .inl fm)), (ap_, .inl (gI g, 64, .inl fp)), (aq_, .inl (gI g, 64, .inl fl)), (ac_, .inl (gI g, 64, .inl fc)), (ai_, .inl (gB g, 65535, .inl fi))]) hx hb hr rfl hlocks hQ hAe hK (hP.sub [6, 3, 5, 4, 0, 1, 2, 7] rfl) (hD.sub [6, 3, 5, 4, 0, 1, 2, 7] (by decide) rfl) hS (by omega) (by omega) dX9_chosen_246 ?_
                      refine Or.inl (?_)
                      exact ⟨f1_109, s1_109, 500, rfl, rfl, by exact ⟨by rw [hkk]; rfl, by rw [hkk]; decide⟩⟩
                  · skip
                    have c137 : ¬ (0 ≤ t1_132) := fun z => c137 ((nI_leI (a := 0) (b := t1_132) (by omega) (by omega)).mpr z)
                    exact absurd (Nat.zero_le _) c137
            · skip
              have c95 : ¬ (ot = 0) := fun z => c95 ((nI_eq (a := ot) (b := 0) (by omega) (by omega)).mpr z)
              have hkk : k = 4 := pJ_n hJ (jdK_5 h32 hen (by omega) hk_.1 hk_.2 (by rcases hot with z_ | z_ <;> omega)) (by decide)
              refine lv_aload_n hx hb dX9_chosen_98 rfl (lv_at hl 0 rfl) ?_
              refine lv_sipush (v := nI 405) hx hb dX9_chosen_99 (by decide) ?_
              refine va_put (D := gD g) (ci := 7) (v := .int (nI 405)) (ty := .int) (C := RX9) (T := TX9) (N := 39) hx hb hts hinX9 tyX9 tyX9_ok nmX9 hown hK hP hD hS 0 rfl rfl 19 (by decide) hf111 (fun _ h9 => h9) rfl (by decide +kernel) rfl rfl (Nat.le_of_ble_eq_true rfl) dX9_chosen_102 (fun H locs hP hD hS => ?_)
              have hP : va_P (gD g) vwCl [(mm, .inr (7, v0 :: v1 :: .ref ai_ :: v3 :: v4 :: .int (nI c0) :: .ref am_ :: .ref ap_ :: .ref aq_ :: .ref ac_ :: v10 :: v11 :: v12 :: v13 :: v14 :: v15 :: v16 :: .ref ah_ :: v18 :: .int (nI 405) :: v20 :: .int (nI ov) :: v22 :: v23 :: .int (nI ho) :: .int (nI le) :: .int (nI ma) :: v27 :: .int (nI xb) :: .int (nI xg) :: .int (nI xe) :: v31 :: .int (nI tS) :: .int (nI tE) :: .ref an_ :: .int (nI m_pathLength) :: .int (nI ot) :: .int (nI xa) :: .int (nI xz) :: [])), (ah_, .inl (gB g, 4096, .inl fh)), (an_, .inl (gB g, 8192, .inl fn)), (am_, .inl (gB g, 3072, .inl fm)), (ap_, .inl (gI g, 64, .inl fp)), (aq_, .inl (gI g, 64, .inl fl)), (ac_, .inl (gI g, 64, .inl fc)), (ai_, .inl (gB g, 65535, .inl fi))] H := hP
              have hD : va_D A [(mm, .inr (7, v0 :: v1 :: .ref ai_ :: v3 :: v4 :: .int (nI c0) :: .ref am_ :: .ref ap_ :: .ref aq_ :: .ref ac_ :: v10 :: v11 :: v12 :: v13 :: v14 :: v15 :: v16 :: .ref ah_ :: v18 :: .int (nI 405) :: v20 :: .int (nI ov) :: v22 :: v23 :: .int (nI ho) :: .int (nI le) :: .int (nI ma) :: v27 :: .int (nI xb) :: .int (nI xg) :: .int (nI xe) :: v31 :: .int (nI tS) :: .int (nI tE) :: .ref an_ :: .int (nI m_pathLength) :: .int (nI ot) :: .int (nI xa) :: .int (nI xz) :: [])), (ah_, .inl (gB g, 4096, .inl fh)), (an_, .inl (gB g, 8192, .inl fn)), (am_, .inl (gB g, 3072, .inl fm)), (ap_, .inl (gI g, 64, .inl fp)), (aq_, .inl (gI g, 64, .inl fl)), (ac_, .inl (gI g, 64, .inl fc)), (ai_, .inl (gB g, 65535, .inl fi))] := hD
              refine lv_goto (tgt := 122) hx hb dX9_chosen_105 (by decide) ?_
              refine lv_aload_n hx hb dX9_chosen_122 rfl (lv_at hl 0 rfl) ?_
              refine va_get (D := gD g) (ci := 7) (v := .int (nI 405)) (C := RX9) (T := TX9) (N := 39) hx hb hts hinX9 hown hK hP 0 rfl rfl 19 (by decide) hf111 (fun _ h9 => h9) rfl dX9_chosen_123 ?_
              refine lv_if_eq (tgt := 131) hx hb dX9_chosen_126 (by decide) (fun c126 => absurd c126 (by decide)) (fun _ => ?_)
              refine lv_iconst (v := (-1)) hx hb dX9_chosen_129 (by decide) ?_
              refine ct_iret (w := [(mm, .inr (7, v0 :: v1 :: .ref ai_ :: v3 :: v4 :: .int (nI c0) :: .ref am_ :: .ref ap_ :: .ref aq_ :: .ref ac_ :: v10 :: v11 :: v12 :: v13 :: v14 :: v15 :: v16 :: .ref ah_ :: v18 :: .int (nI 405) :: v20 :: .int (nI ov) :: v22 :: v23 :: .int (nI ho) :: .int (nI le) :: .int (nI ma) :: v27 :: .int (nI xb) :: .int (nI xg) :: .int (nI xe) :: v31 :: .int (nI tS) :: .int (nI tE) :: .ref an_ :: .int (nI m_pathLength) :: .int (nI ot) :: .int (nI xa) :: .int (nI xz) :: [])), (ah_, .inl (gB g, 4096, .inl fh)), (an_, .inl (gB g, 8192, .inl fn)), (am_, .inl (gB g, 3072, .inl fm)), (ap_, .inl (gI g, 64, .inl fp)), (aq_, .inl (gI g, 64, .inl fl)), (ac_, .inl (gI g, 64, .inl fc)), (ai_, .inl (gB g, 65535, .inl fi))]) hx hb hr rfl hlocks hQ hAe hK (hP.sub [0, 1, 2, 3, 4, 5, 6, 7] rfl) (hD.sub [0, 1, 2, 3, 4, 5, 6, 7] (by decide) rfl) hS (by omega) (by omega) dX9_chosen_130 ?_
              refine Or.inl (?_)
              exact ⟨fn, m_pathLength, 405, rfl, rfl, by exact ⟨by rw [hkk]; rfl, by rw [hkk]; decide⟩⟩
          · skip
            have c78 : ¬ (xg = 0) := fun z => c78 ((nI_eq (a := xg) (b := 0) (by omega) (by omega)).mpr z)
            have hg_ := RB_g rb (by omega) (by omega) (by omega)
            have hkk : k = 5 := pJ_n hJ (jdK_4 h32 hen (by omega) hg_.1 hg_.2) (by decide)
            refine lv_aload_n hx hb dX9_chosen_81 rfl (lv_at hl 0 rfl) ?_
            refine lv_sipush (v := nI 413) hx hb dX9_chosen_82 (by decide) ?_
            refine va_put (D := gD g) (ci := 7) (v := .int (nI 413)) (ty := .int) (C := RX9) (T := TX9) (N := 39) hx hb hts hinX9 tyX9 tyX9_ok nmX9 hown hK hP hD hS 0 rfl rfl 19 (by decide) hf111 (fun _ h9 => h9) rfl (by decide +kernel) rfl rfl (Nat.le_of_ble_eq_true rfl) dX9_chosen_85 (fun H locs hP hD hS => ?_)
            have hP : va_P (gD g) vwCl [(mm, .inr (7, v0 :: v1 :: .ref ai_ :: v3 :: v4 :: .int (nI c0) :: .ref am_ :: .ref ap_ :: .ref aq_ :: .ref ac_ :: v10 :: v11 :: v12 :: v13 :: v14 :: v15 :: v16 :: .ref ah_ :: v18 :: .int (nI 413) :: v20 :: .int (nI ov) :: v22 :: v23 :: .int (nI ho) :: .int (nI le) :: .int (nI ma) :: v27 :: .int (nI xb) :: .int (nI xg) :: .int (nI xe) :: v31 :: .int (nI tS) :: .int (nI tE) :: .ref an_ :: .int (nI m_pathLength) :: .int (nI ot) :: .int (nI xa) :: .int (nI xz) :: [])), (ah_, .inl (gB g, 4096, .inl fh)), (an_, .inl (gB g, 8192, .inl fn)), (am_, .inl (gB g, 3072, .inl fm)), (ap_, .inl (gI g, 64, .inl fp)), (aq_, .inl (gI g, 64, .inl fl)), (ac_, .inl (gI g, 64, .inl fc)), (ai_, .inl (gB g, 65535, .inl fi))] H := hP
            have hD : va_D A [(mm, .inr (7, v0 :: v1 :: .ref ai_ :: v3 :: v4 :: .int (nI c0) :: .ref am_ :: .ref ap_ :: .ref aq_ :: .ref ac_ :: v10 :: v11 :: v12 :: v13 :: v14 :: v15 :: v16 :: .ref ah_ :: v18 :: .int (nI 413) :: v20 :: .int (nI ov) :: v22 :: v23 :: .int (nI ho) :: .int (nI le) :: .int (nI ma) :: v27 :: .int (nI xb) :: .int (nI xg) :: .int (nI xe) :: v31 :: .int (nI tS) :: .int (nI tE) :: .ref an_ :: .int (nI m_pathLength) :: .int (nI ot) :: .int (nI xa) :: .int (nI xz) :: [])), (ah_, .inl (gB g, 4096, .inl fh)), (an_, .inl (gB g, 8192, .inl fn)), (am_, .inl (gB g, 3072, .inl fm)), (ap_, .inl (gI g, 64, .inl fp)), (aq_, .inl (gI g, 64, .inl fl)), (ac_, .inl (gI g, 64, .inl fc)), (ai_, .inl (gB g, 65535, .inl fi))] := hD
            refine lv_goto (tgt := 122) hx hb dX9_chosen_88 (by decide) ?_
            refine lv_aload_n hx hb dX9_chosen_122 rfl (lv_at hl 0 rfl) ?_
            refine va_get (D := gD g) (ci := 7) (v := .int (nI 413)) (C := RX9) (T := TX9) (N := 39) hx hb hts hinX9 hown hK hP 0 rfl rfl 19 (by decide) hf111 (fun _ h9 => h9) rfl dX9_chosen_123 ?_
            refine lv_if_eq (tgt := 131) hx hb dX9_chosen_126 (by decide) (fun c126 => absurd c126 (by decide)) (fun _ => ?_)
            refine lv_iconst (v := (-1)) hx hb dX9_chosen_129 (by decide) ?_
            refine ct_iret (w := [(mm, .inr (7, v0 :: v1 :: .ref ai_ :: v3 :: v4 :: .int (nI c0) :: .ref am_ :: .ref ap_ :: .ref aq_ :: .ref ac_ :: v10 :: v11 :: v12 :: v13 :: v14 :: v15 :: v16 :: .ref ah_ :: v18 :: .int (nI 413) :: v20 :: .int (nI ov) :: v22 :: v23 :: .int (nI ho) :: .int (nI le) :: .int (nI ma) :: v27 :: .int (nI xb) :: .int (nI xg) :: .int (nI xe) :: v31 :: .int (nI tS) :: .int (nI tE) :: .ref an_ :: .int (nI m_pathLength) :: .int (nI ot) :: .int (nI xa) :: .int (nI xz) :: [])), (ah_, .inl (gB g, 4096, .inl fh)), (an_, .inl (gB g, 8192, .inl fn)), (am_, .inl (gB g, 3072, .inl fm)), (ap_, .inl (gI g, 64, .inl fp)), (aq_, .inl (gI g, 64, .inl fl)), (ac_, .inl (gI g, 64, .inl fc)), (ai_, .inl (gB g, 65535, .inl fi))]) hx hb hr rfl hlocks hQ hAe hK (hP.sub [0, 1, 2, 3, 4, 5, 6, 7] rfl) (hD.sub [0, 1, 2, 3, 4, 5, 6, 7] (by decide) rfl) hS (by omega) (by omega) dX9_chosen_130 ?_
            refine Or.inl (?_)
            exact ⟨fn, m_pathLength, 413, rfl, rfl, by exact ⟨by rw [hkk]; rfl, by rw [hkk]; decide⟩⟩
        · skip
          have c61 : ¬ (xb = 0) := fun z => c61 ((nI_eq (a := xb) (b := 0) (by omega) (by omega)).mpr z)
          have hkk : k = 2 := pJ_n hJ (jdK_3 h32 hen (by first | exact Or.inl (by omega) | exact Or.inr (RB_b rb (by omega) (by omega)))) (by decide)
          refine lv_aload_n hx hb dX9_chosen_64 rfl (lv_at hl 0 rfl) ?_
          refine lv_sipush (v := nI 400) hx hb dX9_chosen_65 (by decide) ?_
          refine va_put (D := gD g) (ci := 7) (v := .int (nI 400)) (ty := .int) (C := RX9) (T := TX9) (N := 39) hx hb hts hinX9 tyX9 tyX9_ok nmX9 hown hK hP hD hS 0 rfl rfl 19 (by decide) hf111 (fun _ h9 => h9) rfl (by decide +kernel) rfl rfl (Nat.le_of_ble_eq_true rfl) dX9_chosen_68 (fun H locs hP hD hS => ?_)
          have hP : va_P (gD g) vwCl [(mm, .inr (7, v0 :: v1 :: .ref ai_ :: v3 :: v4 :: .int (nI c0) :: .ref am_ :: .ref ap_ :: .ref aq_ :: .ref ac_ :: v10 :: v11 :: v12 :: v13 :: v14 :: v15 :: v16 :: .ref ah_ :: v18 :: .int (nI 400) :: v20 :: .int (nI ov) :: v22 :: v23 :: .int (nI ho) :: .int (nI le) :: .int (nI ma) :: v27 :: .int (nI xb) :: .int (nI xg) :: .int (nI xe) :: v31 :: .int (nI tS) :: .int (nI tE) :: .ref an_ :: .int (nI m_pathLength) :: .int (nI ot) :: .int (nI xa) :: .int (nI xz) :: [])), (ah_, .inl (gB g, 4096, .inl fh)), (an_, .inl (gB g, 8192, .inl fn)), (am_, .inl (gB g, 3072, .inl fm)), (ap_, .inl (gI g, 64, .inl fp)), (aq_, .inl (gI g, 64, .inl fl)), (ac_, .inl (gI g, 64, .inl fc)), (ai_, .inl (gB g, 65535, .inl fi))] H := hP
          have hD : va_D A [(mm, .inr (7, v0 :: v1 :: .ref ai_ :: v3 :: v4 :: .int (nI c0) :: .ref am_ :: .ref ap_ :: .ref aq_ :: .ref ac_ :: v10 :: v11 :: v12 :: v13 :: v14 :: v15 :: v16 :: .ref ah_ :: v18 :: .int (nI 400) :: v20 :: .int (nI ov) :: v22 :: v23 :: .int (nI ho) :: .int (nI le) :: .int (nI ma) :: v27 :: .int (nI xb) :: .int (nI xg) :: .int (nI xe) :: v31 :: .int (nI tS) :: .int (nI tE) :: .ref an_ :: .int (nI m_pathLength) :: .int (nI ot) :: .int (nI xa) :: .int (nI xz) :: [])), (ah_, .inl (gB g, 4096, .inl fh)), (an_, .inl (gB g, 8192, .inl fn)), (am_, .inl (gB g, 3072, .inl fm)), (ap_, .inl (gI g, 64, .inl fp)), (aq_, .inl (gI g, 64, .inl fl)), (ac_, .inl (gI g, 64, .inl fc)), (ai_, .inl (gB g, 65535, .inl fi))] := hD
          refine lv_goto (tgt := 122) hx hb dX9_chosen_71 (by decide) ?_
          refine lv_aload_n hx hb dX9_chosen_122 rfl (lv_at hl 0 rfl) ?_
          refine va_get (D := gD g) (ci := 7) (v := .int (nI 400)) (C := RX9) (T := TX9) (N := 39) hx hb hts hinX9 hown hK hP 0 rfl rfl 19 (by decide) hf111 (fun _ h9 => h9) rfl dX9_chosen_123 ?_
          refine lv_if_eq (tgt := 131) hx hb dX9_chosen_126 (by decide) (fun c126 => absurd c126 (by decide)) (fun _ => ?_)
          refine lv_iconst (v := (-1)) hx hb dX9_chosen_129 (by decide) ?_
          refine ct_iret (w := [(mm, .inr (7, v0 :: v1 :: .ref ai_ :: v3 :: v4 :: .int (nI c0) :: .ref am_ :: .ref ap_ :: .ref aq_ :: .ref ac_ :: v10 :: v11 :: v12 :: v13 :: v14 :: v15 :: v16 :: .ref ah_ :: v18 :: .int (nI 400) :: v20 :: .int (nI ov) :: v22 :: v23 :: .int (nI ho) :: .int (nI le) :: .int (nI ma) :: v27 :: .int (nI xb) :: .int (nI xg) :: .int (nI xe) :: v31 :: .int (nI tS) :: .int (nI tE) :: .ref an_ :: .int (nI m_pathLength) :: .int (nI ot) :: .int (nI xa) :: .int (nI xz) :: [])), (ah_, .inl (gB g, 4096, .inl fh)), (an_, .inl (gB g, 8192, .inl fn)), (am_, .inl (gB g, 3072, .inl fm)), (ap_, .inl (gI g, 64, .inl fp)), (aq_, .inl (gI g, 64, .inl fl)), (ac_, .inl (gI g, 64, .inl fc)), (ai_, .inl (gB g, 65535, .inl fi))]) hx hb hr rfl hlocks hQ hAe hK (hP.sub [0, 1, 2, 3, 4, 5, 6, 7] rfl) (hD.sub [0, 1, 2, 3, 4, 5, 6, 7] (by decide) rfl) hS (by omega) (by omega) dX9_chosen_130 ?_
          refine Or.inl (?_)
          exact ⟨fn, m_pathLength, 400, rfl, rfl, by exact ⟨by rw [hkk]; rfl, by rw [hkk]; decide⟩⟩
    · skip
      have c36 : ¬ (xe = 0) := fun z => c36 ((nI_eq (a := xe) (b := 0) (by omega) (by omega)).mpr z)
      have hkk : k = 8 := pJ_n hJ (jdK_2 h32 (by rcases re with z_ | z_ <;> omega)) (by decide)
      refine lv_aload_n hx hb dX9_chosen_39 rfl (lv_at hl 0 rfl) ?_
      refine lv_sipush (v := nI 501) hx hb dX9_chosen_40 (by decide) ?_
      refine va_put (D := gD g) (ci := 7) (v := .int (nI 501)) (ty := .int) (C := RX9) (T := TX9) (N := 39) hx hb hts hinX9 tyX9 tyX9_ok nmX9 hown hK hP hD hS 0 rfl rfl 19 (by decide) hf111 (fun _ h9 => h9) rfl (by decide +kernel) rfl rfl (Nat.le_of_ble_eq_true rfl) dX9_chosen_43 (fun H locs hP hD hS => ?_)
      have hP : va_P (gD g) vwCl [(mm, .inr (7, v0 :: v1 :: .ref ai_ :: v3 :: v4 :: .int (nI c0) :: .ref am_ :: .ref ap_ :: .ref aq_ :: .ref ac_ :: v10 :: v11 :: v12 :: v13 :: v14 :: v15 :: v16 :: .ref ah_ :: v18 :: .int (nI 501) :: v20 :: .int (nI ov) :: v22 :: v23 :: .int (nI ho) :: .int (nI le) :: .int (nI ma) :: v27 :: .int (nI xb) :: .int (nI xg) :: .int (nI xe) :: v31 :: .int (nI tS) :: .int (nI tE) :: .ref an_ :: .int (nI m_pathLength) :: .int (nI ot) :: .int (nI xa) :: .int (nI xz) :: [])), (ah_, .inl (gB g, 4096, .inl fh)), (an_, .inl (gB g, 8192, .inl fn)), (am_, .inl (gB g, 3072, .inl fm)), (ap_, .inl (gI g, 64, .inl fp)), (aq_, .inl (gI g, 64, .inl fl)), (ac_, .inl (gI g, 64, .inl fc)), (ai_, .inl (gB g, 65535, .inl fi))] H := hP
      have hD : va_D A [(mm, .inr (7, v0 :: v1 :: .ref ai_ :: v3 :: v4 :: .int (nI c0) :: .ref am_ :: .ref ap_ :: .ref aq_ :: .ref ac_ :: v10 :: v11 :: v12 :: v13 :: v14 :: v15 :: v16 :: .ref ah_ :: v18 :: .int (nI 501) :: v20 :: .int (nI ov) :: v22 :: v23 :: .int (nI ho) :: .int (nI le) :: .int (nI ma) :: v27 :: .int (nI xb) :: .int (nI xg) :: .int (nI xe) :: v31 :: .int (nI tS) :: .int (nI tE) :: .ref an_ :: .int (nI m_pathLength) :: .int (nI ot) :: .int (nI xa) :: .int (nI xz) :: [])), (ah_, .inl (gB g, 4096, .inl fh)), (an_, .inl (gB g, 8192, .inl fn)), (am_, .inl (gB g, 3072, .inl fm)), (ap_, .inl (gI g, 64, .inl fp)), (aq_, .inl (gI g, 64, .inl fl)), (ac_, .inl (gI g, 64, .inl fc)), (ai_, .inl (gB g, 65535, .inl fi))] := hD
      refine lv_goto (tgt := 122) hx hb dX9_chosen_46 (by decide) ?_
      refine lv_aload_n hx hb dX9_chosen_122 rfl (lv_at hl 0 rfl) ?_
      refine va_get (D := gD g) (ci := 7) (v := .int (nI 501)) (C := RX9) (T := TX9) (N := 39) hx hb hts hinX9 hown hK hP 0 rfl rfl 19 (by decide) hf111 (fun _ h9 => h9) rfl dX9_chosen_123 ?_
      refine lv_if_eq (tgt := 131) hx hb dX9_chosen_126 (by decide) (fun c126 => absurd c126 (by decide)) (fun _ => ?_)
      refine lv_iconst (v := (-1)) hx hb dX9_chosen_129 (by decide) ?_
      refine ct_iret (w := [(mm, .inr (7, v0 :: v1 :: .ref ai_ :: v3 :: v4 :: .int (nI c0) :: .ref am_ :: .ref ap_ :: .ref aq_ :: .ref ac_ :: v10 :: v11 :: v12 :: v13 :: v14 :: v15 :: v16 :: .ref ah_ :: v18 :: .int (nI 501) :: v20 :: .int (nI ov) :: v22 :: v23 :: .int (nI ho) :: .int (nI le) :: .int (nI ma) :: v27 :: .int (nI xb) :: .int (nI xg) :: .int (nI xe) :: v31 :: .int (nI tS) :: .int (nI tE) :: .ref an_ :: .int (nI m_pathLength) :: .int (nI ot) :: .int (nI xa) :: .int (nI xz) :: [])), (ah_, .inl (gB g, 4096, .inl fh)), (an_, .inl (gB g, 8192, .inl fn)), (am_, .inl (gB g, 3072, .inl fm)), (ap_, .inl (gI g, 64, .inl fp)), (aq_, .inl (gI g, 64, .inl fl)), (ac_, .inl (gI g, 64, .inl fc)), (ai_, .inl (gB g, 65535, .inl fi))]) hx hb hr rfl hlocks hQ hAe hK (hP.sub [0, 1, 2, 3, 4, 5, 6, 7] rfl) (hD.sub [0, 1, 2, 3, 4, 5, 6, 7] (by decide) rfl) hS (by omega) (by omega) dX9_chosen_130 ?_
      refine Or.inl (?_)
      exact ⟨fn, m_pathLength, 501, rfl, rfl, by exact ⟨by rw [hkk]; rfl, by rw [hkk]; decide⟩⟩
  refine lv_aload_n hx hb dX9_chosen_0 rfl (lv_at hl 0 rfl) ?_
  refine va_get (D := gD g) (ci := 7) (v := .int (nI ho)) (C := RX9) (T := TX9) (N := 39) hx hb hts hinX9 hown hK hP 0 rfl rfl 24 (by decide) hf130 (fun _ h9 => h9) rfl dX9_chosen_1 ?_
  refine lv_iconst (v := nI 1) hx hb dX9_chosen_4 (by decide) ?_
  refine lv_icmp_gt (tgt := 22) hx hb dX9_chosen_5 (by decide) (fun c5 => ?_) (fun c5 => ?_)
  · skip
    have c5 : 1 < ho := (nI_ltI (a := 1) (b := ho) (by omega) (by omega)).mp c5
    have hkk : k = 2 := pJ_n hJ (jdK_1 (by omega)) (by decide)
    refine lv_aload_n hx hb dX9_chosen_22 rfl (lv_at hl 0 rfl) ?_
    refine lv_sipush (v := nI 400) hx hb dX9_chosen_23 (by decide) ?_
    refine va_put (D := gD g) (ci := 7) (v := .int (nI 400)) (ty := .int) (C := RX9) (T := TX9) (N := 39) hx hb hts hinX9 tyX9 tyX9_ok nmX9 hown hK hP hD hS 0 rfl rfl 19 (by decide) hf111 (fun _ h9 => h9) rfl (by decide +kernel) rfl rfl (Nat.le_of_ble_eq_true rfl) dX9_chosen_26 (fun H locs hP hD hS => ?_)
    have hP : va_P (gD g) vwCl [(mm, .inr (7, v0 :: v1 :: .ref ai_ :: v3 :: v4 :: .int (nI c0) :: .ref am_ :: .ref ap_ :: .ref aq_ :: .ref ac_ :: v10 :: v11 :: v12 :: v13 :: v14 :: v15 :: v16 :: .ref ah_ :: v18 :: .int (nI 400) :: v20 :: .int (nI ov) :: v22 :: v23 :: .int (nI ho) :: .int (nI le) :: .int (nI ma) :: v27 :: .int (nI xb) :: .int (nI xg) :: .int (nI xe) :: v31 :: .int (nI tS) :: .int (nI tE) :: .ref an_ :: .int (nI m_pathLength) :: .int (nI ot) :: .int (nI xa) :: .int (nI xz) :: [])), (ah_, .inl (gB g, 4096, .inl fh)), (an_, .inl (gB g, 8192, .inl fn)), (am_, .inl (gB g, 3072, .inl fm)), (ap_, .inl (gI g, 64, .inl fp)), (aq_, .inl (gI g, 64, .inl fl)), (ac_, .inl (gI g, 64, .inl fc)), (ai_, .inl (gB g, 65535, .inl fi))] H := hP
    have hD : va_D A [(mm, .inr (7, v0 :: v1 :: .ref ai_ :: v3 :: v4 :: .int (nI c0) :: .ref am_ :: .ref ap_ :: .ref aq_ :: .ref ac_ :: v10 :: v11 :: v12 :: v13 :: v14 :: v15 :: v16 :: .ref ah_ :: v18 :: .int (nI 400) :: v20 :: .int (nI ov) :: v22 :: v23 :: .int (nI ho) :: .int (nI le) :: .int (nI ma) :: v27 :: .int (nI xb) :: .int (nI xg) :: .int (nI xe) :: v31 :: .int (nI tS) :: .int (nI tE) :: .ref an_ :: .int (nI m_pathLength) :: .int (nI ot) :: .int (nI xa) :: .int (nI xz) :: [])), (ah_, .inl (gB g, 4096, .inl fh)), (an_, .inl (gB g, 8192, .inl fn)), (am_, .inl (gB g, 3072, .inl fm)), (ap_, .inl (gI g, 64, .inl fp)), (aq_, .inl (gI g, 64, .inl fl)), (ac_, .inl (gI g, 64, .inl fc)), (ai_, .inl (gB g, 65535, .inl fi))] := hD
    refine lv_goto (tgt := 122) hx hb dX9_chosen_29 (by decide) ?_
    refine lv_aload_n hx hb dX9_chosen_122 rfl (lv_at hl 0 rfl) ?_
    refine va_get (D := gD g) (ci := 7) (v := .int (nI 400)) (C := RX9) (T := TX9) (N := 39) hx hb hts hinX9 hown hK hP 0 rfl rfl 19 (by decide) hf111 (fun _ h9 => h9) rfl dX9_chosen_123 ?_
    refine lv_if_eq (tgt := 131) hx hb dX9_chosen_126 (by decide) (fun c126 => absurd c126 (by decide)) (fun _ => ?_)
    refine lv_iconst (v := (-1)) hx hb dX9_chosen_129 (by decide) ?_
    refine ct_iret (w := [(mm, .inr (7, v0 :: v1 :: .ref ai_ :: v3 :: v4 :: .int (nI c0) :: .ref am_ :: .ref ap_ :: .ref aq_ :: .ref ac_ :: v10 :: v11 :: v12 :: v13 :: v14 :: v15 :: v16 :: .ref ah_ :: v18 :: .int (nI 400) :: v20 :: .int (nI ov) :: v22 :: v23 :: .int (nI ho) :: .int (nI le) :: .int (nI ma) :: v27 :: .int (nI xb) :: .int (nI xg) :: .int (nI xe) :: v31 :: .int (nI tS) :: .int (nI tE) :: .ref an_ :: .int (nI m_pathLength) :: .int (nI ot) :: .int (nI xa) :: .int (nI xz) :: [])), (ah_, .inl (gB g, 4096, .inl fh)), (an_, .inl (gB g, 8192, .inl fn)), (am_, .inl (gB g, 3072, .inl fm)), (ap_, .inl (gI g, 64, .inl fp)), (aq_, .inl (gI g, 64, .inl fl)), (ac_, .inl (gI g, 64, .inl fc)), (ai_, .inl (gB g, 65535, .inl fi))]) hx hb hr rfl hlocks hQ hAe hK (hP.sub [0, 1, 2, 3, 4, 5, 6, 7] rfl) (hD.sub [0, 1, 2, 3, 4, 5, 6, 7] (by decide) rfl) hS (by omega) (by omega) dX9_chosen_130 ?_
    refine Or.inl (?_)
    exact ⟨fn, m_pathLength, 400, rfl, rfl, by exact ⟨by rw [hkk]; rfl, by rw [hkk]; decide⟩⟩
  · skip
    have c5 : ¬ (1 < ho) := fun z => c5 ((nI_ltI (a := 1) (b := ho) (by omega) (by omega)).mpr z)
    refine lv_aload_n hx hb dX9_chosen_8 rfl (lv_at hl 0 rfl) ?_
    refine va_get (D := gD g) (ci := 7) (v := .int (nI ov)) (C := RX9) (T := TX9) (N := 39) hx hb hts hinX9 hown hK hP 0 rfl rfl 21 (by decide) hf121 (fun _ h9 => h9) rfl dX9_chosen_9 ?_
    refine lv_if_ne (tgt := 32) hx hb dX9_chosen_12 (by decide) (fun c12 => ?_) (fun c12 => ?_)
    · skip
      have c12 : ¬ (ov = 0) := fun z => c12 ((nI_eq (a := ov) (b := 0) (by omega) (by omega)).mpr z)
      exact J32  (by omega) _ _ _ (hP.sub [0, 1, 2, 3, 4, 5, 6, 7] rfl) (hD.sub [0, 1, 2, 3, 4, 5, 6, 7] (by decide) rfl) hS (lv_sub hl [0] rfl)
    · skip
      have c12 : ov = 0 := (nI_eq (a := ov) (b := 0) (by omega) (by omega)).mp c12
      refine lv_aload_n hx hb dX9_chosen_15 rfl (lv_at hl 0 rfl) ?_
      refine va_get (D := gD g) (ci := 7) (v := .int (nI ho)) (C := RX9) (T := TX9) (N := 39) hx hb hts hinX9 hown hK hP 0 rfl rfl 24 (by decide) hf130 (fun _ h9 => h9) rfl dX9_chosen_16 ?_
      refine lv_if_ne (tgt := 32) hx hb dX9_chosen_19 (by decide) (fun c19 => ?_) (fun c19 => ?_)
      · skip
        have c19 : ¬ (ho = 0) := fun z => c19 ((nI_eq (a := ho) (b := 0) (by omega) (by omega)).mpr z)
        exact J32  (by omega) _ _ _ (hP.sub [0, 1, 2, 3, 4, 5, 6, 7] rfl) (hD.sub [0, 1, 2, 3, 4, 5, 6, 7] (by decide) rfl) hS (lv_sub hl [0] rfl)
      · skip
        have c19 : ho = 0 := (nI_eq (a := ho) (b := 0) (by omega) (by omega)).mp c19
        have hkk : k = 2 := pJ_n hJ (jdK_1 (by omega)) (by decide)
        refine lv_aload_n hx hb dX9_chosen_22 rfl (lv_at hl 0 rfl) ?_
        refine lv_sipush (v := nI 400) hx hb dX9_chosen_23 (by decide) ?_
        refine va_put (D := gD g) (ci := 7) (v := .int (nI 400)) (ty := .int) (C := RX9) (T := TX9) (N := 39) hx hb hts hinX9 tyX9 tyX9_ok nmX9 hown hK hP hD hS 0 rfl rfl 19 (by decide) hf111 (fun _ h9 => h9) rfl (by decide +kernel) rfl rfl (Nat.le_of_ble_eq_true rfl) dX9_chosen_26 (fun H locs hP hD hS => ?_)
        have hP : va_P (gD g) vwCl [(mm, .inr (7, v0 :: v1 :: .ref ai_ :: v3 :: v4 :: .int (nI c0) :: .ref am_ :: .ref ap_ :: .ref aq_ :: .ref ac_ :: v10 :: v11 :: v12 :: v13 :: v14 :: v15 :: v16 :: .ref ah_ :: v18 :: .int (nI 400) :: v20 :: .int (nI ov) :: v22 :: v23 :: .int (nI ho) :: .int (nI le) :: .int (nI ma) :: v27 :: .int (nI xb) :: .int (nI xg) :: .int (nI xe) :: v31 :: .int (nI tS) :: .int (nI tE) :: .ref an_ :: .int (nI m_pathLength) :: .int (nI ot) :: .int (nI xa) :: .int (nI xz) :: [])), (ah_, .inl (gB g, 4096, .inl fh)), (an_, .inl (gB g, 8192, .inl fn)), (am_, .inl (gB g, 3072, .inl fm)), (ap_, .inl (gI g, 64, .inl fp)), (aq_, .inl (gI g, 64, .inl fl)), (ac_, .inl (gI g, 64, .inl fc)), (ai_, .inl (gB g, 65535, .inl fi))] H := hP
        have hD : va_D A [(mm, .inr (7, v0 :: v1 :: .ref ai_ :: v3 :: v4 :: .int (nI c0) :: .ref am_ :: .ref ap_ :: .ref aq_ :: .ref ac_ :: v10 :: v11 :: v12 :: v13 :: v14 :: v15 :: v16 :: .ref ah_ :: v18 :: .int (nI 400) :: v20 :: .int (nI ov) :: v22 :: v23 :: .int (nI ho) :: .int (nI le) :: .int (nI ma) :: v27 :: .int (nI xb) :: .int (nI xg) :: .int (nI xe) :: v31 :: .int (nI tS) :: .int (nI tE) :: .ref an_ :: .int (nI m_pathLength) :: .int (nI ot) :: .int (nI xa) :: .int (nI xz) :: [])), (ah_, .inl (gB g, 4096, .inl fh)), (an_, .inl (gB g, 8192, .inl fn)), (am_, .inl (gB g, 3072, .inl fm)), (ap_, .inl (gI g, 64, .inl fp)), (aq_, .inl (gI g, 64, .inl fl)), (ac_, .inl (gI g, 64, .inl fc)), (ai_, .inl (gB g, 65535, .inl fi))] := hD
        refine lv_goto (tgt := 122) hx hb dX9_chosen_29 (by decide) ?_
        refine lv_aload_n hx hb dX9_chosen_122 rfl (lv_at hl 0 rfl) ?_
        refine va_get (D := gD g) (ci := 7) (v := .int (nI 400)) (C := RX9) (T := TX9) (N := 39) hx hb hts hinX9 hown hK hP 0 rfl rfl 19 (by decide) hf111 (fun _ h9 => h9) rfl dX9_chosen_123 ?_
        refine lv_if_eq (tgt := 131) hx hb dX9_chosen_126 (by decide) (fun c126 => absurd c126 (by decide)) (fun _ => ?_)
        refine lv_iconst (v := (-1)) hx hb dX9_chosen_129 (by decide) ?_
        refine ct_iret (w := [(mm, .inr (7, v0 :: v1 :: .ref ai_ :: v3 :: v4 :: .int (nI c0) :: .ref am_ :: .ref ap_ :: .ref aq_ :: .ref ac_ :: v10 :: v11 :: v12 :: v13 :: v14 :: v15 :: v16 :: .ref ah_ :: v18 :: .int (nI 400) :: v20 :: .int (nI ov) :: v22 :: v23 :: .int (nI ho) :: .int (nI le) :: .int (nI ma) :: v27 :: .int (nI xb) :: .int (nI xg) :: .int (nI xe) :: v31 :: .int (nI tS) :: .int (nI tE) :: .ref an_ :: .int (nI m_pathLength) :: .int (nI ot) :: .int (nI xa) :: .int (nI xz) :: [])), (ah_, .inl (gB g, 4096, .inl fh)), (an_, .inl (gB g, 8192, .inl fn)), (am_, .inl (gB g, 3072, .inl fm)), (ap_, .inl (gI g, 64, .inl fp)), (aq_, .inl (gI g, 64, .inl fl)), (ac_, .inl (gI g, 64, .inl fc)), (ai_, .inl (gB g, 65535, .inl fi))]) hx hb hr rfl hlocks hQ hAe hK (hP.sub [0, 1, 2, 3, 4, 5, 6, 7] rfl) (hD.sub [0, 1, 2, 3, 4, 5, 6, 7] (by decide) rfl) hS (by omega) (by omega) dX9_chosen_130 ?_
        refine Or.inl (?_)
        exact ⟨fn, m_pathLength, 400, rfl, rfl, by exact ⟨by rw [hkk]; rfl, by rw [hkk]; decide⟩⟩
