abbrev pBk (f : Nat → Int32) (j : Nat) : Prop := f j &&& 255 = nI 32
/-- the blanks before i: how many, where the first, where the second -/
def pBl (f : Nat → Int32) (i bl : Nat) (va vb : Int32) : Prop := (bl = 0 ∧ ∀ j, j < i → ¬ pBk f j) ∨ (bl = 1 ∧ ∃ a, va = nI a ∧ a < i ∧ pBk f a ∧ (∀ j, j < a → ¬ pBk f j) ∧ ∀ j, a < j → j < i → ¬ pBk f j) ∨ (2 ≤ bl ∧ ∃ a b, va = nI a ∧ vb = nI b ∧ a < b ∧ b < i ∧ pBk f a ∧ pBk f b ∧ (∀ j, j < a → ¬ pBk f j) ∧ (∀ j, a < j → j < b → ¬ pBk f j) ∧ (bl = 2 → ∀ j, b < j → j < i → ¬ pBk f j) ∧ (2 < bl → ∃ t, b < t ∧ t < i ∧ pBk f t))
theorem pBl_0 {f : Nat → Int32} {va vb : Int32} : pBl f 0 0 va vb := Or.inl ⟨rfl, fun j hj => absurd hj (Nat.not_lt_zero _)⟩
theorem pBl_n {f : Nat → Int32} {i bl : Nat} {va vb : Int32} (h : pBl f i bl va vb) (hc : ¬ pBk f i) : pBl f (i + 1) bl va vb := by
  rcases h with ⟨h1, h2⟩ | ⟨h1, a, h2, h3, h4, h5, h6⟩ | ⟨h1, a, b, h2, h3, h4, h5, h6, h7, h8, h9, h10, h11⟩
  · exact Or.inl ⟨h1, lt_s h2 hc⟩
  · exact Or.inr (Or.inl ⟨h1, a, h2, by omega, h4, h5, all_s2 h6 hc⟩)
  · exact Or.inr (Or.inr ⟨h1, a, b, h2, h3, h4, by omega, h6, h7, h8, h9, fun z => all_s2 (h10 z) hc, fun z => (h11 z).elim (fun t ht => ⟨t, ht.1, by omega, ht.2.2⟩)⟩)
theorem pBl_1 {f : Nat → Int32} {i bl : Nat} {va vb : Int32} (h : pBl f i bl va vb) (hb : bl + 1 = 1) (hc : pBk f i) : pBl f (i + 1) (bl + 1) (nI i) vb := by
  rcases h with ⟨h1, h2⟩ | ⟨h1, -⟩ | ⟨h1, -⟩
  · exact Or.inr (Or.inl ⟨hb, i, rfl, by omega, hc, h2, fun j h3 h4 => absurd h4 (by omega)⟩)
  · omega
  · omega
theorem pBl_2 {f : Nat → Int32} {i bl : Nat} {va vb : Int32} (h : pBl f i bl va vb) (hb : bl + 1 = 2) (hc : pBk f i) : pBl f (i + 1) (bl + 1) va (nI i) := by
  rcases h with ⟨h1, h2⟩ | ⟨h1, a, h2, h3, h4, h5, h6⟩ | ⟨h1, -⟩
  · omega
  · exact Or.inr (Or.inr ⟨by omega, a, i, h2, rfl, h3, by omega, h4, hc, h5, h6, fun _ j h7 h8 => absurd h8 (by omega), fun z => absurd z (by omega)⟩)
  · omega
theorem pBl_3 {f : Nat → Int32} {i bl : Nat} {va vb : Int32} (h : pBl f i bl va vb) (hb : ¬ bl + 1 = 1) (hb2 : ¬ bl + 1 = 2) (hc : pBk f i) : pBl f (i + 1) (bl + 1) va vb := by
  rcases h with ⟨h1, h2⟩ | ⟨h1, -⟩ | ⟨h1, a, b, h2, h3, h4, h5, h6, h7, h8, h9, h10, h11⟩
  · omega
  · omega
  · exact Or.inr (Or.inr ⟨by omega, a, b, h2, h3, h4, by omega, h6, h7, h8, h9, fun z => absurd z (by omega), fun _ => ⟨i, h5, by omega, hc⟩⟩)
theorem pBl_of {f : Nat → Int32} {i bl : Nat} {va vb : Int32} (h : pBl f i bl va vb) (hb : bl = 2) : ∃ a b, va = nI a ∧ vb = nI b ∧ a < b ∧ b < i ∧ pBk f a ∧ pBk f b ∧ (∀ j, j < a → ¬ pBk f j) ∧ (∀ j, a < j → j < b → ¬ pBk f j) ∧ ∀ j, b < j → j < i → ¬ pBk f j := by
  rcases h with ⟨h1, h2⟩ | ⟨h1, -⟩ | ⟨h1, a, b, h2, h3, h4, h5, h6, h7, h8, h9, h10, h11⟩
  · omega
  · omega
  · exact ⟨a, b, h2, h3, h4, h5, h6, h7, h8, h9, h10 hb⟩
noncomputable def fA (f : Nat → Int32) (e : Nat) : Nat := fnd f (nI 32) 0 e
noncomputable def fB (f : Nat → Int32) (e : Nat) : Nat := fnd f (nI 32) (fA f e + 1) e
def OKf (f : Nat → Int32) (e : Nat) : Prop := (pText f (fB f e + 1) e 2 ∨ pText f (fB f e + 1) e 3) ∧ pMeth f (fA f e) ∧ pTarg f (fA f e + 1) (fB f e)
theorem req_no {f : Nat → Int32} {e : Nat} {s : HS} (h : ¬ OKf f e) : (reqS f e s).1 = 1 ∧ (reqS f e s).2.1 = s.2.1 := by
  obtain ⟨fa, me, nw, tS, tE, s5⟩ := s
  show (iteC (OKf f e) (_ : Nat × Nat) _).1 = 1 ∧ (iteC (OKf f e) (_ : Nat × Nat) _).2 = me
  rw [iteC_n h]
  exact ⟨rfl, rfl⟩
theorem tx_bk {f : Nat → Int32} {a e : Nat} (h : pText f a e 2 ∨ pText f a e 3) : e = a + 8 ∧ ∀ j, a ≤ j → j < e → ¬ pBk f j := by
  have e2 : slen 2 = 8 := by decide
  have e3 : slen 3 = 8 := by decide
  have b2 : ∀ j, j < 8 → ¬ sbyt 2 j &&& 255 = nI 32 := by decide
  have b3 : ∀ j, j < 8 → ¬ sbyt 3 j &&& 255 = nI 32 := by decide
  rcases h with h | h
  · refine ⟨by rw [h.1, e2], fun j h1 h2 z => ?_⟩
    have h3 := h.2 (j - a) (by have := h.1; omega)
    rw [show a + (j - a) = j by omega] at h3
    have z2 : f j &&& 255 = nI 32 := z
    exact b2 (j - a) (by have := h.1; omega) (h3.symm.trans z2)
  · refine ⟨by rw [h.1, e3], fun j h1 h2 z => ?_⟩
    have h3 := h.2 (j - a) (by have := h.1; omega)
    rw [show a + (j - a) = j by omega] at h3
    have z2 : f j &&& 255 = nI 32 := z
    exact b3 (j - a) (by have := h.1; omega) (h3.symm.trans z2)
theorem ok_ex {f : Nat → Int32} {e : Nat} (h : OKf f e) : ∃ A B, A + 1 < B ∧ e = B + 9 ∧ pBk f A ∧ pBk f B ∧ (∀ j, j < A → ¬ pBk f j) ∧ (∀ j, A < j → j < B → ¬ pBk f j) ∧ (∀ j, B < j → j < e → ¬ pBk f j) ∧ pMeth f A ∧ pTarg f (A + 1) B ∧ (pText f (B + 1) e 2 ∨ pText f (B + 1) e 3) := by
  obtain ⟨h1, h2, h3⟩ := h
  have ht := tx_bk h1
  obtain ⟨r, hr⟩ := pFind_ex f (nI 32) e 0 e (by omega) (Nat.zero_le _)
  have hA : fA f e = r := fnd_eq hr
  have hre : r + 1 ≤ e := by have := h3.1; omega
  obtain ⟨q, hq⟩ := pFind_ex f (nI 32) e (r + 1) e (by omega) hre
  have hB : fB f e = q := by unfold fB; rw [hA]; exact fnd_eq hq
  rw [hA, hB] at h3
  rw [hA] at h2
  rw [hB] at h1 ht
  have h5 := h3.1
  refine ⟨r, q, h3.1, by omega, ?_, ?_, fun j hj => hr.1 j (Nat.zero_le _) hj, fun j g1 g2 => hq.1 j (by omega) g2, fun j g1 g2 => ht.2 j (by omega) g2, h2, h3, h1⟩
  · rcases hr.2 with z | z
    · omega
    · exact z.2.2
  · rcases hq.2 with z | z
    · omega
    · exact z.2.2
theorem bk_u {f : Nat → Int32} {a A : Nat} (h1 : pBk f a) (h2 : ∀ j, j < a → ¬ pBk f j) (g1 : pBk f A) (g2 : ∀ j, j < A → ¬ pBk f j) : a = A := by
  rcases Nat.lt_trichotomy a A with z | z | z
  · exact absurd h1 (g2 a z)
  · exact z
  · exact absurd g1 (h2 A z)
theorem ok_bl {f : Nat → Int32} {e bl : Nat} {va vb : Int32} (hk : OKf f e) (h : pBl f e bl va vb) : bl = 2 := by
  obtain ⟨A, B, g1, g2, g3, g4, g5, g6, g7, -⟩ := ok_ex hk
  rcases h with ⟨h1, h2⟩ | ⟨h1, a, h2, h3, h4, h5, h6⟩ | ⟨h1, a, b, h2, h3, h4, h5, h6, h7, h8, h9, h10, h11⟩
  · exact absurd g3 (h2 A (by omega))
  · have ea := bk_u h4 h5 g3 g5
    exact absurd g4 (h6 B (by omega) (by omega))
  · have ea := bk_u h6 h8 g3 g5
    subst ea
    have eb : b = B := by
      rcases Nat.lt_trichotomy b B with z | z | z
      · exact absurd h7 (g6 b (by omega) z)
      · exact z
      · exact absurd g4 (h9 B (by omega) z)
    subst eb
    by_cases hb : bl = 2
    · exact hb
    · obtain ⟨t, t1, t2, t3⟩ := h11 (by omega)
      exact absurd t3 (g7 t t1 t2)
theorem ok_ab {f : Nat → Int32} {e a b : Nat} (hk : OKf f e) (ha : pBk f a) (na : ∀ j, j < a → ¬ pBk f j) (hab : a < b) (hb : pBk f b) (nb : ∀ j, a < j → j < b → ¬ pBk f j) : pMeth f a ∧ pTarg f (a + 1) b ∧ e = b + 9 ∧ (pText f (b + 1) e 2 ∨ pText f (b + 1) e 3) := by
  obtain ⟨A, B, g1, g2, g3, g4, g5, g6, g7, g8, g9, g10⟩ := ok_ex hk
  have ea := bk_u ha na g3 g5
  subst ea
  have eb : b = B := by
    rcases Nat.lt_trichotomy b B with z | z | z
    · exact absurd hb (g6 b hab z)
    · exact z
    · exact absurd g4 (nb B (by omega) z)
  subst eb
  exact ⟨g8, g9, g2, g10⟩
theorem ver0 {f : Nat → Int32} {a e : Nat} (h : pText f a e 3) : f (e - 1) &&& 255 = nI 48 := by
  have e3 : slen 3 = 8 := by decide
  have h2 := h.2 7 (by decide)
  have h1 := h.1
  rw [show a + 7 = e - 1 by omega] at h2
  exact h2.trans (by decide)
theorem ver1 {f : Nat → Int32} {a e : Nat} (h : pText f a e 2) : f (e - 1) &&& 255 = nI 49 := by
  have e3 : slen 2 = 8 := by decide
  have h2 := h.2 7 (by decide)
  have h1 := h.1
  rw [show a + 7 = e - 1 by omega] at h2
  exact h2.trans (by decide)
theorem ver01 {f : Nat → Int32} {a e : Nat} (h : pText f a e 3) : ¬ pText f a e 2 := fun z => absurd ((ver0 h).symm.trans (ver1 z)) (by decide)

set_option maxHeartbeats 4000000 in
set_option maxRecDepth 100000 in
theorem c_mReq (l : Launch) (g : GT) (mm : Nat) (v0 : Value) (v1 : Value) (v2 : Value) (v3 : Value) (v4 : Value) (v5 : Value) (v6 : Value) (v7 : Value) (v8 : Value) (v9 : Value) (v10 : Value) (v11 : Value) (v12 : Value) (v13 : Value) (v14 : Value) (v15 : Value) (v16 : Value) (ah_ : Nat) (v18 : Value) (v19 : Value) (m_isHead : Nat) (m_oldVersion : Nat) (v22 : Value) (v23 : Value) (v24 : Value) (v25 : Value) (v26 : Value) (v27 : Value) (v28 : Value) (v29 : Value) (v30 : Value) (v31 : Value) (m_targetAt : Nat) (m_targetEnd : Nat) (v34 : Value) (v35 : Value) (m_other : Nat) (v37 : Value) (v38 : Value) (fh : Nat → Int32) (f : Nat → Int32) (hn : Nat) (e0 : Nat) (fa : Nat) (me : Nat) (nw : Nat) (tS : Nat) (tE : Nat) (ho : Nat) (en : Nat) (le : Nat) (bo : Int32) (ma : Nat) (mS : Nat) (mE : Nat) (cl : Nat) (ke : Nat) (hhn : hn ≤ 4096) (hM : ∀ j, j < hn → fh j = f j) (hfit : sb_Fit f) (hes : e0 ≤ hn) (hme : me = 0) (hfa : fa = 0) : CT l g yX9_requestLine wsX9_requestLine ({ frames := 5, cells := 0, slots := 0, locals := 109 } : Room) [.ref mm, .int (nI 0), .int (nI e0)] [(mm, .inr (7, v0 :: v1 :: v2 :: v3 :: v4 :: v5 :: v6 :: v7 :: v8 :: v9 :: v10 :: v11 :: v12 :: v13 :: v14 :: v15 :: v16 :: .ref ah_ :: v18 :: v19 :: .int (nI m_isHead) :: .int (nI m_oldVersion) :: v22 :: v23 :: v24 :: v25 :: v26 :: v27 :: v28 :: v29 :: v30 :: v31 :: .int (nI m_targetAt) :: .int (nI m_targetEnd) :: v34 :: v35 :: .int (nI m_other) :: v37 :: v38 :: [])), (ah_, .inl (gB g, 4096, .inl fh))] (fun r w => (r = some (.int (nI 0)) ∧ w = [(mm, .inr (7, v0 :: v1 :: v2 :: v3 :: v4 :: v5 :: v6 :: v7 :: v8 :: v9 :: v10 :: v11 :: v12 :: v13 :: v14 :: v15 :: v16 :: .ref ah_ :: v18 :: v19 :: .int (nI m_isHead) :: .int (nI m_oldVersion) :: v22 :: v23 :: v24 :: v25 :: v26 :: v27 :: v28 :: v29 :: v30 :: v31 :: .int (nI m_targetAt) :: .int (nI m_targetEnd) :: v34 :: v35 :: .int (nI m_other) :: v37 :: v38 :: [])), (ah_, .inl (gB g, 4096, .inl fh))] ∧ ((reqS f e0 (fa, me, nw, tS, tE, ho, en, le, bo, ma, mS, mE, cl, ke)).1 = 1 ∧ (reqS f e0 (fa, me, nw, tS, tE, ho, en, le, bo, ma, mS, mE, cl, ke)).2.1 = me)) ∨ (∃ (me1 : Nat) (nw1 : Nat) (tS1 : Nat) (tE1 : Nat) (ov : Nat) (hd : Nat) (ot : Nat), r = some (.int (nI 1)) ∧ w = [(mm, .inr (7, v0 :: v1 :: v2 :: v3 :: v4 :: v5 :: v6 :: v7 :: v8 :: v9 :: v10 :: v11 :: v12 :: v13 :: v14 :: v15 :: v16 :: .ref ah_ :: v18 :: v19 :: .int (nI hd) :: .int (nI ov) :: v22 :: v23 :: v24 :: v25 :: v26 :: v27 :: v28 :: v29 :: v30 :: v31 :: .int (nI tS1) :: .int (nI tE1) :: v34 :: v35 :: .int (nI ot) :: v37 :: v38 :: [])), (ah_, .inl (gB g, 4096, .inl fh))] ∧ ((fa, me1, nw1, tS1, tE1, ho, en, le, bo, ma, mS, mE, cl, ke) = reqS f e0 (fa, me, nw, tS, tE, ho, en, le, bo, ma, mS, mE, cl, ke)) ∧ ((me1 = 1 ∧ hd = 1 ∧ ot = 0) ∨ (me1 = 0 ∧ hd = 0 ∧ ot = 0) ∨ (me1 = 2 ∧ hd = 0 ∧ ot = 1)) ∧ (ov + nw1 = 1) ∧ (pTarg f tS1 tE1 ∧ tE1 ≤ e0))) (0) (0) := by
  refine ct_of (cc := cX9_requestLine) (maxL := 7) (ret := (some .boolean)) (by decide) rfl (Nat.le_of_ble_eq_true rfl) ?_
  intro p e s m args below meth c A Q hx hb hr hml hown hts hlocks hnam hAe hQ hA hG hK hP hD hS ls hl
  have hl : lv_has ls 7 [(0, .ref mm), (1, .int (nI 0)), (2, .int (nI e0))] := hl
  have hown : s.vm.findClass RX9 = some m.cls := hown
  have hinX9 : ∀ w ∈ u_ws RX9 TX9 39, w ∈ wsX9_requestLine := by decide +kernel
  have hf40 := hts (.fieldLink RX9 40 "RequestReaderModel" "head" "[B") (by decide +kernel)
  have hf108 := hts (.fieldLink RX9 108 "RequestReaderModel" "isHead" "Z") (by decide +kernel)
  have hf121 := hts (.fieldLink RX9 121 "RequestReaderModel" "oldVersion" "Z") (by decide +kernel)
  have hf185 := hts (.fieldLink RX9 185 "RequestReaderModel" "other" "Z") (by decide +kernel)
  have hf188 := hts (.fieldLink RX9 188 "RequestReaderModel" "targetAt" "I") (by decide +kernel)
  have hf191 := hts (.fieldLink RX9 191 "RequestReaderModel" "targetEnd" "I") (by decide +kernel)
  refine lv_iconst (v := (-1)) hx hb dX9_requestLine_0 (by decide) ?_
  refine lv_istore_n (lv' := [(3, .int (-1)), (0, .ref mm), (1, .int (nI 0)), (2, .int (nI e0))]) hx hb dX9_requestLine_1 rfl hl (by decide) rfl (fun ls hl => ?_)
  refine lv_iconst (v := (-1)) hx hb dX9_requestLine_2 (by decide) ?_
  refine lv_istore (lv' := [(4, .int (-1)), (3, .int (-1)), (0, .ref mm), (1, .int (nI 0)), (2, .int (nI e0))]) hx hb dX9_requestLine_3 hl (by decide) rfl (fun ls hl => ?_)
  refine lv_iconst (v := nI 0) hx hb dX9_requestLine_5 (by decide) ?_
  refine lv_istore (lv' := [(5, .int (nI 0)), (4, .int (-1)), (3, .int (-1)), (0, .ref mm), (1, .int (nI 0)), (2, .int (nI e0))]) hx hb dX9_requestLine_6 hl (by decide) rfl (fun ls hl => ?_)
  refine lv_iload_n hx hb dX9_requestLine_8 rfl (lv_at hl 4 rfl) ?_
  refine lv_istore (lv' := [(6, .int (nI 0)), (5, .int (nI 0)), (4, .int (-1)), (3, .int (-1)), (0, .ref mm), (1, .int (nI 0)), (2, .int (nI e0))]) hx hb dX9_requestLine_9 hl (by decide) rfl (fun ls hl => ?_)
  have K11 : ∀ (N_ : Nat) (i : Nat) (bl : Nat) (va : Int32) (vb : Int32), (i ≤ e0) → (bl ≤ i) → (pBl f i bl va vb) → (e0 - i) < N_ → ∀ (H : Heap) (locs : List Loc) (ls : Array Slot), va_P (gD g) vwCl [(mm, .inr (7, v0 :: v1 :: v2 :: v3 :: v4 :: v5 :: v6 :: v7 :: v8 :: v9 :: v10 :: v11 :: v12 :: v13 :: v14 :: v15 :: v16 :: .ref ah_ :: v18 :: v19 :: .int (nI m_isHead) :: .int (nI m_oldVersion) :: v22 :: v23 :: v24 :: v25 :: v26 :: v27 :: v28 :: v29 :: v30 :: v31 :: .int (nI m_targetAt) :: .int (nI m_targetEnd) :: v34 :: v35 :: .int (nI m_other) :: v37 :: v38 :: [])), (ah_, .inl (gB g, 4096, .inl fh))] H → va_D A [(mm, .inr (7, v0 :: v1 :: v2 :: v3 :: v4 :: v5 :: v6 :: v7 :: v8 :: v9 :: v10 :: v11 :: v12 :: v13 :: v14 :: v15 :: v16 :: .ref ah_ :: v18 :: v19 :: .int (nI m_isHead) :: .int (nI m_oldVersion) :: v22 :: v23 :: v24 :: v25 :: v26 :: v27 :: v28 :: v29 :: v30 :: v31 :: .int (nI m_targetAt) :: .int (nI m_targetEnd) :: v34 :: v35 :: .int (nI m_other) :: v37 :: v38 :: [])), (ah_, .inl (gB g, 4096, .inl fh))] → va_S A s.heap H locs → lv_has ls 7 [(0, .ref mm), (1, .int (nI 0)), (2, .int (nI e0)), (3, .int va), (4, .int vb), (5, .int (nI bl)), (6, .int (nI i))] → W p l e ({ frames := 5, cells := 0, slots := 0, locals := 109 } : Room) s m args below meth c H locs (0) (0) Q (F0 m 11 ls []) := by
    intro N_
    induction N_ with
    | zero => intro i bl va vb hi hbl hB hm_; exact absurd hm_ (Nat.not_lt_zero _)
    | succ N_ ih_K11 =>
      intro i bl va vb hi hbl hB hm_ H locs ls hP hD hS hl
      refine lv_iload hx hb dX9_requestLine_11 (lv_at hl 6 rfl) ?_
      refine lv_iload_n hx hb dX9_requestLine_13 rfl (lv_at hl 2 rfl) ?_
      refine lv_icmp_ge (tgt := 57) hx hb dX9_requestLine_14 (by decide) (fun c14 => ?_) (fun c14 => ?_)
      · skip
        have c14 : e0 ≤ i := (nI_leI (a := e0) (b := i) (by omega) (by omega)).mp c14
        refine lv_iload hx hb dX9_requestLine_57 (lv_at hl 5 rfl) ?_
        refine lv_iconst (v := nI 2) hx hb dX9_requestLine_59 (by decide) ?_
        refine lv_icmp_ne (tgt := 108) hx hb dX9_requestLine_60 (by decide) (fun c60 => ?_) (fun c60 => ?_)
        · skip
          have c60 : ¬ (bl = 2) := fun z => c60 ((nI_eq (a := bl) (b := 2) (by omega) (by omega)).mpr z)
          refine lv_iconst (v := nI 0) hx hb dX9_requestLine_108 (by decide) ?_
          refine ct_iret (w := [(mm, .inr (7, v0 :: v1 :: v2 :: v3 :: v4 :: v5 :: v6 :: v7 :: v8 :: v9 :: v10 :: v11 :: v12 :: v13 :: v14 :: v15 :: v16 :: .ref ah_ :: v18 :: v19 :: .int (nI m_isHead) :: .int (nI m_oldVersion) :: v22 :: v23 :: v24 :: v25 :: v26 :: v27 :: v28 :: v29 :: v30 :: v31 :: .int (nI m_targetAt) :: .int (nI m_targetEnd) :: v34 :: v35 :: .int (nI m_other) :: v37 :: v38 :: [])), (ah_, .inl (gB g, 4096, .inl fh))]) hx hb hr rfl hlocks hQ hAe hK (hP.sub [0, 1] rfl) (hD.sub [0, 1] (by decide) rfl) hS (by omega) (by omega) dX9_requestLine_109 ?_
          refine Or.inl (?_)
          exact ⟨rfl, rfl, by first | exact req_no (fun z => c60 (ok_bl z (by rw [show e0 = i by omega]; exact hB)))⟩
        · skip
          have c60 : bl = 2 := (nI_eq (a := bl) (b := 2) (by omega) (by omega)).mp c60
          have ei0 : i = e0 := by omega
          subst ei0
          obtain ⟨a, b, rfl, rfl, hab, hbe, ha1, hb1, na, nb, nc⟩ := pBl_of hB c60
          refine lv_iload_n hx hb dX9_requestLine_63 rfl (lv_at hl 3 rfl) ?_
          refine lv_iload_n hx hb dX9_requestLine_64 rfl (lv_at hl 1 rfl) ?_
          refine q_isub (v := nI (a - 0)) hx hb dX9_requestLine_65 (pk_sub (a := a) (b := 0) (by omega)) ?_
          refine lv_iconst (v := nI 1) hx hb dX9_requestLine_66 (by decide) ?_
          refine lv_icmp_lt (tgt := 108) hx hb dX9_requestLine_67 (by decide) (fun c67 => ?_) (fun c67 => ?_)
          · skip
            have c67 : a - 0 < 1 := (nI_ltI (a := a - 0) (b := 1) (by omega) (by omega)).mp c67
            refine lv_iconst (v := nI 0) hx hb dX9_requestLine_108 (by decide) ?_
            refine ct_iret (w := [(mm, .inr (7, v0 :: v1 :: v2 :: v3 :: v4 :: v5 :: v6 :: v7 :: v8 :: v9 :: v10 :: v11 :: v12 :: v13 :: v14 :: v15 :: v16 :: .ref ah_ :: v18 :: v19 :: .int (nI m_isHead) :: .int (nI m_oldVersion) :: v22 :: v23 :: v24 :: v25 :: v26 :: v27 :: v28 :: v29 :: v30 :: v31 :: .int (nI m_targetAt) :: .int (nI m_targetEnd) :: v34 :: v35 :: .int (nI m_other) :: v37 :: v38 :: [])), (ah_, .inl (gB g, 4096, .inl fh))]) hx hb hr rfl hlocks hQ hAe hK (hP.sub [0, 1] rfl) (hD.sub [0, 1] (by decide) rfl) hS (by omega) (by omega) dX9_requestLine_109 ?_
            refine Or.inl (?_)
            exact ⟨rfl, rfl, by exact req_no (fun z => by have h_ := ok_ab z ha1 na hab hb1 nb; obtain ⟨⟨m1, m2, m3⟩, ⟨t1, t2, t3⟩, h3, h4⟩ := h_; first | omega | exact c96 t2 | exact (m3 i4 (by omega)).1 c127 | exact (m3 i4 (by omega)).2 (Int32.not_le.mp c138) | exact (t3 i5 (by omega) (by omega)).1 c169 | exact (t3 i5 (by omega) (by omega)).2 (Int32.not_le.mp c180) | exact h4.elim hF_213 hF_199)⟩
          · skip
            have c67 : ¬ (a - 0 < 1) := fun z => c67 ((nI_ltI (a := a - 0) (b := 1) (by omega) (by omega)).mpr z)
            refine lv_iload_n hx hb dX9_requestLine_70 rfl (lv_at hl 3 rfl) ?_
            refine lv_iload_n hx hb dX9_requestLine_71 rfl (lv_at hl 1 rfl) ?_
            refine q_isub (v := nI (a - 0)) hx hb dX9_requestLine_72 (pk_sub (a := a) (b := 0) (by omega)) ?_
            refine lv_bipush (v := nI 16) hx hb dX9_requestLine_73 (by decide) ?_
            refine lv_icmp_gt (tgt := 108) hx hb dX9_requestLine_75 (by decide) (fun c75 => ?_) (fun c75 => ?_)
            · skip
              have c75 : 16 < a - 0 := (nI_ltI (a := 16) (b := a - 0) (by omega) (by omega)).mp c75
              refine lv_iconst (v := nI 0) hx hb dX9_requestLine_108 (by decide) ?_
              refine ct_iret (w := [(mm, .inr (7, v0 :: v1 :: v2 :: v3 :: v4 :: v5 :: v6 :: v7 :: v8 :: v9 :: v10 :: v11 :: v12 :: v13 :: v14 :: v15 :: v16 :: .ref ah_ :: v18 :: v19 :: .int (nI m_isHead) :: .int (nI m_oldVersion) :: v22 :: v23 :: v24 :: v25 :: v26 :: v27 :: v28 :: v29 :: v30 :: v31 :: .int (nI m_targetAt) :: .int (nI m_targetEnd) :: v34 :: v35 :: .int (nI m_other) :: v37 :: v38 :: [])), (ah_, .inl (gB g, 4096, .inl fh))]) hx hb hr rfl hlocks hQ hAe hK (hP.sub [0, 1] rfl) (hD.sub [0, 1] (by decide) rfl) hS (by omega) (by omega) dX9_requestLine_109 ?_
              refine Or.inl (?_)
              exact ⟨rfl, rfl, by exact req_no (fun z => by have h_ := ok_ab z ha1 na hab hb1 nb; obtain ⟨⟨m1, m2, m3⟩, ⟨t1, t2, t3⟩, h3, h4⟩ := h_; first | omega | exact c96 t2 | exact (m3 i4 (by omega)).1 c127 | exact (m3 i4 (by omega)).2 (Int32.not_le.mp c138) | exact (t3 i5 (by omega) (by omega)).1 c169 | exact (t3 i5 (by omega) (by omega)).2 (Int32.not_le.mp c180) | exact h4.elim hF_213 hF_199)⟩
            · skip
              have c75 : ¬ (16 < a - 0) := fun z => c75 ((nI_ltI (a := 16) (b := a - 0) (by omega) (by omega)).mpr z)
              refine lv_iload hx hb dX9_requestLine_78 (lv_at hl 4 rfl) ?_
              refine lv_iload_n hx hb dX9_requestLine_80 rfl (lv_at hl 3 rfl) ?_
              refine lv_iconst (v := nI 1) hx hb dX9_requestLine_81 (by decide) ?_
              refine q_iadd (v := nI (a + 1)) hx hb dX9_requestLine_82 (nI_add a 1) ?_
              refine lv_icmp_eq (tgt := 108) hx hb dX9_requestLine_83 (by decide) (fun c83 => ?_) (fun c83 => ?_)
              · skip
                have c83 : b = a + 1 := (nI_eq (a := b) (b := a + 1) (by omega) (by omega)).mp c83
                refine lv_iconst (v := nI 0) hx hb dX9_requestLine_108 (by decide) ?_
                refine ct_iret (w := [(mm, .inr (7, v0 :: v1 :: v2 :: v3 :: v4 :: v5 :: v6 :: v7 :: v8 :: v9 :: v10 :: v11 :: v12 :: v13 :: v14 :: v15 :: v16 :: .ref ah_ :: v18 :: v19 :: .int (nI m_isHead) :: .int (nI m_oldVersion) :: v22 :: v23 :: v24 :: v25 :: v26 :: v27 :: v28 :: v29 :: v30 :: v31 :: .int (nI m_targetAt) :: .int (nI m_targetEnd) :: v34 :: v35 :: .int (nI m_other) :: v37 :: v38 :: [])), (ah_, .inl (gB g, 4096, .inl fh))]) hx hb hr rfl hlocks hQ hAe hK (hP.sub [0, 1] rfl) (hD.sub [0, 1] (by decide) rfl) hS (by omega) (by omega) dX9_requestLine_109 ?_
                refine Or.inl (?_)
                exact ⟨rfl, rfl, by exact req_no (fun z => by have h_ := ok_ab z ha1 na hab hb1 nb; obtain ⟨⟨m1, m2, m3⟩, ⟨t1, t2, t3⟩, h3, h4⟩ := h_; first | omega | exact c96 t2 | exact (m3 i4 (by omega)).1 c127 | exact (m3 i4 (by omega)).2 (Int32.not_le.mp c138) | exact (t3 i5 (by omega) (by omega)).1 c169 | exact (t3 i5 (by omega) (by omega)).2 (Int32.not_le.mp c180) | exact h4.elim hF_213 hF_199)⟩
              · skip
                have c83 : ¬ (b = a + 1) := fun z => c83 ((nI_eq (a := b) (b := a + 1) (by omega) (by omega)).mpr z)
                refine lv_aload_n hx hb dX9_requestLine_86 rfl (lv_at hl 0 rfl) ?_
                refine va_get (D := gD g) (ci := 7) (v := .ref ah_) (C := RX9) (T := TX9) (N := 39) hx hb hts hinX9 hown hK hP 0 rfl rfl 17 (by decide) hf40 (fun _ h9 => h9) rfl dX9_requestLine_87 ?_
                refine lv_iload_n hx hb dX9_requestLine_90 rfl (lv_at hl 3 rfl) ?_
                refine lv_iconst (v := nI 1) hx hb dX9_requestLine_91 (by decide) ?_
                refine q_iadd (v := nI (a + 1)) hx hb dX9_requestLine_92 (nI_add a 1) ?_
                refine q_bald hx hb hK hP 1 rfl (a + 1) rfl (by omega) (by omega) dX9_requestLine_93 ?_
                refine q_top (v := f (a + 1)) (hM _ (by omega)) ?_
                refine lv_bipush (v := nI 47) hx hb dX9_requestLine_94 (by decide) ?_
                refine lv_icmp_ne (tgt := 108) hx hb dX9_requestLine_96 (by decide) (fun c96 => ?_) (fun c96 => ?_)
                · skip
                  have c96 : ¬ f (a + 1) &&& 255 = nI 47 := fun z => c96 ((ra hfit (by decide)).mpr z)
                  refine lv_iconst (v := nI 0) hx hb dX9_requestLine_108 (by decide) ?_
                  refine ct_iret (w := [(mm, .inr (7, v0 :: v1 :: v2 :: v3 :: v4 :: v5 :: v6 :: v7 :: v8 :: v9 :: v10 :: v11 :: v12 :: v13 :: v14 :: v15 :: v16 :: .ref ah_ :: v18 :: v19 :: .int (nI m_isHead) :: .int (nI m_oldVersion) :: v22 :: v23 :: v24 :: v25 :: v26 :: v27 :: v28 :: v29 :: v30 :: v31 :: .int (nI m_targetAt) :: .int (nI m_targetEnd) :: v34 :: v35 :: .int (nI m_other) :: v37 :: v38 :: [])), (ah_, .inl (gB g, 4096, .inl fh))]) hx hb hr rfl hlocks hQ hAe hK (hP.sub [0, 1] rfl) (hD.sub [0, 1] (by decide) rfl) hS (by omega) (by omega) dX9_requestLine_109 ?_
                  refine Or.inl (?_)
                  exact ⟨rfl, rfl, by exact req_no (fun z => by have h_ := ok_ab z ha1 na hab hb1 nb; obtain ⟨⟨m1, m2, m3⟩, ⟨t1, t2, t3⟩, h3, h4⟩ := h_; first | omega | exact c96 t2 | exact (m3 i4 (by omega)).1 c127 | exact (m3 i4 (by omega)).2 (Int32.not_le.mp c138) | exact (t3 i5 (by omega) (by omega)).1 c169 | exact (t3 i5 (by omega) (by omega)).2 (Int32.not_le.mp c180) | exact h4.elim hF_213 hF_199)⟩
                · skip
                  have c96 := (ra hfit (by decide)).mp c96
                  refine lv_iload_n hx hb dX9_requestLine_99 rfl (lv_at hl 2 rfl) ?_
                  refine lv_iload hx hb dX9_requestLine_100 (lv_at hl 4 rfl) ?_
                  refine q_isub (v := nI (i - b)) hx hb dX9_requestLine_102 (pk_sub (a := i) (b := b) (by omega)) ?_
                  refine lv_bipush (v := nI 9) hx hb dX9_requestLine_103 (by decide) ?_
                  refine lv_icmp_eq (tgt := 110) hx hb dX9_requestLine_105 (by decide) (fun c105 => ?_) (fun c105 => ?_)
                  · skip
                    have c105 : i - b = 9 := (nI_eq (a := i - b) (b := 9) (by omega) (by omega)).mp c105
                    refine lv_iload_n hx hb dX9_requestLine_110 rfl (lv_at hl 1 rfl) ?_
                    refine lv_istore (lv' := [(6, .int (nI 0)), (0, .ref mm), (1, .int (nI 0)), (2, .int (nI i)), (3, .int (nI a)), (4, .int (nI b)), (5, .int (nI bl))]) hx hb dX9_requestLine_111 hl (by decide) rfl (fun ls hl => ?_)
                    have K113 : ∀ (N_ : Nat) (i4 : Nat), (i4 ≤ a) → (∀ j, j < i4 → pGreat (f j &&& 255)) → (a - i4) < N_ → ∀ (H : Heap) (locs : List Loc) (ls : Array Slot), va_P (gD g) vwCl [(mm, .inr (7, v0 :: v1 :: v2 :: v3 :: v4 :: v5 :: v6 :: v7 :: v8 :: v9 :: v10 :: v11 :: v12 :: v13 :: v14 :: v15 :: v16 :: .ref ah_ :: v18 :: v19 :: .int (nI m_isHead) :: .int (nI m_oldVersion) :: v22 :: v23 :: v24 :: v25 :: v26 :: v27 :: v28 :: v29 :: v30 :: v31 :: .int (nI m_targetAt) :: .int (nI m_targetEnd) :: v34 :: v35 :: .int (nI m_other) :: v37 :: v38 :: [])), (ah_, .inl (gB g, 4096, .inl fh))] H → va_D A [(mm, .inr (7, v0 :: v1 :: v2 :: v3 :: v4 :: v5 :: v6 :: v7 :: v8 :: v9 :: v10 :: v11 :: v12 :: v13 :: v14 :: v15 :: v16 :: .ref ah_ :: v18 :: v19 :: .int (nI m_isHead) :: .int (nI m_oldVersion) :: v22 :: v23 :: v24 :: v25 :: v26 :: v27 :: v28 :: v29 :: v30 :: v31 :: .int (nI m_targetAt) :: .int (nI m_targetEnd) :: v34 :: v35 :: .int (nI m_other) :: v37 :: v38 :: [])), (ah_, .inl (gB g, 4096, .inl fh))] → va_S A s.heap H locs → lv_has ls 7 [(0, .ref mm), (1, .int (nI 0)), (2, .int (nI i)), (3, .int (nI a)), (4, .int (nI b)), (5, .int (nI bl)), (6, .int (nI i4))] → W p l e ({ frames := 5, cells := 0, slots := 0, locals := 109 } : Room) s m args below meth c H locs (0) (0) Q (F0 m 113 ls []) := by
                      intro N_
                      induction N_ with
                      | zero => intro i4 hi4 hgr hm_; exact absurd hm_ (Nat.not_lt_zero _)
                      | succ N_ ih_K113 =>
                        intro i4 hi4 hgr hm_ H locs ls hP hD hS hl
                        refine lv_iload hx hb dX9_requestLine_113 (lv_at hl 6 rfl) ?_
                        refine lv_iload_n hx hb dX9_requestLine_115 rfl (lv_at hl 3 rfl) ?_
                        refine lv_icmp_ge (tgt := 149) hx hb dX9_requestLine_116 (by decide) (fun c116 => ?_) (fun c116 => ?_)
                        · skip
                          have c116 : a ≤ i4 := (nI_leI (a := a) (b := i4) (by omega) (by omega)).mp c116
                          refine lv_iload_n hx hb dX9_requestLine_149 rfl (lv_at hl 3 rfl) ?_
                          refine lv_iconst (v := nI 1) hx hb dX9_requestLine_150 (by decide) ?_
                          refine q_iadd (v := nI (a + 1)) hx hb dX9_requestLine_151 (nI_add a 1) ?_
                          refine lv_istore (lv' := [(6, .int (nI (a + 1))), (0, .ref mm), (1, .int (nI 0)), (2, .int (nI i)), (3, .int (nI a)), (4, .int (nI b)), (5, .int (nI bl))]) hx hb dX9_requestLine_152 hl (by decide) rfl (fun ls hl => ?_)
                          have K154 : ∀ (N_ : Nat) (i5 : Nat), (a < i5) → (i5 ≤ b) → (∀ j, j < a → pGreat (f j &&& 255)) → (∀ j, a < j → j < i5 → pVis (f j &&& 255)) → (b - i5) < N_ → ∀ (H : Heap) (locs : List Loc) (ls : Array Slot), va_P (gD g) vwCl [(mm, .inr (7, v0 :: v1 :: v2 :: v3 :: v4 :: v5 :: v6 :: v7 :: v8 :: v9 :: v10 :: v11 :: v12 :: v13 :: v14 :: v15 :: v16 :: .ref ah_ :: v18 :: v19 :: .int (nI m_isHead) :: .int (nI m_oldVersion) :: v22 :: v23 :: v24 :: v25 :: v26 :: v27 :: v28 :: v29 :: v30 :: v31 :: .int (nI m_targetAt) :: .int (nI m_targetEnd) :: v34 :: v35 :: .int (nI m_other) :: v37 :: v38 :: [])), (ah_, .inl (gB g, 4096, .inl fh))] H → va_D A [(mm, .inr (7, v0 :: v1 :: v2 :: v3 :: v4 :: v5 :: v6 :: v7 :: v8 :: v9 :: v10 :: v11 :: v12 :: v13 :: v14 :: v15 :: v16 :: .ref ah_ :: v18 :: v19 :: .int (nI m_isHead) :: .int (nI m_oldVersion) :: v22 :: v23 :: v24 :: v25 :: v26 :: v27 :: v28 :: v29 :: v30 :: v31 :: .int (nI m_targetAt) :: .int (nI m_targetEnd) :: v34 :: v35 :: .int (nI m_other) :: v37 :: v38 :: [])), (ah_, .inl (gB g, 4096, .inl fh))] → va_S A s.heap H locs → lv_has ls 7 [(0, .ref mm), (1, .int (nI 0)), (2, .int (nI i)), (3, .int (nI a)), (4, .int (nI b)), (5, .int (nI bl)), (6, .int (nI i5))] → W p l e ({ frames := 5, cells := 0, slots := 0, locals := 109 } : Room) s m args below meth c H locs (0) (0) Q (F0 m 154 ls []) := by
                            intro N_
                            induction N_ with
                            | zero => intro i5 hi5 hi6 hgr hvi hm_; exact absurd hm_ (Nat.not_lt_zero _)
                            | succ N_ ih_K154 =>
                              intro i5 hi5 hi6 hgr hvi hm_ H locs ls hP hD hS hl
                              refine lv_iload hx hb dX9_requestLine_154 (lv_at hl 6 rfl) ?_
                              refine lv_iload hx hb dX9_requestLine_156 (lv_at hl 4 rfl) ?_
                              refine lv_icmp_ge (tgt := 191) hx hb dX9_requestLine_158 (by decide) (fun c158 => ?_) (fun c158 => ?_)
                              · skip
                                have c158 : b ≤ i5 := (nI_leI (a := b) (b := i5) (by omega) (by omega)).mp c158
                                refine lv_aload_n hx hb dX9_requestLine_191 rfl (lv_at hl 0 rfl) ?_
                                refine lv_iload hx hb dX9_requestLine_192 (lv_at hl 4 rfl) ?_
                                refine lv_iconst (v := nI 1) hx hb dX9_requestLine_194 (by decide) ?_
                                refine q_iadd (v := nI (b + 1)) hx hb dX9_requestLine_195 (nI_add b 1) ?_
                                refine lv_iload_n hx hb dX9_requestLine_196 rfl (lv_at hl 2 rfl) ?_
                                refine va_ldcS hx hb hown ((hG.1 36 (by decide)).2.2.2.2) dX9_requestLine_197 ?_
                                refine ct_callV (wr := []) hx hb hml hown hts hK hP hD hS hA hG hl.1 (c_says l g mm ((v0 : Value)) ((v1 : Value)) ((v2 : Value)) ((v3 : Value)) ((v4 : Value)) ((v5 : Value)) ((v6 : Value)) ((v7 : Value)) ((v8 : Value)) ((v9 : Value)) ((v10 : Value)) ((v11 : Value)) ((v12 : Value)) ((v13 : Value)) ((v14 : Value)) ((v15 : Value)) ((v16 : Value)) ah_ ((v18 : Value)) ((v19 : Value)) ((.int (nI m_isHead) : Value)) ((.int (nI m_oldVersion) : Value)) ((v22 : Value)) ((v23 : Value)) ((v24 : Value)) ((v25 : Value)) ((v26 : Value)) ((v27 : Value)) ((v28 : Value)) ((v29 : Value)) ((v30 : Value)) ((v31 : Value)) ((.int (nI m_targetAt) : Value)) ((.int (nI m_targetEnd) : Value)) ((v34 : Value)) ((v35 : Value)) ((.int (nI m_other) : Value)) ((v37 : Value)) ((v38 : Value)) fh f hn (b + 1) i 36 3 (by omega) (by assumption) (by omega) (by omega) (by first | assumption | decide) (by first | assumption | rfl)) (cwV 3 hts gX9_requestLine_X9_says rfl rfl rfl (by decide +kernel) ⟨Nat.le_of_ble_eq_true rfl, Nat.le_of_ble_eq_true rfl⟩) (va_recv hK hP (ci := 7) (q0 := 0) rfl rfl) rfl rfl (Nat.le_of_ble_eq_true rfl) dX9_requestLine_199 ⟨show 0 + 0 ≤ 0 by omega, show 0 + 0 ≤ 0 by omega⟩ [0, 1] [] rfl rfl (by decide) (by decide) (by decide) (fun r_ w_ H locs hp_ hP hD hS => ?_)
                                rcases hp_ with ⟨rfl, rfl, hT_199⟩ | ⟨rfl, rfl, hF_199⟩
                                · skip
                                  have hP : va_P (gD g) vwCl [(mm, .inr (7, v0 :: v1 :: v2 :: v3 :: v4 :: v5 :: v6 :: v7 :: v8 :: v9 :: v10 :: v11 :: v12 :: v13 :: v14 :: v15 :: v16 :: .ref ah_ :: v18 :: v19 :: .int (nI m_isHead) :: .int (nI m_oldVersion) :: v22 :: v23 :: v24 :: v25 :: v26 :: v27 :: v28 :: v29 :: v30 :: v31 :: .int (nI m_targetAt) :: .int (nI m_targetEnd) :: v34 :: v35 :: .int (nI m_other) :: v37 :: v38 :: [])), (ah_, .inl (gB g, 4096, .inl fh))] H := hP
                                  have hD : va_D A [(mm, .inr (7, v0 :: v1 :: v2 :: v3 :: v4 :: v5 :: v6 :: v7 :: v8 :: v9 :: v10 :: v11 :: v12 :: v13 :: v14 :: v15 :: v16 :: .ref ah_ :: v18 :: v19 :: .int (nI m_isHead) :: .int (nI m_oldVersion) :: v22 :: v23 :: v24 :: v25 :: v26 :: v27 :: v28 :: v29 :: v30 :: v31 :: .int (nI m_targetAt) :: .int (nI m_targetEnd) :: v34 :: v35 :: .int (nI m_other) :: v37 :: v38 :: [])), (ah_, .inl (gB g, 4096, .inl fh))] := hD
                                  have hT_199 : pText f (b + 1) i 3 := hT_199
                                  refine W.eq (g2 := F0 m 202 ls [.int (nI 1)]) rfl ?_
                                  refine lv_if_ne (tgt := 221) hx hb dX9_requestLine_202 (by decide) (fun _ => ?_) (fun c202 => absurd c202 (by decide))
                                  refine lv_aload_n hx hb dX9_requestLine_221 rfl (lv_at hl 0 rfl) ?_
                                  refine lv_aload_n hx hb dX9_requestLine_222 rfl (lv_at hl 0 rfl) ?_
                                  refine va_get (D := gD g) (ci := 7) (v := .ref ah_) (C := RX9) (T := TX9) (N := 39) hx hb hts hinX9 hown hK hP 0 rfl rfl 17 (by decide) hf40 (fun _ h9 => h9) rfl dX9_requestLine_223 ?_
                                  refine lv_iload_n hx hb dX9_requestLine_226 rfl (lv_at hl 2 rfl) ?_
                                  refine lv_iconst (v := nI 1) hx hb dX9_requestLine_227 (by decide) ?_
                                  refine q_isub (v := nI (i - 1)) hx hb dX9_requestLine_228 (pk_sub (a := i) (b := 1) (by omega)) ?_
                                  refine q_bald hx hb hK hP 1 rfl (i - 1) rfl (by omega) (by omega) dX9_requestLine_229 ?_
                                  refine q_top (v := f (i - 1)) (hM _ (by omega)) ?_
                                  refine lv_bipush (v := nI 48) hx hb dX9_requestLine_230 (by decide) ?_
                                  refine lv_icmp_ne (tgt := 239) hx hb dX9_requestLine_232 (by decide) (fun c232 => ?_) (fun c232 => ?_)
                                  · skip
                                    exact absurd ((ra hfit (by decide)).mpr (ver0 hT_199)) c232
                                  · skip
                                    refine lv_iconst (v := nI 1) hx hb dX9_requestLine_235 (by decide) ?_
                                    refine lv_goto (tgt := 240) hx hb dX9_requestLine_236 (by decide) ?_
                                    refine va_put (D := gD g) (ci := 7) (v := .int (nI 1)) (ty := .boolean) (C := RX9) (T := TX9) (N := 39) hx hb hts hinX9 tyX9 tyX9_ok nmX9 hown hK hP hD hS 0 rfl rfl 21 (by decide) hf121 (fun _ h9 => h9) rfl (by decide +kernel) rfl rfl (Nat.le_of_ble_eq_true rfl) dX9_requestLine_240 (fun H locs hP hD hS => ?_)
                                    have hP : va_P (gD g) vwCl [(mm, .inr (7, v0 :: v1 :: v2 :: v3 :: v4 :: v5 :: v6 :: v7 :: v8 :: v9 :: v10 :: v11 :: v12 :: v13 :: v14 :: v15 :: v16 :: .ref ah_ :: v18 :: v19 :: .int (nI m_isHead) :: .int (nI 1) :: v22 :: v23 :: v24 :: v25 :: v26 :: v27 :: v28 :: v29 :: v30 :: v31 :: .int (nI m_targetAt) :: .int (nI m_targetEnd) :: v34 :: v35 :: .int (nI m_other) :: v37 :: v38 :: [])), (ah_, .inl (gB g, 4096, .inl fh))] H := hP
                                    have hD : va_D A [(mm, .inr (7, v0 :: v1 :: v2 :: v3 :: v4 :: v5 :: v6 :: v7 :: v8 :: v9 :: v10 :: v11 :: v12 :: v13 :: v14 :: v15 :: v16 :: .ref ah_ :: v18 :: v19 :: .int (nI m_isHead) :: .int (nI 1) :: v22 :: v23 :: v24 :: v25 :: v26 :: v27 :: v28 :: v29 :: v30 :: v31 :: .int (nI m_targetAt) :: .int (nI m_targetEnd) :: v34 :: v35 :: .int (nI m_other) :: v37 :: v38 :: [])), (ah_, .inl (gB g, 4096, .inl fh))] := hD
                                    refine lv_aload_n hx hb dX9_requestLine_243 rfl (lv_at hl 0 rfl) ?_
                                    refine lv_aload_n hx hb dX9_requestLine_244 rfl (lv_at hl 0 rfl) ?_
                                    refine lv_iload_n hx hb dX9_requestLine_245 rfl (lv_at hl 1 rfl) ?_
                                    refine lv_iload_n hx hb dX9_requestLine_246 rfl (lv_at hl 3 rfl) ?_
                                    refine va_ldcS hx hb hown ((hG.1 38 (by decide)).2.2.2.2) dX9_requestLine_247 ?_
                                    refine ct_callV (wr := []) hx hb hml hown hts hK hP hD hS hA hG hl.1 (c_says l g mm ((v0 : Value)) ((v1 : Value)) ((v2 : Value)) ((v3 : Value)) ((v4 : Value)) ((v5 : Value)) ((v6 : Value)) ((v7 : Value)) ((v8 : Value)) ((v9 : Value)) ((v10 : Value)) ((v11 : Value)) ((v12 : Value)) ((v13 : Value)) ((v14 : Value)) ((v15 : Value)) ((v16 : Value)) ah_ ((v18 : Value)) ((v19 : Value)) ((.int (nI m_isHead) : Value)) ((.int (nI 1) : Value)) ((v22 : Value)) ((v23 : Value)) ((v24 : Value)) ((v25 : Value)) ((v26 : Value)) ((v27 : Value)) ((v28 : Value)) ((v29 : Value)) ((v30 : Value)) ((v31 : Value)) ((.int (nI m_targetAt) : Value)) ((.int (nI m_targetEnd) : Value)) ((v34 : Value)) ((v35 : Value)) ((.int (nI m_other) : Value)) ((v37 : Value)) ((v38 : Value)) fh f hn 0 a 38 4 (by omega) (by assumption) (by omega) (by omega) (by first | assumption | decide) (by first | assumption | rfl)) (cwV 3 hts gX9_requestLine_X9_says rfl rfl rfl (by decide +kernel) ⟨Nat.le_of_ble_eq_true rfl, Nat.le_of_ble_eq_true rfl⟩) (va_recv hK hP (ci := 7) (q0 := 0) rfl rfl) rfl rfl (Nat.le_of_ble_eq_true rfl) dX9_requestLine_249 ⟨show 0 + 0 ≤ 0 by omega, show 0 + 0 ≤ 0 by omega⟩ [0, 1] [] rfl rfl (by decide) (by decide) (by decide) (fun r_ w_ H locs hp_ hP hD hS => ?_)
                                    rcases hp_ with ⟨rfl, rfl, hT_249⟩ | ⟨rfl, rfl, hF_249⟩
                                    · skip
                                      have hP : va_P (gD g) vwCl [(mm, .inr (7, v0 :: v1 :: v2 :: v3 :: v4 :: v5 :: v6 :: v7 :: v8 :: v9 :: v10 :: v11 :: v12 :: v13 :: v14 :: v15 :: v16 :: .ref ah_ :: v18 :: v19 :: .int (nI m_isHead) :: .int (nI 1) :: v22 :: v23 :: v24 :: v25 :: v26 :: v27 :: v28 :: v29 :: v30 :: v31 :: .int (nI m_targetAt) :: .int (nI m_targetEnd) :: v34 :: v35 :: .int (nI m_other) :: v37 :: v38 :: [])), (ah_, .inl (gB g, 4096, .inl fh))] H := hP
                                      have hD : va_D A [(mm, .inr (7, v0 :: v1 :: v2 :: v3 :: v4 :: v5 :: v6 :: v7 :: v8 :: v9 :: v10 :: v11 :: v12 :: v13 :: v14 :: v15 :: v16 :: .ref ah_ :: v18 :: v19 :: .int (nI m_isHead) :: .int (nI 1) :: v22 :: v23 :: v24 :: v25 :: v26 :: v27 :: v28 :: v29 :: v30 :: v31 :: .int (nI m_targetAt) :: .int (nI m_targetEnd) :: v34 :: v35 :: .int (nI m_other) :: v37 :: v38 :: [])), (ah_, .inl (gB g, 4096, .inl fh))] := hD
                                      have hT_249 : pText f 0 a 4 := hT_249
                                      refine W.eq (g2 := F0 m 252 ls [.int (nI 1), .ref mm]) rfl ?_
                                      refine va_put (D := gD g) (ci := 7) (v := .int (nI 1)) (ty := .boolean) (C := RX9) (T := TX9) (N := 39) hx hb hts hinX9 tyX9 tyX9_ok nmX9 hown hK hP hD hS 0 rfl rfl 20 (by decide) hf108 (fun _ h9 => h9) rfl (by decide +kernel) rfl rfl (Nat.le_of_ble_eq_true rfl) dX9_requestLine_252 (fun H locs hP hD hS => ?_)
                                      have hP : va_P (gD g) vwCl [(mm, .inr (7, v0 :: v1 :: v2 :: v3 :: v4 :: v5 :: v6 :: v7 :: v8 :: v9 :: v10 :: v11 :: v12 :: v13 :: v14 :: v15 :: v16 :: .ref ah_ :: v18 :: v19 :: .int (nI 1) :: .int (nI 1) :: v22 :: v23 :: v24 :: v25 :: v26 :: v27 :: v28 :: v29 :: v30 :: v31 :: .int (nI m_targetAt) :: .int (nI m_targetEnd) :: v34 :: v35 :: .int (nI m_other) :: v37 :: v38 :: [])), (ah_, .inl (gB g, 4096, .inl fh))] H := hP
                                      have hD : va_D A [(mm, .inr (7, v0 :: v1 :: v2 :: v3 :: v4 :: v5 :: v6 :: v7 :: v8 :: v9 :: v10 :: v11 :: v12 :: v13 :: v14 :: v15 :: v16 :: .ref ah_ :: v18 :: v19 :: .int (nI 1) :: .int (nI 1) :: v22 :: v23 :: v24 :: v25 :: v26 :: v27 :: v28 :: v29 :: v30 :: v31 :: .int (nI m_targetAt) :: .int (nI m_targetEnd) :: v34 :: v35 :: .int (nI m_other) :: v37 :: v38 :: [])), (ah_, .inl (gB g, 4096, .inl fh))] := hD
                                      refine lv_aload_n hx hb dX9_requestLine_255 rfl (lv_at hl 0 rfl) ?_
                                      refine lv_aload_n hx hb dX9_requestLine_256 rfl (lv_at hl 0 rfl) ?_
                                      refine va_get (D := gD g) (ci := 7) (v := .int (nI 1)) (C := RX9) (T := TX9) (N := 39) hx hb hts hinX9 hown hK hP 0 rfl rfl 20 (by decide) hf108 (fun _ h9 => h9) rfl dX9_requestLine_257 ?_
                                      refine lv_if_ne (tgt := 278) hx hb dX9_requestLine_260 (by decide) (fun _ => ?_) (fun c260 => absurd c260 (by decide))
                                      refine lv_iconst (v := nI 0) hx hb dX9_requestLine_278 (by decide) ?_
                                      refine va_put (D := gD g) (ci := 7) (v := .int (nI 0)) (ty := .boolean) (C := RX9) (T := TX9) (N := 39) hx hb hts hinX9 tyX9 tyX9_ok nmX9 hown hK hP hD hS 0 rfl rfl 36 (by decide) hf185 (fun _ h9 => h9) rfl (by decide +kernel) rfl rfl (Nat.le_of_ble_eq_true rfl) dX9_requestLine_279 (fun H locs hP hD hS => ?_)
                                      have hP : va_P (gD g) vwCl [(mm, .inr (7, v0 :: v1 :: v2 :: v3 :: v4 :: v5 :: v6 :: v7 :: v8 :: v9 :: v10 :: v11 :: v12 :: v13 :: v14 :: v15 :: v16 :: .ref ah_ :: v18 :: v19 :: .int (nI 1) :: .int (nI 1) :: v22 :: v23 :: v24 :: v25 :: v26 :: v27 :: v28 :: v29 :: v30 :: v31 :: .int (nI m_targetAt) :: .int (nI m_targetEnd) :: v34 :: v35 :: .int (nI 0) :: v37 :: v38 :: [])), (ah_, .inl (gB g, 4096, .inl fh))] H := hP
                                      have hD : va_D A [(mm, .inr (7, v0 :: v1 :: v2 :: v3 :: v4 :: v5 :: v6 :: v7 :: v8 :: v9 :: v10 :: v11 :: v12 :: v13 :: v14 :: v15 :: v16 :: .ref ah_ :: v18 :: v19 :: .int (nI 1) :: .int (nI 1) :: v22 :: v23 :: v24 :: v25 :: v26 :: v27 :: v28 :: v29 :: v30 :: v31 :: .int (nI m_targetAt) :: .int (nI m_targetEnd) :: v34 :: v35 :: .int (nI 0) :: v37 :: v38 :: [])), (ah_, .inl (gB g, 4096, .inl fh))] := hD
                                      refine lv_aload_n hx hb dX9_requestLine_282 rfl (lv_at hl 0 rfl) ?_
                                      refine lv_iload_n hx hb dX9_requestLine_283 rfl (lv_at hl 3 rfl) ?_
                                      refine lv_iconst (v := nI 1) hx hb dX9_requestLine_284 (by decide) ?_
                                      refine q_iadd (v := nI (a + 1)) hx hb dX9_requestLine_285 (nI_add a 1) ?_
                                      refine va_put (D := gD g) (ci := 7) (v := .int (nI (a + 1))) (ty := .int) (C := RX9) (T := TX9) (N := 39) hx hb hts hinX9 tyX9 tyX9_ok nmX9 hown hK hP hD hS 0 rfl rfl 32 (by decide) hf188 (fun _ h9 => h9) rfl (by decide +kernel) rfl rfl (Nat.le_of_ble_eq_true rfl) dX9_requestLine_286 (fun H locs hP hD hS => ?_)
                                      have hP : va_P (gD g) vwCl [(mm, .inr (7, v0 :: v1 :: v2 :: v3 :: v4 :: v5 :: v6 :: v7 :: v8 :: v9 :: v10 :: v11 :: v12 :: v13 :: v14 :: v15 :: v16 :: .ref ah_ :: v18 :: v19 :: .int (nI 1) :: .int (nI 1) :: v22 :: v23 :: v24 :: v25 :: v26 :: v27 :: v28 :: v29 :: v30 :: v31 :: .int (nI (a + 1)) :: .int (nI m_targetEnd) :: v34 :: v35 :: .int (nI 0) :: v37 :: v38 :: [])), (ah_, .inl (gB g, 4096, .inl fh))] H := hP
                                      have hD : va_D A [(mm, .inr (7, v0 :: v1 :: v2 :: v3 :: v4 :: v5 :: v6 :: v7 :: v8 :: v9 :: v10 :: v11 :: v12 :: v13 :: v14 :: v15 :: v16 :: .ref ah_ :: v18 :: v19 :: .int (nI 1) :: .int (nI 1) :: v22 :: v23 :: v24 :: v25 :: v26 :: v27 :: v28 :: v29 :: v30 :: v31 :: .int (nI (a + 1)) :: .int (nI m_targetEnd) :: v34 :: v35 :: .int (nI 0) :: v37 :: v38 :: [])), (ah_, .inl (gB g, 4096, .inl fh))] := hD
                                      refine lv_aload_n hx hb dX9_requestLine_289 rfl (lv_at hl 0 rfl) ?_
                                      refine lv_iload hx hb dX9_requestLine_290 (lv_at hl 4 rfl) ?_
                                      refine va_put (D := gD g) (ci := 7) (v := .int (nI b)) (ty := .int) (C := RX9) (T := TX9) (N := 39) hx hb hts hinX9 tyX9 tyX9_ok nmX9 hown hK hP hD hS 0 rfl rfl 33 (by decide) hf191 (fun _ h9 => h9) rfl (by decide +kernel) rfl rfl (Nat.le_of_ble_eq_true rfl) dX9_requestLine_292 (fun H locs hP hD hS => ?_)
                                      have hP : va_P (gD g) vwCl [(mm, .inr (7, v0 :: v1 :: v2 :: v3 :: v4 :: v5 :: v6 :: v7 :: v8 :: v9 :: v10 :: v11 :: v12 :: v13 :: v14 :: v15 :: v16 :: .ref ah_ :: v18 :: v19 :: .int (nI 1) :: .int (nI 1) :: v22 :: v23 :: v24 :: v25 :: v26 :: v27 :: v28 :: v29 :: v30 :: v31 :: .int (nI (a + 1)) :: .int (nI b) :: v34 :: v35 :: .int (nI 0) :: v37 :: v38 :: [])), (ah_, .inl (gB g, 4096, .inl fh))] H := hP
                                      have hD : va_D A [(mm, .inr (7, v0 :: v1 :: v2 :: v3 :: v4 :: v5 :: v6 :: v7 :: v8 :: v9 :: v10 :: v11 :: v12 :: v13 :: v14 :: v15 :: v16 :: .ref ah_ :: v18 :: v19 :: .int (nI 1) :: .int (nI 1) :: v22 :: v23 :: v24 :: v25 :: v26 :: v27 :: v28 :: v29 :: v30 :: v31 :: .int (nI (a + 1)) :: .int (nI b) :: v34 :: v35 :: .int (nI 0) :: v37 :: v38 :: [])), (ah_, .inl (gB g, 4096, .inl fh))] := hD
                                      refine lv_iconst (v := nI 1) hx hb dX9_requestLine_295 (by decide) ?_
                                      refine ct_iret (w := [(mm, .inr (7, v0 :: v1 :: v2 :: v3 :: v4 :: v5 :: v6 :: v7 :: v8 :: v9 :: v10 :: v11 :: v12 :: v13 :: v14 :: v15 :: v16 :: .ref ah_ :: v18 :: v19 :: .int (nI 1) :: .int (nI 1) :: v22 :: v23 :: v24 :: v25 :: v26 :: v27 :: v28 :: v29 :: v30 :: v31 :: .int (nI (a + 1)) :: .int (nI b) :: v34 :: v35 :: .int (nI 0) :: v37 :: v38 :: [])), (ah_, .inl (gB g, 4096, .inl fh))]) hx hb hr rfl hlocks hQ hAe hK (hP.sub [0, 1] rfl) (hD.sub [0, 1] (by decide) rfl) hS (by omega) (by omega) dX9_requestLine_296 ?_
                                      refine Or.inr ((?_))
                                      exact ⟨1, 0, a + 1, b, 1, 1, 0, rfl, rfl, by exact reqS_T ⟨fun j _ hj => na j hj, Or.inr ⟨by omega, by omega, ha1⟩⟩ ⟨fun j h1 h2 => nb j (by omega) h2, Or.inr ⟨by omega, by omega, hb1⟩⟩ ⟨Or.inr hT_199, ⟨by omega, by omega, fun j hj => hgr j (by omega)⟩, ⟨by omega, c96, fun j h1 h2 => hvi j (by omega) (by omega)⟩⟩ (iteC_n (ver01 hT_199)) (iteC_p hT_249), by omega, by omega, by exact ⟨⟨by omega, c96, fun j h1 h2 => hvi j (by omega) (by omega)⟩, by omega⟩⟩
                                    · skip
                                      have hP : va_P (gD g) vwCl [(mm, .inr (7, v0 :: v1 :: v2 :: v3 :: v4 :: v5 :: v6 :: v7 :: v8 :: v9 :: v10 :: v11 :: v12 :: v13 :: v14 :: v15 :: v16 :: .ref ah_ :: v18 :: v19 :: .int (nI m_isHead) :: .int (nI 1) :: v22 :: v23 :: v24 :: v25 :: v26 :: v27 :: v28 :: v29 :: v30 :: v31 :: .int (nI m_targetAt) :: .int (nI m_targetEnd) :: v34 :: v35 :: .int (nI m_other) :: v37 :: v38 :: [])), (ah_, .inl (gB g, 4096, .inl fh))] H := hP
                                      have hD : va_D A [(mm, .inr (7, v0 :: v1 :: v2 :: v3 :: v4 :: v5 :: v6 :: v7 :: v8 :: v9 :: v10 :: v11 :: v12 :: v13 :: v14 :: v15 :: v16 :: .ref ah_ :: v18 :: v19 :: .int (nI m_isHead) :: .int (nI 1) :: v22 :: v23 :: v24 :: v25 :: v26 :: v27 :: v28 :: v29 :: v30 :: v31 :: .int (nI m_targetAt) :: .int (nI m_targetEnd) :: v34 :: v35 :: .int (nI m_other) :: v37 :: v38 :: [])), (ah_, .inl (gB g, 4096, .inl fh))] := hD
                                      have hF_249 : ¬ (pText f 0 a 4) := hF_249
                                      refine W.eq (g2 := F0 m 252 ls [.int (nI 0), .ref mm]) rfl ?_
                                      refine va_put (D := gD g) (ci := 7) (v := .int (nI 0)) (ty := .boolean) (C := RX9) (T := TX9) (N := 39) hx hb hts hinX9 tyX9 tyX9_ok nmX9 hown hK hP hD hS 0 rfl rfl 20 (by decide) hf108 (fun _ h9 => h9) rfl (by decide +kernel) rfl rfl (Nat.le_of_ble_eq_true rfl) dX9_requestLine_252 (fun H locs hP hD hS => ?_)
                                      have hP : va_P (gD g) vwCl [(mm, .inr (7, v0 :: v1 :: v2 :: v3 :: v4 :: v5 :: v6 :: v7 :: v8 :: v9 :: v10 :: v11 :: v12 :: v13 :: v14 :: v15 :: v16 :: .ref ah_ :: v18 :: v19 :: .int (nI 0) :: .int (nI 1) :: v22 :: v23 :: v24 :: v25 :: v26 :: v27 :: v28 :: v29 :: v30 :: v31 :: .int (nI m_targetAt) :: .int (nI m_targetEnd) :: v34 :: v35 :: .int (nI m_other) :: v37 :: v38 :: [])), (ah_, .inl (gB g, 4096, .inl fh))] H := hP
                                      have hD : va_D A [(mm, .inr (7, v0 :: v1 :: v2 :: v3 :: v4 :: v5 :: v6 :: v7 :: v8 :: v9 :: v10 :: v11 :: v12 :: v13 :: v14 :: v15 :: v16 :: .ref ah_ :: v18 :: v19 :: .int (nI 0) :: .int (nI 1) :: v22 :: v23 :: v24 :: v25 :: v26 :: v27 :: v28 :: v29 :: v30 :: v31 :: .int (nI m_targetAt) :: .int (nI m_targetEnd) :: v34 :: v35 :: .int (nI m_other) :: v37 :: v38 :: [])), (ah_, .inl (gB g, 4096, .inl fh))] := hD
                                      refine lv_aload_n hx hb dX9_requestLine_255 rfl (lv_at hl 0 rfl) ?_
                                      refine lv_aload_n hx hb dX9_requestLine_256 rfl (lv_at hl 0 rfl) ?_
                                      refine va_get (D := gD g) (ci := 7) (v := .int (nI 0)) (C := RX9) (T := TX9) (N := 39) hx hb hts hinX9 hown hK hP 0 rfl rfl 20 (by decide) hf108 (fun _ h9 => h9) rfl dX9_requestLine_257 ?_
                                      refine lv_if_ne (tgt := 278) hx hb dX9_requestLine_260 (by decide) (fun c260 => absurd (by decide) c260) (fun _ => ?_)
                                      refine lv_aload_n hx hb dX9_requestLine_263 rfl (lv_at hl 0 rfl) ?_
                                      refine lv_iload_n hx hb dX9_requestLine_264 rfl (lv_at hl 1 rfl) ?_
                                      refine lv_iload_n hx hb dX9_requestLine_265 rfl (lv_at hl 3 rfl) ?_
                                      refine va_ldcS hx hb hown ((hG.1 39 (by decide)).2.2.2.2) dX9_requestLine_266 ?_
                                      refine ct_callV (wr := []) hx hb hml hown hts hK hP hD hS hA hG hl.1 (c_says l g mm ((v0 : Value)) ((v1 : Value)) ((v2 : Value)) ((v3 : Value)) ((v4 : Value)) ((v5 : Value)) ((v6 : Value)) ((v7 : Value)) ((v8 : Value)) ((v9 : Value)) ((v10 : Value)) ((v11 : Value)) ((v12 : Value)) ((v13 : Value)) ((v14 : Value)) ((v15 : Value)) ((v16 : Value)) ah_ ((v18 : Value)) ((v19 : Value)) ((.int (nI 0) : Value)) ((.int (nI 1) : Value)) ((v22 : Value)) ((v23 : Value)) ((v24 : Value)) ((v25 : Value)) ((v26 : Value)) ((v27 : Value)) ((v28 : Value)) ((v29 : Value)) ((v30 : Value)) ((v31 : Value)) ((.int (nI m_targetAt) : Value)) ((.int (nI m_targetEnd) : Value)) ((v34 : Value)) ((v35 : Value)) ((.int (nI m_other) : Value)) ((v37 : Value)) ((v38 : Value)) fh f hn 0 a 39 5 (by omega) (by assumption) (by omega) (by omega) (by first | assumption | decide) (by first | assumption | rfl)) (cwV 3 hts gX9_requestLine_X9_says rfl rfl rfl (by decide +kernel) ⟨Nat.le_of_ble_eq_true rfl, Nat.le_of_ble_eq_true rfl⟩) (va_recv hK hP (ci := 7) (q0 := 0) rfl rfl) rfl rfl (Nat.le_of_ble_eq_true rfl) dX9_requestLine_268 ⟨show 0 + 0 ≤ 0 by omega, show 0 + 0 ≤ 0 by omega⟩ [0, 1] [] rfl rfl (by decide) (by decide) (by decide) (fun r_ w_ H locs hp_ hP hD hS => ?_)
                                      rcases hp_ with ⟨rfl, rfl, hT_268⟩ | ⟨rfl, rfl, hF_268⟩
                                      · skip
                                        have hP : va_P (gD g) vwCl [(mm, .inr (7, v0 :: v1 :: v2 :: v3 :: v4 :: v5 :: v6 :: v7 :: v8 :: v9 :: v10 :: v11 :: v12 :: v13 :: v14 :: v15 :: v16 :: .ref ah_ :: v18 :: v19 :: .int (nI 0) :: .int (nI 1) :: v22 :: v23 :: v24 :: v25 :: v26 :: v27 :: v28 :: v29 :: v30 :: v31 :: .int (nI m_targetAt) :: .int (nI m_targetEnd) :: v34 :: v35 :: .int (nI m_other) :: v37 :: v38 :: [])), (ah_, .inl (gB g, 4096, .inl fh))] H := hP
                                        have hD : va_D A [(mm, .inr (7, v0 :: v1 :: v2 :: v3 :: v4 :: v5 :: v6 :: v7 :: v8 :: v9 :: v10 :: v11 :: v12 :: v13 :: v14 :: v15 :: v16 :: .ref ah_ :: v18 :: v19 :: .int (nI 0) :: .int (nI 1) :: v22 :: v23 :: v24 :: v25 :: v26 :: v27 :: v28 :: v29 :: v30 :: v31 :: .int (nI m_targetAt) :: .int (nI m_targetEnd) :: v34 :: v35 :: .int (nI m_other) :: v37 :: v38 :: [])), (ah_, .inl (gB g, 4096, .inl fh))] := hD
                                        have hT_268 : pText f 0 a 5 := hT_268
                                        refine W.eq (g2 := F0 m 271 ls [.int (nI 1), .ref mm]) rfl ?_
                                        refine lv_if_ne (tgt := 278) hx hb dX9_requestLine_271 (by decide) (fun _ => ?_) (fun c271 => absurd c271 (by decide))
                                        refine lv_iconst (v := nI 0) hx hb dX9_requestLine_278 (by decide) ?_
                                        refine va_put (D := gD g) (ci := 7) (v := .int (nI 0)) (ty := .boolean) (C := RX9) (T := TX9) (N := 39) hx hb hts hinX9 tyX9 tyX9_ok nmX9 hown hK hP hD hS 0 rfl rfl 36 (by decide) hf185 (fun _ h9 => h9) rfl (by decide +kernel) rfl rfl (Nat.le_of_ble_eq_true rfl) dX9_requestLine_279 (fun H locs hP hD hS => ?_)
                                        have hP : va_P (gD g) vwCl [(mm, .inr (7, v0 :: v1 :: v2 :: v3 :: v4 :: v5 :: v6 :: v7 :: v8 :: v9 :: v10 :: v11 :: v12 :: v13 :: v14 :: v15 :: v16 :: .ref ah_ :: v18 :: v19 :: .int (nI 0) :: .int (nI 1) :: v22 :: v23 :: v24 :: v25 :: v26 :: v27 :: v28 :: v29 :: v30 :: v31 :: .int (nI m_targetAt) :: .int (nI m_targetEnd) :: v34 :: v35 :: .int (nI 0) :: v37 :: v38 :: [])), (ah_, .inl (gB g, 4096, .inl fh))] H := hP
                                        have hD : va_D A [(mm, .inr (7, v0 :: v1 :: v2 :: v3 :: v4 :: v5 :: v6 :: v7 :: v8 :: v9 :: v10 :: v11 :: v12 :: v13 :: v14 :: v15 :: v16 :: .ref ah_ :: v18 :: v19 :: .int (nI 0) :: .int (nI 1) :: v22 :: v23 :: v24 :: v25 :: v26 :: v27 :: v28 :: v29 :: v30 :: v31 :: .int (nI m_targetAt) :: .int (nI m_targetEnd) :: v34 :: v35 :: .int (nI 0) :: v37 :: v38 :: [])), (ah_, .inl (gB g, 4096, .inl fh))] := hD
                                        refine lv_aload_n hx hb dX9_requestLine_282 rfl (lv_at hl 0 rfl) ?_
                                        refine lv_iload_n hx hb dX9_requestLine_283 rfl (lv_at hl 3 rfl) ?_
                                        refine lv_iconst (v := nI 1) hx hb dX9_requestLine_284 (by decide) ?_
                                        refine q_iadd (v := nI (a + 1)) hx hb dX9_requestLine_285 (nI_add a 1) ?_
                                        refine va_put (D := gD g) (ci := 7) (v := .int (nI (a + 1))) (ty := .int) (C := RX9) (T := TX9) (N := 39) hx hb hts hinX9 tyX9 tyX9_ok nmX9 hown hK hP hD hS 0 rfl rfl 32 (by decide) hf188 (fun _ h9 => h9) rfl (by decide +kernel) rfl rfl (Nat.le_of_ble_eq_true rfl) dX9_requestLine_286 (fun H locs hP hD hS => ?_)
                                        have hP : va_P (gD g) vwCl [(mm, .inr (7, v0 :: v1 :: v2 :: v3 :: v4 :: v5 :: v6 :: v7 :: v8 :: v9 :: v10 :: v11 :: v12 :: v13 :: v14 :: v15 :: v16 :: .ref ah_ :: v18 :: v19 :: .int (nI 0) :: .int (nI 1) :: v22 :: v23 :: v24 :: v25 :: v26 :: v27 :: v28 :: v29 :: v30 :: v31 :: .int (nI (a + 1)) :: .int (nI m_targetEnd) :: v34 :: v35 :: .int (nI 0) :: v37 :: v38 :: [])), (ah_, .inl (gB g, 4096, .inl fh))] H := hP
                                        have hD : va_D A [(mm, .inr (7, v0 :: v1 :: v2 :: v3 :: v4 :: v5 :: v6 :: v7 :: v8 :: v9 :: v10 :: v11 :: v12 :: v13 :: v14 :: v15 :: v16 :: .ref ah_ :: v18 :: v19 :: .int (nI 0) :: .int (nI 1) :: v22 :: v23 :: v24 :: v25 :: v26 :: v27 :: v28 :: v29 :: v30 :: v31 :: .int (nI (a + 1)) :: .int (nI m_targetEnd) :: v34 :: v35 :: .int (nI 0) :: v37 :: v38 :: [])), (ah_, .inl (gB g, 4096, .inl fh))] := hD
                                        refine lv_aload_n hx hb dX9_requestLine_289 rfl (lv_at hl 0 rfl) ?_
                                        refine lv_iload hx hb dX9_requestLine_290 (lv_at hl 4 rfl) ?_
                                        refine va_put (D := gD g) (ci := 7) (v := .int (nI b)) (ty := .int) (C := RX9) (T := TX9) (N := 39) hx hb hts hinX9 tyX9 tyX9_ok nmX9 hown hK hP hD hS 0 rfl rfl 33 (by decide) hf191 (fun _ h9 => h9) rfl (by decide +kernel) rfl rfl (Nat.le_of_ble_eq_true rfl) dX9_requestLine_292 (fun H locs hP hD hS => ?_)
                                        have hP : va_P (gD g) vwCl [(mm, .inr (7, v0 :: v1 :: v2 :: v3 :: v4 :: v5 :: v6 :: v7 :: v8 :: v9 :: v10 :: v11 :: v12 :: v13 :: v14 :: v15 :: v16 :: .ref ah_ :: v18 :: v19 :: .int (nI 0) :: .int (nI 1) :: v22 :: v23 :: v24 :: v25 :: v26 :: v27 :: v28 :: v29 :: v30 :: v31 :: .int (nI (a + 1)) :: .int (nI b) :: v34 :: v35 :: .int (nI 0) :: v37 :: v38 :: [])), (ah_, .inl (gB g, 4096, .inl fh))] H := hP
                                        have hD : va_D A [(mm, .inr (7, v0 :: v1 :: v2 :: v3 :: v4 :: v5 :: v6 :: v7 :: v8 :: v9 :: v10 :: v11 :: v12 :: v13 :: v14 :: v15 :: v16 :: .ref ah_ :: v18 :: v19 :: .int (nI 0) :: .int (nI 1) :: v22 :: v23 :: v24 :: v25 :: v26 :: v27 :: v28 :: v29 :: v30 :: v31 :: .int (nI (a + 1)) :: .int (nI b) :: v34 :: v35 :: .int (nI 0) :: v37 :: v38 :: [])), (ah_, .inl (gB g, 4096, .inl fh))] := hD
                                        refine lv_iconst (v := nI 1) hx hb dX9_requestLine_295 (by decide) ?_
                                        refine ct_iret (w := [(mm, .inr (7, v0 :: v1 :: v2 :: v3 :: v4 :: v5 :: v6 :: v7 :: v8 :: v9 :: v10 :: v11 :: v12 :: v13 :: v14 :: v15 :: v16 :: .ref ah_ :: v18 :: v19 :: .int (nI 0) :: .int (nI 1) :: v22 :: v23 :: v24 :: v25 :: v26 :: v27 :: v28 :: v29 :: v30 :: v31 :: .int (nI (a + 1)) :: .int (nI b) :: v34 :: v35 :: .int (nI 0) :: v37 :: v38 :: [])), (ah_, .inl (gB g, 4096, .inl fh))]) hx hb hr rfl hlocks hQ hAe hK (hP.sub [0, 1] rfl) (hD.sub [0, 1] (by decide) rfl) hS (by omega) (by omega) dX9_requestLine_296 ?_
                                        refine Or.inr ((?_))
                                        exact ⟨me, 0, a + 1, b, 1, 0, 0, rfl, rfl, by exact reqS_T ⟨fun j _ hj => na j hj, Or.inr ⟨by omega, by omega, ha1⟩⟩ ⟨fun j h1 h2 => nb j (by omega) h2, Or.inr ⟨by omega, by omega, hb1⟩⟩ ⟨Or.inr hT_199, ⟨by omega, by omega, fun j hj => hgr j (by omega)⟩, ⟨by omega, c96, fun j h1 h2 => hvi j (by omega) (by omega)⟩⟩ (iteC_n (ver01 hT_199)) ((iteC_n hF_249).trans (iteC_p hT_268)), by omega, by omega, by exact ⟨⟨by omega, c96, fun j h1 h2 => hvi j (by omega) (by omega)⟩, by omega⟩⟩
                                      · skip
                                        have hP : va_P (gD g) vwCl [(mm, .inr (7, v0 :: v1 :: v2 :: v3 :: v4 :: v5 :: v6 :: v7 :: v8 :: v9 :: v10 :: v11 :: v12 :: v13 :: v14 :: v15 :: v16 :: .ref ah_ :: v18 :: v19 :: .int (nI 0) :: .int (nI 1) :: v22 :: v23 :: v24 :: v25 :: v26 :: v27 :: v28 :: v29 :: v30 :: v31 :: .int (nI m_targetAt) :: .int (nI m_targetEnd) :: v34 :: v35 :: .int (nI m_other) :: v37 :: v38 :: [])), (ah_, .inl (gB g, 4096, .inl fh))] H := hP
                                        have hD : va_D A [(mm, .inr (7, v0 :: v1 :: v2 :: v3 :: v4 :: v5 :: v6 :: v7 :: v8 :: v9 :: v10 :: v11 :: v12 :: v13 :: v14 :: v15 :: v16 :: .ref ah_ :: v18 :: v19 :: .int (nI 0) :: .int (nI 1) :: v22 :: v23 :: v24 :: v25 :: v26 :: v27 :: v28 :: v29 :: v30 :: v31 :: .int (nI m_targetAt) :: .int (nI m_targetEnd) :: v34 :: v35 :: .int (nI m_other) :: v37 :: v38 :: [])), (ah_, .inl (gB g, 4096, .inl fh))] := hD
                                        have hF_268 : ¬ (pText f 0 a 5) := hF_268
                                        refine W.eq (g2 := F0 m 271 ls [.int (nI 0), .ref mm]) rfl ?_
                                        refine lv_if_ne (tgt := 278) hx hb dX9_requestLine_271 (by decide) (fun c271 => absurd (by decide) c271) (fun _ => ?_)
                                        refine lv_iconst (v := nI 1) hx hb dX9_requestLine_274 (by decide) ?_
                                        refine lv_goto (tgt := 279) hx hb dX9_requestLine_275 (by decide) ?_
                                        refine va_put (D := gD g) (ci := 7) (v := .int (nI 1)) (ty := .boolean) (C := RX9) (T := TX9) (N := 39) hx hb hts hinX9 tyX9 tyX9_ok nmX9 hown hK hP hD hS 0 rfl rfl 36 (by decide) hf185 (fun _ h9 => h9) rfl (by decide +kernel) rfl rfl (Nat.le_of_ble_eq_true rfl) dX9_requestLine_279 (fun H locs hP hD hS => ?_)
                                        have hP : va_P (gD g) vwCl [(mm, .inr (7, v0 :: v1 :: v2 :: v3 :: v4 :: v5 :: v6 :: v7 :: v8 :: v9 :: v10 :: v11 :: v12 :: v13 :: v14 :: v15 :: v16 :: .ref ah_ :: v18 :: v19 :: .int (nI 0) :: .int (nI 1) :: v22 :: v23 :: v24 :: v25 :: v26 :: v27 :: v28 :: v29 :: v30 :: v31 :: .int (nI m_targetAt) :: .int (nI m_targetEnd) :: v34 :: v35 :: .int (nI 1) :: v37 :: v38 :: [])), (ah_, .inl (gB g, 4096, .inl fh))] H := hP
                                        have hD : va_D A [(mm, .inr (7, v0 :: v1 :: v2 :: v3 :: v4 :: v5 :: v6 :: v7 :: v8 :: v9 :: v10 :: v11 :: v12 :: v13 :: v14 :: v15 :: v16 :: .ref ah_ :: v18 :: v19 :: .int (nI 0) :: .int (nI 1) :: v22 :: v23 :: v24 :: v25 :: v26 :: v27 :: v28 :: v29 :: v30 :: v31 :: .int (nI m_targetAt) :: .int (nI m_targetEnd) :: v34 :: v35 :: .int (nI 1) :: v37 :: v38 :: [])), (ah_, .inl (gB g, 4096, .inl fh))] := hD
                                        refine lv_aload_n hx hb dX9_requestLine_282 rfl (lv_at hl 0 rfl) ?_
                                        refine lv_iload_n hx hb dX9_requestLine_283 rfl (lv_at hl 3 rfl) ?_
                                        refine lv_iconst (v := nI 1) hx hb dX9_requestLine_284 (by decide) ?_
                                        refine q_iadd (v := nI (a + 1)) hx hb dX9_requestLine_285 (nI_add a 1) ?_
                                        refine va_put (D := gD g) (ci := 7) (v := .int (nI (a + 1))) (ty := .int) (C := RX9) (T := TX9) (N := 39) hx hb hts hinX9 tyX9 tyX9_ok nmX9 hown hK hP hD hS 0 rfl rfl 32 (by decide) hf188 (fun _ h9 => h9) rfl (by decide +kernel) rfl rfl (Nat.le_of_ble_eq_true rfl) dX9_requestLine_286 (fun H locs hP hD hS => ?_)
                                        have hP : va_P (gD g) vwCl [(mm, .inr (7, v0 :: v1 :: v2 :: v3 :: v4 :: v5 :: v6 :: v7 :: v8 :: v9 :: v10 :: v11 :: v12 :: v13 :: v14 :: v15 :: v16 :: .ref ah_ :: v18 :: v19 :: .int (nI 0) :: .int (nI 1) :: v22 :: v23 :: v24 :: v25 :: v26 :: v27 :: v28 :: v29 :: v30 :: v31 :: .int (nI (a + 1)) :: .int (nI m_targetEnd) :: v34 :: v35 :: .int (nI 1) :: v37 :: v38 :: [])), (ah_, .inl (gB g, 4096, .inl fh))] H := hP
                                        have hD : va_D A [(mm, .inr (7, v0 :: v1 :: v2 :: v3 :: v4 :: v5 :: v6 :: v7 :: v8 :: v9 :: v10 :: v11 :: v12 :: v13 :: v14 :: v15 :: v16 :: .ref ah_ :: v18 :: v19 :: .int (nI 0) :: .int (nI 1) :: v22 :: v23 :: v24 :: v25 :: v26 :: v27 :: v28 :: v29 :: v30 :: v31 :: .int (nI (a + 1)) :: .int (nI m_targetEnd) :: v34 :: v35 :: .int (nI 1) :: v37 :: v38 :: [])), (ah_, .inl (gB g, 4096, .inl fh))] := hD
                                        refine lv_aload_n hx hb dX9_requestLine_289 rfl (lv_at hl 0 rfl) ?_
                                        refine lv_iload hx hb dX9_requestLine_290 (lv_at hl 4 rfl) ?_
                                        refine va_put (D := gD g) (ci := 7) (v := .int (nI b)) (ty := .int) (C := RX9) (T := TX9) (N := 39) hx hb hts hinX9 tyX9 tyX9_ok nmX9 hown hK hP hD hS 0 rfl rfl 33 (by decide) hf191 (fun _ h9 => h9) rfl (by decide +kernel) rfl rfl (Nat.le_of_ble_eq_true rfl) dX9_requestLine_292 (fun H locs hP hD hS => ?_)
                                        have hP : va_P (gD g) vwCl [(mm, .inr (7, v0 :: v1 :: v2 :: v3 :: v4 :: v5 :: v6 :: v7 :: v8 :: v9 :: v10 :: v11 :: v12 :: v13 :: v14 :: v15 :: v16 :: .ref ah_ :: v18 :: v19 :: .int (nI 0) :: .int (nI 1) :: v22 :: v23 :: v24 :: v25 :: v26 :: v27 :: v28 :: v29 :: v30 :: v31 :: .int (nI (a + 1)) :: .int (nI b) :: v34 :: v35 :: .int (nI 1) :: v37 :: v38 :: [])), (ah_, .inl (gB g, 4096, .inl fh))] H := hP
                                        have hD : va_D A [(mm, .inr (7, v0 :: v1 :: v2 :: v3 :: v4 :: v5 :: v6 :: v7 :: v8 :: v9 :: v10 :: v11 :: v12 :: v13 :: v14 :: v15 :: v16 :: .ref ah_ :: v18 :: v19 :: .int (nI 0) :: .int (nI 1) :: v22 :: v23 :: v24 :: v25 :: v26 :: v27 :: v28 :: v29 :: v30 :: v31 :: .int (nI (a + 1)) :: .int (nI b) :: v34 :: v35 :: .int (nI 1) :: v37 :: v38 :: [])), (ah_, .inl (gB g, 4096, .inl fh))] := hD
                                        refine lv_iconst (v := nI 1) hx hb dX9_requestLine_295 (by decide) ?_
                                        refine ct_iret (w := [(mm, .inr (7, v0 :: v1 :: v2 :: v3 :: v4 :: v5 :: v6 :: v7 :: v8 :: v9 :: v10 :: v11 :: v12 :: v13 :: v14 :: v15 :: v16 :: .ref ah_ :: v18 :: v19 :: .int (nI 0) :: .int (nI 1) :: v22 :: v23 :: v24 :: v25 :: v26 :: v27 :: v28 :: v29 :: v30 :: v31 :: .int (nI (a + 1)) :: .int (nI b) :: v34 :: v35 :: .int (nI 1) :: v37 :: v38 :: [])), (ah_, .inl (gB g, 4096, .inl fh))]) hx hb hr rfl hlocks hQ hAe hK (hP.sub [0, 1] rfl) (hD.sub [0, 1] (by decide) rfl) hS (by omega) (by omega) dX9_requestLine_296 ?_
                                        refine Or.inr ((?_))
                                        exact ⟨2, 0, a + 1, b, 1, 0, 1, rfl, rfl, by exact reqS_T ⟨fun j _ hj => na j hj, Or.inr ⟨by omega, by omega, ha1⟩⟩ ⟨fun j h1 h2 => nb j (by omega) h2, Or.inr ⟨by omega, by omega, hb1⟩⟩ ⟨Or.inr hT_199, ⟨by omega, by omega, fun j hj => hgr j (by omega)⟩, ⟨by omega, c96, fun j h1 h2 => hvi j (by omega) (by omega)⟩⟩ (iteC_n (ver01 hT_199)) ((iteC_n hF_249).trans (iteC_n hF_268)), by omega, by omega, by exact ⟨⟨by omega, c96, fun j h1 h2 => hvi j (by omega) (by omega)⟩, by omega⟩⟩
                                · skip
                                  have hP : va_P (gD g) vwCl [(mm, .inr (7, v0 :: v1 :: v2 :: v3 :: v4 :: v5 :: v6 :: v7 :: v8 :: v9 :: v10 :: v11 :: v12 :: v13 :: v14 :: v15 :: v16 :: .ref ah_ :: v18 :: v19 :: .int (nI m_isHead) :: .int (nI m_oldVersion) :: v22 :: v23 :: v24 :: v25 :: v26 :: v27 :: v28 :: v29 :: v30 :: v31 :: .int (nI m_targetAt) :: .int (nI m_targetEnd) :: v34 :: v35 :: .int (nI m_other) :: v37 :: v38 :: [])), (ah_, .inl (gB g, 4096, .inl fh))] H := hP
                                  have hD : va_D A [(mm, .inr (7, v0 :: v1 :: v2 :: v3 :: v4 :: v5 :: v6 :: v7 :: v8 :: v9 :: v10 :: v11 :: v12 :: v13 :: v14 :: v15 :: v16 :: .ref ah_ :: v18 :: v19 :: .int (nI m_isHead) :: .int (nI m_oldVersion) :: v22 :: v23 :: v24 :: v25 :: v26 :: v27 :: v28 :: v29 :: v30 :: v31 :: .int (nI m_targetAt) :: .int (nI m_targetEnd) :: v34 :: v35 :: .int (nI m_other) :: v37 :: v38 :: [])), (ah_, .inl (gB g, 4096, .inl fh))] := hD
                                  have hF_199 : ¬ (pText f (b + 1) i 3) := hF_199
                                  refine W.eq (g2 := F0 m 202 ls [.int (nI 0)]) rfl ?_
                                  refine lv_if_ne (tgt := 221) hx hb dX9_requestLine_202 (by decide) (fun c202 => absurd (by decide) c202) (fun _ => ?_)
                                  refine lv_aload_n hx hb dX9_requestLine_205 rfl (lv_at hl 0 rfl) ?_
                                  refine lv_iload hx hb dX9_requestLine_206 (lv_at hl 4 rfl) ?_
                                  refine lv_iconst (v := nI 1) hx hb dX9_requestLine_208 (by decide) ?_
                                  refine q_iadd (v := nI (b + 1)) hx hb dX9_requestLine_209 (nI_add b 1) ?_
                                  refine lv_iload_n hx hb dX9_requestLine_210 rfl (lv_at hl 2 rfl) ?_
                                  refine va_ldcS hx hb hown ((hG.1 37 (by decide)).2.2.2.2) dX9_requestLine_211 ?_
                                  refine ct_callV (wr := []) hx hb hml hown hts hK hP hD hS hA hG hl.1 (c_says l g mm ((v0 : Value)) ((v1 : Value)) ((v2 : Value)) ((v3 : Value)) ((v4 : Value)) ((v5 : Value)) ((v6 : Value)) ((v7 : Value)) ((v8 : Value)) ((v9 : Value)) ((v10 : Value)) ((v11 : Value)) ((v12 : Value)) ((v13 : Value)) ((v14 : Value)) ((v15 : Value)) ((v16 : Value)) ah_ ((v18 : Value)) ((v19 : Value)) ((.int (nI m_isHead) : Value)) ((.int (nI m_oldVersion) : Value)) ((v22 : Value)) ((v23 : Value)) ((v24 : Value)) ((v25 : Value)) ((v26 : Value)) ((v27 : Value)) ((v28 : Value)) ((v29 : Value)) ((v30 : Value)) ((v31 : Value)) ((.int (nI m_targetAt) : Value)) ((.int (nI m_targetEnd) : Value)) ((v34 : Value)) ((v35 : Value)) ((.int (nI m_other) : Value)) ((v37 : Value)) ((v38 : Value)) fh f hn (b + 1) i 37 2 (by omega) (by assumption) (by omega) (by omega) (by first | assumption | decide) (by first | assumption | rfl)) (cwV 3 hts gX9_requestLine_X9_says rfl rfl rfl (by decide +kernel) ⟨Nat.le_of_ble_eq_true rfl, Nat.le_of_ble_eq_true rfl⟩) (va_recv hK hP (ci := 7) (q0 := 0) rfl rfl) rfl rfl (Nat.le_of_ble_eq_true rfl) dX9_requestLine_213 ⟨show 0 + 0 ≤ 0 by omega, show 0 + 0 ≤ 0 by omega⟩ [0, 1] [] rfl rfl (by decide) (by decide) (by decide) (fun r_ w_ H locs hp_ hP hD hS => ?_)
                                  rcases hp_ with ⟨rfl, rfl, hT_213⟩ | ⟨rfl, rfl, hF_213⟩
                                  · skip
                                    have hP : va_P (gD g) vwCl [(mm, .inr (7, v0 :: v1 :: v2 :: v3 :: v4 :: v5 :: v6 :: v7 :: v8 :: v9 :: v10 :: v11 :: v12 :: v13 :: v14 :: v15 :: v16 :: .ref ah_ :: v18 :: v19 :: .int (nI m_isHead) :: .int (nI m_oldVersion) :: v22 :: v23 :: v24 :: v25 :: v26 :: v27 :: v28 :: v29 :: v30 :: v31 :: .int (nI m_targetAt) :: .int (nI m_targetEnd) :: v34 :: v35 :: .int (nI m_other) :: v37 :: v38 :: [])), (ah_, .inl (gB g, 4096, .inl fh))] H := hP
                                    have hD : va_D A [(mm, .inr (7, v0 :: v1 :: v2 :: v3 :: v4 :: v5 :: v6 :: v7 :: v8 :: v9 :: v10 :: v11 :: v12 :: v13 :: v14 :: v15 :: v16 :: .ref ah_ :: v18 :: v19 :: .int (nI m_isHead) :: .int (nI m_oldVersion) :: v22 :: v23 :: v24 :: v25 :: v26 :: v27 :: v28 :: v29 :: v30 :: v31 :: .int (nI m_targetAt) :: .int (nI m_targetEnd) :: v34 :: v35 :: .int (nI m_other) :: v37 :: v38 :: [])), (ah_, .inl (gB g, 4096, .inl fh))] := hD
                                    have hT_213 : pText f (b + 1) i 2 := hT_213
                                    refine W.eq (g2 := F0 m 216 ls [.int (nI 1)]) rfl ?_
                                    refine lv_if_ne (tgt := 221) hx hb dX9_requestLine_216 (by decide) (fun _ => ?_) (fun c216 => absurd c216 (by decide))
                                    refine lv_aload_n hx hb dX9_requestLine_221 rfl (lv_at hl 0 rfl) ?_
                                    refine lv_aload_n hx hb dX9_requestLine_222 rfl (lv_at hl 0 rfl) ?_
                                    refine va_get (D := gD g) (ci := 7) (v := .ref ah_) (C := RX9) (T := TX9) (N := 39) hx hb hts hinX9 hown hK hP 0 rfl rfl 17 (by decide) hf40 (fun _ h9 => h9) rfl dX9_requestLine_223 ?_
                                    refine lv_iload_n hx hb dX9_requestLine_226 rfl (lv_at hl 2 rfl) ?_
                                    refine lv_iconst (v := nI 1) hx hb dX9_requestLine_227 (by decide) ?_
                                    refine q_isub (v := nI (i - 1)) hx hb dX9_requestLine_228 (pk_sub (a := i) (b := 1) (by omega)) ?_
                                    refine q_bald hx hb hK hP 1 rfl (i - 1) rfl (by omega) (by omega) dX9_requestLine_229 ?_
                                    refine q_top (v := f (i - 1)) (hM _ (by omega)) ?_
                                    refine lv_bipush (v := nI 48) hx hb dX9_requestLine_230 (by decide) ?_
                                    refine lv_icmp_ne (tgt := 239) hx hb dX9_requestLine_232 (by decide) (fun c232 => ?_) (fun c232 => ?_)
                                    · skip
                                      refine lv_iconst (v := nI 0) hx hb dX9_requestLine_239 (by decide) ?_
                                      refine va_put (D := gD g) (ci := 7) (v := .int (nI 0)) (ty := .boolean) (C := RX9) (T := TX9) (N := 39) hx hb hts hinX9 tyX9 tyX9_ok nmX9 hown hK hP hD hS 0 rfl rfl 21 (by decide) hf121 (fun _ h9 => h9) rfl (by decide +kernel) rfl rfl (Nat.le_of_ble_eq_true rfl) dX9_requestLine_240 (fun H locs hP hD hS => ?_)
                                      have hP : va_P (gD g) vwCl [(mm, .inr (7, v0 :: v1 :: v2 :: v3 :: v4 :: v5 :: v6 :: v7 :: v8 :: v9 :: v10 :: v11 :: v12 :: v13 :: v14 :: v15 :: v16 :: .ref ah_ :: v18 :: v19 :: .int (nI m_isHead) :: .int (nI 0) :: v22 :: v23 :: v24 :: v25 :: v26 :: v27 :: v28 :: v29 :: v30 :: v31 :: .int (nI m_targetAt) :: .int (nI m_targetEnd) :: v34 :: v35 :: .int (nI m_other) :: v37 :: v38 :: [])), (ah_, .inl (gB g, 4096, .inl fh))] H := hP
                                      have hD : va_D A [(mm, .inr (7, v0 :: v1 :: v2 :: v3 :: v4 :: v5 :: v6 :: v7 :: v8 :: v9 :: v10 :: v11 :: v12 :: v13 :: v14 :: v15 :: v16 :: .ref ah_ :: v18 :: v19 :: .int (nI m_isHead) :: .int (nI 0) :: v22 :: v23 :: v24 :: v25 :: v26 :: v27 :: v28 :: v29 :: v30 :: v31 :: .int (nI m_targetAt) :: .int (nI m_targetEnd) :: v34 :: v35 :: .int (nI m_other) :: v37 :: v38 :: [])), (ah_, .inl (gB g, 4096, .inl fh))] := hD
                                      refine lv_aload_n hx hb dX9_requestLine_243 rfl (lv_at hl 0 rfl) ?_
                                      refine lv_aload_n hx hb dX9_requestLine_244 rfl (lv_at hl 0 rfl) ?_
                                      refine lv_iload_n hx hb dX9_requestLine_245 rfl (lv_at hl 1 rfl) ?_
                                      refine lv_iload_n hx hb dX9_requestLine_246 rfl (lv_at hl 3 rfl) ?_
                                      refine va_ldcS hx hb hown ((hG.1 38 (by decide)).2.2.2.2) dX9_requestLine_247 ?_
                                      refine ct_callV (wr := []) hx hb hml hown hts hK hP hD hS hA hG hl.1 (c_says l g mm ((v0 : Value)) ((v1 : Value)) ((v2 : Value)) ((v3 : Value)) ((v4 : Value)) ((v5 : Value)) ((v6 : Value)) ((v7 : Value)) ((v8 : Value)) ((v9 : Value)) ((v10 : Value)) ((v11 : Value)) ((v12 : Value)) ((v13 : Value)) ((v14 : Value)) ((v15 : Value)) ((v16 : Value)) ah_ ((v18 : Value)) ((v19 : Value)) ((.int (nI m_isHead) : Value)) ((.int (nI 0) : Value)) ((v22 : Value)) ((v23 : Value)) ((v24 : Value)) ((v25 : Value)) ((v26 : Value)) ((v27 : Value)) ((v28 : Value)) ((v29 : Value)) ((v30 : Value)) ((v31 : Value)) ((.int (nI m_targetAt) : Value)) ((.int (nI m_targetEnd) : Value)) ((v34 : Value)) ((v35 : Value)) ((.int (nI m_other) : Value)) ((v37 : Value)) ((v38 : Value)) fh f hn 0 a 38 4 (by omega) (by assumption) (by omega) (by omega) (by first | assumption | decide) (by first | assumption | rfl)) (cwV 3 hts gX9_requestLine_X9_says rfl rfl rfl (by decide +kernel) ⟨Nat.le_of_ble_eq_true rfl, Nat.le_of_ble_eq_true rfl⟩) (va_recv hK hP (ci := 7) (q0 := 0) rfl rfl) rfl rfl (Nat.le_of_ble_eq_true rfl) dX9_requestLine_249 ⟨show 0 + 0 ≤ 0 by omega, show 0 + 0 ≤ 0 by omega⟩ [0, 1] [] rfl rfl (by decide) (by decide) (by decide) (fun r_ w_ H locs hp_ hP hD hS => ?_)
                                      rcases hp_ with ⟨rfl, rfl, hT_249⟩ | ⟨rfl, rfl, hF_249⟩
                                      · skip
                                        have hP : va_P (gD g) vwCl [(mm, .inr (7, v0 :: v1 :: v2 :: v3 :: v4 :: v5 :: v6 :: v7 :: v8 :: v9 :: v10 :: v11 :: v12 :: v13 :: v14 :: v15 :: v16 :: .ref ah_ :: v18 :: v19 :: .int (nI m_isHead) :: .int (nI 0) :: v22 :: v23 :: v24 :: v25 :: v26 :: v27 :: v28 :: v29 :: v30 :: v31 :: .int (nI m_targetAt) :: .int (nI m_targetEnd) :: v34 :: v35 :: .int (nI m_other) :: v37 :: v38 :: [])), (ah_, .inl (gB g, 4096, .inl fh))] H := hP
                                        have hD : va_D A [(mm, .inr (7, v0 :: v1 :: v2 :: v3 :: v4 :: v5 :: v6 :: v7 :: v8 :: v9 :: v10 :: v11 :: v12 :: v13 :: v14 :: v15 :: v16 :: .ref ah_ :: v18 :: v19 :: .int (nI m_isHead) :: .int (nI 0) :: v22 :: v23 :: v24 :: v25 :: v26 :: v27 :: v28 :: v29 :: v30 :: v31 :: .int (nI m_targetAt) :: .int (nI m_targetEnd) :: v34 :: v35 :: .int (nI m_other) :: v37 :: v38 :: [])), (ah_, .inl (gB g, 4096, .inl fh))] := hD
                                        have hT_249 : pText f 0 a 4 := hT_249
                                        refine W.eq (g2 := F0 m 252 ls [.int (nI 1), .ref mm]) rfl ?_
                                        refine va_put (D := gD g) (ci := 7) (v := .int (nI 1)) (ty := .boolean) (C := RX9) (T := TX9) (N := 39) hx hb hts hinX9 tyX9 tyX9_ok nmX9 hown hK hP hD hS 0 rfl rfl 20 (by decide) hf108 (fun _ h9 => h9) rfl (by decide +kernel) rfl rfl (Nat.le_of_ble_eq_true rfl) dX9_requestLine_252 (fun H locs hP hD hS => ?_)
                                        have hP : va_P (gD g) vwCl [(mm, .inr (7, v0 :: v1 :: v2 :: v3 :: v4 :: v5 :: v6 :: v7 :: v8 :: v9 :: v10 :: v11 :: v12 :: v13 :: v14 :: v15 :: v16 :: .ref ah_ :: v18 :: v19 :: .int (nI 1) :: .int (nI 0) :: v22 :: v23 :: v24 :: v25 :: v26 :: v27 :: v28 :: v29 :: v30 :: v31 :: .int (nI m_targetAt) :: .int (nI m_targetEnd) :: v34 :: v35 :: .int (nI m_other) :: v37 :: v38 :: [])), (ah_, .inl (gB g, 4096, .inl fh))] H := hP
                                        have hD : va_D A [(mm, .inr (7, v0 :: v1 :: v2 :: v3 :: v4 :: v5 :: v6 :: v7 :: v8 :: v9 :: v10 :: v11 :: v12 :: v13 :: v14 :: v15 :: v16 :: .ref ah_ :: v18 :: v19 :: .int (nI 1) :: .int (nI 0) :: v22 :: v23 :: v24 :: v25 :: v26 :: v27 :: v28 :: v29 :: v30 :: v31 :: .int (nI m_targetAt) :: .int (nI m_targetEnd) :: v34 :: v35 :: .int (nI m_other) :: v37 :: v38 :: [])), (ah_, .inl (gB g, 4096, .inl fh))] := hD
                                        refine lv_aload_n hx hb dX9_requestLine_255 rfl (lv_at hl 0 rfl) ?_
                                        refine lv_aload_n hx hb dX9_requestLine_256 rfl (lv_at hl 0 rfl) ?_
                                        refine va_get (D := gD g) (ci := 7) (v := .int (nI 1)) (C := RX9) (T := TX9) (N := 39) hx hb hts hinX9 hown hK hP 0 rfl rfl 20 (by decide) hf108 (fun _ h9 => h9) rfl dX9_requestLine_257 ?_
                                        refine lv_if_ne (tgt := 278) hx hb dX9_requestLine_260 (by decide) (fun _ => ?_) (fun c260 => absurd c260 (by decide))
                                        refine lv_iconst (v := nI 0) hx hb dX9_requestLine_278 (by decide) ?_
                                        refine va_put (D := gD g) (ci := 7) (v := .int (nI 0)) (ty := .boolean) (C := RX9) (T := TX9) (N := 39) hx hb hts hinX9 tyX9 tyX9_ok nmX9 hown hK hP hD hS 0 rfl rfl 36 (by decide) hf185 (fun _ h9 => h9) rfl (by decide +kernel) rfl rfl (Nat.le_of_ble_eq_true rfl) dX9_requestLine_279 (fun H locs hP hD hS => ?_)
                                        have hP : va_P (gD g) vwCl [(mm, .inr (7, v0 :: v1 :: v2 :: v3 :: v4 :: v5 :: v6 :: v7 :: v8 :: v9 :: v10 :: v11 :: v12 :: v13 :: v14 :: v15 :: v16 :: .ref ah_ :: v18 :: v19 :: .int (nI 1) :: .int (nI 0) :: v22 :: v23 :: v24 :: v25 :: v26 :: v27 :: v28 :: v29 :: v30 :: v31 :: .int (nI m_targetAt) :: .int (nI m_targetEnd) :: v34 :: v35 :: .int (nI 0) :: v37 :: v38 :: [])), (ah_, .inl (gB g, 4096, .inl fh))] H := hP
                                        have hD : va_D A [(mm, .inr (7, v0 :: v1 :: v2 :: v3 :: v4 :: v5 :: v6 :: v7 :: v8 :: v9 :: v10 :: v11 :: v12 :: v13 :: v14 :: v15 :: v16 :: .ref ah_ :: v18 :: v19 :: .int (nI 1) :: .int (nI 0) :: v22 :: v23 :: v24 :: v25 :: v26 :: v27 :: v28 :: v29 :: v30 :: v31 :: .int (nI m_targetAt) :: .int (nI m_targetEnd) :: v34 :: v35 :: .int (nI 0) :: v37 :: v38 :: [])), (ah_, .inl (gB g, 4096, .inl fh))] := hD
                                        refine lv_aload_n hx hb dX9_requestLine_282 rfl (lv_at hl 0 rfl) ?_
                                        refine lv_iload_n hx hb dX9_requestLine_283 rfl (lv_at hl 3 rfl) ?_
                                        refine lv_iconst (v := nI 1) hx hb dX9_requestLine_284 (by decide) ?_
                                        refine q_iadd (v := nI (a + 1)) hx hb dX9_requestLine_285 (nI_add a 1) ?_
                                        refine va_put (D := gD g) (ci := 7) (v := .int (nI (a + 1))) (ty := .int) (C := RX9) (T := TX9) (N := 39) hx hb hts hinX9 tyX9 tyX9_ok nmX9 hown hK hP hD hS 0 rfl rfl 32 (by decide) hf188 (fun _ h9 => h9) rfl (by decide +kernel) rfl rfl (Nat.le_of_ble_eq_true rfl) dX9_requestLine_286 (fun H locs hP hD hS => ?_)
                                        have hP : va_P (gD g) vwCl [(mm, .inr (7, v0 :: v1 :: v2 :: v3 :: v4 :: v5 :: v6 :: v7 :: v8 :: v9 :: v10 :: v11 :: v12 :: v13 :: v14 :: v15 :: v16 :: .ref ah_ :: v18 :: v19 :: .int (nI 1) :: .int (nI 0) :: v22 :: v23 :: v24 :: v25 :: v26 :: v27 :: v28 :: v29 :: v30 :: v31 :: .int (nI (a + 1)) :: .int (nI m_targetEnd) :: v34 :: v35 :: .int (nI 0) :: v37 :: v38 :: [])), (ah_, .inl (gB g, 4096, .inl fh))] H := hP
                                        have hD : va_D A [(mm, .inr (7, v0 :: v1 :: v2 :: v3 :: v4 :: v5 :: v6 :: v7 :: v8 :: v9 :: v10 :: v11 :: v12 :: v13 :: v14 :: v15 :: v16 :: .ref ah_ :: v18 :: v19 :: .int (nI 1) :: .int (nI 0) :: v22 :: v23 :: v24 :: v25 :: v26 :: v27 :: v28 :: v29 :: v30 :: v31 :: .int (nI (a + 1)) :: .int (nI m_targetEnd) :: v34 :: v35 :: .int (nI 0) :: v37 :: v38 :: [])), (ah_, .inl (gB g, 4096, .inl fh))] := hD
                                        refine lv_aload_n hx hb dX9_requestLine_289 rfl (lv_at hl 0 rfl) ?_
                                        refine lv_iload hx hb dX9_requestLine_290 (lv_at hl 4 rfl) ?_
                                        refine va_put (D := gD g) (ci := 7) (v := .int (nI b)) (ty := .int) (C := RX9) (T := TX9) (N := 39) hx hb hts hinX9 tyX9 tyX9_ok nmX9 hown hK hP hD hS 0 rfl rfl 33 (by decide) hf191 (fun _ h9 => h9) rfl (by decide +kernel) rfl rfl (Nat.le_of_ble_eq_true rfl) dX9_requestLine_292 (fun H locs hP hD hS => ?_)
                                        have hP : va_P (gD g) vwCl [(mm, .inr (7, v0 :: v1 :: v2 :: v3 :: v4 :: v5 :: v6 :: v7 :: v8 :: v9 :: v10 :: v11 :: v12 :: v13 :: v14 :: v15 :: v16 :: .ref ah_ :: v18 :: v19 :: .int (nI 1) :: .int (nI 0) :: v22 :: v23 :: v24 :: v25 :: v26 :: v27 :: v28 :: v29 :: v30 :: v31 :: .int (nI (a + 1)) :: .int (nI b) :: v34 :: v35 :: .int (nI 0) :: v37 :: v38 :: [])), (ah_, .inl (gB g, 4096, .inl fh))] H := hP
                                        have hD : va_D A [(mm, .inr (7, v0 :: v1 :: v2 :: v3 :: v4 :: v5 :: v6 :: v7 :: v8 :: v9 :: v10 :: v11 :: v12 :: v13 :: v14 :: v15 :: v16 :: .ref ah_ :: v18 :: v19 :: .int (nI 1) :: .int (nI 0) :: v22 :: v23 :: v24 :: v25 :: v26 :: v27 :: v28 :: v29 :: v30 :: v31 :: .int (nI (a + 1)) :: .int (nI b) :: v34 :: v35 :: .int (nI 0) :: v37 :: v38 :: [])), (ah_, .inl (gB g, 4096, .inl fh))] := hD
                                        refine lv_iconst (v := nI 1) hx hb dX9_requestLine_295 (by decide) ?_
                                        refine ct_iret (w := [(mm, .inr (7, v0 :: v1 :: v2 :: v3 :: v4 :: v5 :: v6 :: v7 :: v8 :: v9 :: v10 :: v11 :: v12 :: v13 :: v14 :: v15 :: v16 :: .ref ah_ :: v18 :: v19 :: .int (nI 1) :: .int (nI 0) :: v22 :: v23 :: v24 :: v25 :: v26 :: v27 :: v28 :: v29 :: v30 :: v31 :: .int (nI (a + 1)) :: .int (nI b) :: v34 :: v35 :: .int (nI 0) :: v37 :: v38 :: [])), (ah_, .inl (gB g, 4096, .inl fh))]) hx hb hr rfl hlocks hQ hAe hK (hP.sub [0, 1] rfl) (hD.sub [0, 1] (by decide) rfl) hS (by omega) (by omega) dX9_requestLine_296 ?_
                                        refine Or.inr ((?_))
                                        exact ⟨1, 1, a + 1, b, 0, 1, 0, rfl, rfl, by exact reqS_T ⟨fun j _ hj => na j hj, Or.inr ⟨by omega, by omega, ha1⟩⟩ ⟨fun j h1 h2 => nb j (by omega) h2, Or.inr ⟨by omega, by omega, hb1⟩⟩ ⟨Or.inl hT_213, ⟨by omega, by omega, fun j hj => hgr j (by omega)⟩, ⟨by omega, c96, fun j h1 h2 => hvi j (by omega) (by omega)⟩⟩ (iteC_p hT_213) (iteC_p hT_249), by omega, by omega, by exact ⟨⟨by omega, c96, fun j h1 h2 => hvi j (by omega) (by omega)⟩, by omega⟩⟩
                                      · skip
                                        have hP : va_P (gD g) vwCl [(mm, .inr (7, v0 :: v1 :: v2 :: v3 :: v4 :: v5 :: v6 :: v7 :: v8 :: v9 :: v10 :: v11 :: v12 :: v13 :: v14 :: v15 :: v16 :: .ref ah_ :: v18 :: v19 :: .int (nI m_isHead) :: .int (nI 0) :: v22 :: v23 :: v24 :: v25 :: v26 :: v27 :: v28 :: v29 :: v30 :: v31 :: .int (nI m_targetAt) :: .int (nI m_targetEnd) :: v34 :: v35 :: .int (nI m_other) :: v37 :: v38 :: [])), (ah_, .inl (gB g, 4096, .inl fh))] H := hP
                                        have hD : va_D A [(mm, .inr (7, v0 :: v1 :: v2 :: v3 :: v4 :: v5 :: v6 :: v7 :: v8 :: v9 :: v10 :: v11 :: v12 :: v13 :: v14 :: v15 :: v16 :: .ref ah_ :: v18 :: v19 :: .int (nI m_isHead) :: .int (nI 0) :: v22 :: v23 :: v24 :: v25 :: v26 :: v27 :: v28 :: v29 :: v30 :: v31 :: .int (nI m_targetAt) :: .int (nI m_targetEnd) :: v34 :: v35 :: .int (nI m_other) :: v37 :: v38 :: [])), (ah_, .inl (gB g, 4096, .inl fh))] := hD
                                        have hF_249 : ¬ (pText f 0 a 4) := hF_249
                                        refine W.eq (g2 := F0 m 252 ls [.int (nI 0), .ref mm]) rfl ?_
                                        refine va_put (D := gD g) (ci := 7) (v := .int (nI 0)) (ty := .boolean) (C := RX9) (T := TX9) (N := 39) hx hb hts hinX9 tyX9 tyX9_ok nmX9 hown hK hP hD hS 0 rfl rfl 20 (by decide) hf108 (fun _ h9 => h9) rfl (by decide +kernel) rfl rfl (Nat.le_of_ble_eq_true rfl) dX9_requestLine_252 (fun H locs hP hD hS => ?_)
                                        have hP : va_P (gD g) vwCl [(mm, .inr (7, v0 :: v1 :: v2 :: v3 :: v4 :: v5 :: v6 :: v7 :: v8 :: v9 :: v10 :: v11 :: v12 :: v13 :: v14 :: v15 :: v16 :: .ref ah_ :: v18 :: v19 :: .int (nI 0) :: .int (nI 0) :: v22 :: v23 :: v24 :: v25 :: v26 :: v27 :: v28 :: v29 :: v30 :: v31 :: .int (nI m_targetAt) :: .int (nI m_targetEnd) :: v34 :: v35 :: .int (nI m_other) :: v37 :: v38 :: [])), (ah_, .inl (gB g, 4096, .inl fh))] H := hP
                                        have hD : va_D A [(mm, .inr (7, v0 :: v1 :: v2 :: v3 :: v4 :: v5 :: v6 :: v7 :: v8 :: v9 :: v10 :: v11 :: v12 :: v13 :: v14 :: v15 :: v16 :: .ref ah_ :: v18 :: v19 :: .int (nI 0) :: .int (nI 0) :: v22 :: v23 :: v24 :: v25 :: v26 :: v27 :: v28 :: v29 :: v30 :: v31 :: .int (nI m_targetAt) :: .int (nI m_targetEnd) :: v34 :: v35 :: .int (nI m_other) :: v37 :: v38 :: [])), (ah_, .inl (gB g, 4096, .inl fh))] := hD
                                        refine lv_aload_n hx hb dX9_requestLine_255 rfl (lv_at hl 0 rfl) ?_
                                        refine lv_aload_n hx hb dX9_requestLine_256 rfl (lv_at hl 0 rfl) ?_
                                        refine va_get (D := gD g) (ci := 7) (v := .int (nI 0)) (C := RX9) (T := TX9) (N := 39) hx hb hts hinX9 hown hK hP 0 rfl rfl 20 (by decide) hf108 (fun _ h9 => h9) rfl dX9_requestLine_257 ?_
                                        refine lv_if_ne (tgt := 278) hx hb dX9_requestLine_260 (by decide) (fun c260 => absurd (by decide) c260) (fun _ => ?_)
                                        refine lv_aload_n hx hb dX9_requestLine_263 rfl (lv_at hl 0 rfl) ?_
                                        refine lv_iload_n hx hb dX9_requestLine_264 rfl (lv_at hl 1 rfl) ?_
                                        refine lv_iload_n hx hb dX9_requestLine_265 rfl (lv_at hl 3 rfl) ?_
                                        refine va_ldcS hx hb hown ((hG.1 39 (by decide)).2.2.2.2) dX9_requestLine_266 ?_
                                        refine ct_callV (wr := []) hx hb hml hown hts hK hP hD hS hA hG hl.1 (c_says l g mm ((v0 : Value)) ((v1 : Value)) ((v2 : Value)) ((v3 : Value)) ((v4 : Value)) ((v5 : Value)) ((v6 : Value)) ((v7 : Value)) ((v8 : Value)) ((v9 : Value)) ((v10 : Value)) ((v11 : Value)) ((v12 : Value)) ((v13 : Value)) ((v14 : Value)) ((v15 : Value)) ((v16 : Value)) ah_ ((v18 : Value)) ((v19 : Value)) ((.int (nI 0) : Value)) ((.int (nI 0) : Value)) ((v22 : Value)) ((v23 : Value)) ((v24 : Value)) ((v25 : Value)) ((v26 : Value)) ((v27 : Value)) ((v28 : Value)) ((v29 : Value)) ((v30 : Value)) ((v31 : Value)) ((.int (nI m_targetAt) : Value)) ((.int (nI m_targetEnd) : Value)) ((v34 : Value)) ((v35 : Value)) ((.int (nI m_other) : Value)) ((v37 : Value)) ((v38 : Value)) fh f hn 0 a 39 5 (by omega) (by assumption) (by omega) (by omega) (by first | assumption | decide) (by first | assumption | rfl)) (cwV 3 hts gX9_requestLine_X9_says rfl rfl rfl (by decide +kernel) ⟨Nat.le_of_ble_eq_true rfl, Nat.le_of_ble_eq_true rfl⟩) (va_recv hK hP (ci := 7) (q0 := 0) rfl rfl) rfl rfl (Nat.le_of_ble_eq_true rfl) dX9_requestLine_268 ⟨show 0 + 0 ≤ 0 by omega, show 0 + 0 ≤ 0 by omega⟩ [0, 1] [] rfl rfl (by decide) (by decide) (by decide) (fun r_ w_ H locs hp_ hP hD hS => ?_)
                                        rcases hp_ with ⟨rfl, rfl, hT_268⟩ | ⟨rfl, rfl, hF_268⟩
                                        · skip
                                          have hP : va_P (gD g) vwCl [(mm, .inr (7, v0 :: v1 :: v2 :: v3 :: v4 :: v5 :: v6 :: v7 :: v8 :: v9 :: v10 :: v11 :: v12 :: v13 :: v14 :: v15 :: v16 :: .ref ah_ :: v18 :: v19 :: .int (nI 0) :: .int (nI 0) :: v22 :: v23 :: v24 :: v25 :: v26 :: v27 :: v28 :: v29 :: v30 :: v31 :: .int (nI m_targetAt) :: .int (nI m_targetEnd) :: v34 :: v35 :: .int (nI m_other) :: v37 :: v38 :: [])), (ah_, .inl (gB g, 4096, .inl fh))] H := hP
                                          have hD : va_D A [(mm, .inr (7, v0 :: v1 :: v2 :: v3 :: v4 :: v5 :: v6 :: v7 :: v8 :: v9 :: v10 :: v11 :: v12 :: v13 :: v14 :: v15 :: v16 :: .ref ah_ :: v18 :: v19 :: .int (nI 0) :: .int (nI 0) :: v22 :: v23 :: v24 :: v25 :: v26 :: v27 :: v28 :: v29 :: v30 :: v31 :: .int (nI m_targetAt) :: .int (nI m_targetEnd) :: v34 :: v35 :: .int (nI m_other) :: v37 :: v38 :: [])), (ah_, .inl (gB g, 4096, .inl fh))] := hD
                                          have hT_268 : pText f 0 a 5 := hT_268
                                          refine W.eq (g2 := F0 m 271 ls [.int (nI 1), .ref mm]) rfl ?_
                                          refine lv_if_ne (tgt := 278) hx hb dX9_requestLine_271 (by decide) (fun _ => ?_) (fun c271 => absurd c271 (by decide))
                                          refine lv_iconst (v := nI 0) hx hb dX9_requestLine_278 (by decide) ?_
                                          refine va_put (D := gD g) (ci := 7) (v := .int (nI 0)) (ty := .boolean) (C := RX9) (T := TX9) (N := 39) hx hb hts hinX9 tyX9 tyX9_ok nmX9 hown hK hP hD hS 0 rfl rfl 36 (by decide) hf185 (fun _ h9 => h9) rfl (by decide +kernel) rfl rfl (Nat.le_of_ble_eq_true rfl) dX9_requestLine_279 (fun H locs hP hD hS => ?_)
                                          have hP : va_P (gD g) vwCl [(mm, .inr (7, v0 :: v1 :: v2 :: v3 :: v4 :: v5 :: v6 :: v7 :: v8 :: v9 :: v10 :: v11 :: v12 :: v13 :: v14 :: v15 :: v16 :: .ref ah_ :: v18 :: v19 :: .int (nI 0) :: .int (nI 0) :: v22 :: v23 :: v24 :: v25 :: v26 :: v27 :: v28 :: v29 :: v30 :: v31 :: .int (nI m_targetAt) :: .int (nI m_targetEnd) :: v34 :: v35 :: .int (nI 0) :: v37 :: v38 :: [])), (ah_, .inl (gB g, 4096, .inl fh))] H := hP
                                          have hD : va_D A [(mm, .inr (7, v0 :: v1 :: v2 :: v3 :: v4 :: v5 :: v6 :: v7 :: v8 :: v9 :: v10 :: v11 :: v12 :: v13 :: v14 :: v15 :: v16 :: .ref ah_ :: v18 :: v19 :: .int (nI 0) :: .int (nI 0) :: v22 :: v23 :: v24 :: v25 :: v26 :: v27 :: v28 :: v29 :: v30 :: v31 :: .int (nI m_targetAt) :: .int (nI m_targetEnd) :: v34 :: v35 :: .int (nI 0) :: v37 :: v38 :: [])), (ah_, .inl (gB g, 4096, .inl fh))] := hD
                                          refine lv_aload_n hx hb dX9_requestLine_282 rfl (lv_at hl 0 rfl) ?_
                                          refine lv_iload_n hx hb dX9_requestLine_283 rfl (lv_at hl 3 rfl) ?_
                                          refine lv_iconst (v := nI 1) hx hb dX9_requestLine_284 (by decide) ?_
                                          refine q_iadd (v := nI (a + 1)) hx hb dX9_requestLine_285 (nI_add a 1) ?_
                                          refine va_put (D := gD g) (ci := 7) (v := .int (nI (a + 1))) (ty := .int) (C := RX9) (T := TX9) (N := 39) hx hb hts hinX9 tyX9 tyX9_ok nmX9 hown hK hP hD hS 0 rfl rfl 32 (by decide) hf188 (fun _ h9 => h9) rfl (by decide +kernel) rfl rfl (Nat.le_of_ble_eq_true rfl) dX9_requestLine_286 (fun H locs hP hD hS => ?_)
                                          have hP : va_P (gD g) vwCl [(mm, .inr (7, v0 :: v1 :: v2 :: v3 :: v4 :: v5 :: v6 :: v7 :: v8 :: v9 :: v10 :: v11 :: v12 :: v13 :: v14 :: v15 :: v16 :: .ref ah_ :: v18 :: v19 :: .int (nI 0) :: .int (nI 0) :: v22 :: v23 :: v24 :: v25 :: v26 :: v27 :: v28 :: v29 :: v30 :: v31 :: .int (nI (a + 1)) :: .int (nI m_targetEnd) :: v34 :: v35 :: .int (nI 0) :: v37 :: v38 :: [])), (ah_, .inl (gB g, 4096, .inl fh))] H := hP
                                          have hD : va_D A [(mm, .inr (7, v0 :: v1 :: v2 :: v3 :: v4 :: v5 :: v6 :: v7 :: v8 :: v9 :: v10 :: v11 :: v12 :: v13 :: v14 :: v15 :: v16 :: .ref ah_ :: v18 :: v19 :: .int (nI 0) :: .int (nI 0) :: v22 :: v23 :: v24 :: v25 :: v26 :: v27 :: v28 :: v29 :: v30 :: v31 :: .int (nI (a + 1)) :: .int (nI m_targetEnd) :: v34 :: v35 :: .int (nI 0) :: v37 :: v38 :: [])), (ah_, .inl (gB g, 4096, .inl fh))] := hD
                                          refine lv_aload_n hx hb dX9_requestLine_289 rfl (lv_at hl 0 rfl) ?_
                                          refine lv_iload hx hb dX9_requestLine_290 (lv_at hl 4 rfl) ?_
                                          refine va_put (D := gD g) (ci := 7) (v := .int (nI b)) (ty := .int) (C := RX9) (T := TX9) (N := 39) hx hb hts hinX9 tyX9 tyX9_ok nmX9 hown hK hP hD hS 0 rfl rfl 33 (by decide) hf191 (fun _ h9 => h9) rfl (by decide +kernel) rfl rfl (Nat.le_of_ble_eq_true rfl) dX9_requestLine_292 (fun H locs hP hD hS => ?_)
                                          have hP : va_P (gD g) vwCl [(mm, .inr (7, v0 :: v1 :: v2 :: v3 :: v4 :: v5 :: v6 :: v7 :: v8 :: v9 :: v10 :: v11 :: v12 :: v13 :: v14 :: v15 :: v16 :: .ref ah_ :: v18 :: v19 :: .int (nI 0) :: .int (nI 0) :: v22 :: v23 :: v24 :: v25 :: v26 :: v27 :: v28 :: v29 :: v30 :: v31 :: .int (nI (a + 1)) :: .int (nI b) :: v34 :: v35 :: .int (nI 0) :: v37 :: v38 :: [])), (ah_, .inl (gB g, 4096, .inl fh))] H := hP
                                          have hD : va_D A [(mm, .inr (7, v0 :: v1 :: v2 :: v3 :: v4 :: v5 :: v6 :: v7 :: v8 :: v9 :: v10 :: v11 :: v12 :: v13 :: v14 :: v15 :: v16 :: .ref ah_ :: v18 :: v19 :: .int (nI 0) :: .int (nI 0) :: v22 :: v23 :: v24 :: v25 :: v26 :: v27 :: v28 :: v29 :: v30 :: v31 :: .int (nI (a + 1)) :: .int (nI b) :: v34 :: v35 :: .int (nI 0) :: v37 :: v38 :: [])), (ah_, .inl (gB g, 4096, .inl fh))] := hD
                                          refine lv_iconst (v := nI 1) hx hb dX9_requestLine_295 (by decide) ?_
                                          refine ct_iret (w := [(mm, .inr (7, v0 :: v1 :: v2 :: v3 :: v4 :: v5 :: v6 :: v7 :: v8 :: v9 :: v10 :: v11 :: v12 :: v13 :: v14 :: v15 :: v16 :: .ref ah_ :: v18 :: v19 :: .int (nI 0) :: .int (nI 0) :: v22 :: v23 :: v24 :: v25 :: v26 :: v27 :: v28 :: v29 :: v30 :: v31 :: .int (nI (a + 1)) :: .int (nI b) :: v34 :: v35 :: .int (nI 0) :: v37 :: v38 :: [])), (ah_, .inl (gB g, 4096, .inl fh))]) hx hb hr rfl hlocks hQ hAe hK (hP.sub [0, 1] rfl) (hD.sub [0, 1] (by decide) rfl) hS (by omega) (by omega) dX9_requestLine_296 ?_
                                          refine Or.inr ((?_))
                                          exact ⟨me, 1, a + 1, b, 0, 0, 0, rfl, rfl, by exact reqS_T ⟨fun j _ hj => na j hj, Or.inr ⟨by omega, by omega, ha1⟩⟩ ⟨fun j h1 h2 => nb j (by omega) h2, Or.inr ⟨by omega, by omega, hb1⟩⟩ ⟨Or.inl hT_213, ⟨by omega, by omega, fun j hj => hgr j (by omega)⟩, ⟨by omega, c96, fun j h1 h2 => hvi j (by omega) (by omega)⟩⟩ (iteC_p hT_213) ((iteC_n hF_249).trans (iteC_p hT_268)), by omega, by omega, by exact ⟨⟨by omega, c96, fun j h1 h2 => hvi j (by omega) (by omega)⟩, by omega⟩⟩
                                        · skip
                                          have hP : va_P (gD g) vwCl [(mm, .inr (7, v0 :: v1 :: v2 :: v3 :: v4 :: v5 :: v6 :: v7 :: v8 :: v9 :: v10 :: v11 :: v12 :: v13 :: v14 :: v15 :: v16 :: .ref ah_ :: v18 :: v19 :: .int (nI 0) :: .int (nI 0) :: v22 :: v23 :: v24 :: v25 :: v26 :: v27 :: v28 :: v29 :: v30 :: v31 :: .int (nI m_targetAt) :: .int (nI m_targetEnd) :: v34 :: v35 :: .int (nI m_other) :: v37 :: v38 :: [])), (ah_, .inl (gB g, 4096, .inl fh))] H := hP
                                          have hD : va_D A [(mm, .inr (7, v0 :: v1 :: v2 :: v3 :: v4 :: v5 :: v6 :: v7 :: v8 :: v9 :: v10 :: v11 :: v12 :: v13 :: v14 :: v15 :: v16 :: .ref ah_ :: v18 :: v19 :: .int (nI 0) :: .int (nI 0) :: v22 :: v23 :: v24 :: v25 :: v26 :: v27 :: v28 :: v29 :: v30 :: v31 :: .int (nI m_targetAt) :: .int (nI m_targetEnd) :: v34 :: v35 :: .int (nI m_other) :: v37 :: v38 :: [])), (ah_, .inl (gB g, 4096, .inl fh))] := hD
                                          have hF_268 : ¬ (pText f 0 a 5) := hF_268
                                          refine W.eq (g2 := F0 m 271 ls [.int (nI 0), .ref mm]) rfl ?_
                                          refine lv_if_ne (tgt := 278) hx hb dX9_requestLine_271 (by decide) (fun c271 => absurd (by decide) c271) (fun _ => ?_)
                                          refine lv_iconst (v := nI 1) hx hb dX9_requestLine_274 (by decide) ?_
                                          refine lv_goto (tgt := 279) hx hb dX9_requestLine_275 (by decide) ?_
                                          refine va_put (D := gD g) (ci := 7) (v := .int (nI 1)) (ty := .boolean) (C := RX9) (T := TX9) (N := 39) hx hb hts hinX9 tyX9 tyX9_ok nmX9 hown hK hP hD hS 0 rfl rfl 36 (by decide) hf185 (fun _ h9 => h9) rfl (by decide +kernel) rfl rfl (Nat.le_of_ble_eq_true rfl) dX9_requestLine_279 (fun H locs hP hD hS => ?_)
                                          have hP : va_P (gD g) vwCl [(mm, .inr (7, v0 :: v1 :: v2 :: v3 :: v4 :: v5 :: v6 :: v7 :: v8 :: v9 :: v10 :: v11 :: v12 :: v13 :: v14 :: v15 :: v16 :: .ref ah_ :: v18 :: v19 :: .int (nI 0) :: .int (nI 0) :: v22 :: v23 :: v24 :: v25 :: v26 :: v27 :: v28 :: v29 :: v30 :: v31 :: .int (nI m_targetAt) :: .int (nI m_targetEnd) :: v34 :: v35 :: .int (nI 1) :: v37 :: v38 :: [])), (ah_, .inl (gB g, 4096, .inl fh))] H := hP
                                          have hD : va_D A [(mm, .inr (7, v0 :: v1 :: v2 :: v3 :: v4 :: v5 :: v6 :: v7 :: v8 :: v9 :: v10 :: v11 :: v12 :: v13 :: v14 :: v15 :: v16 :: .ref ah_ :: v18 :: v19 :: .int (nI 0) :: .int (nI 0) :: v22 :: v23 :: v24 :: v25 :: v26 :: v27 :: v28 :: v29 :: v30 :: v31 :: .int (nI m_targetAt) :: .int (nI m_targetEnd) :: v34 :: v35 :: .int (nI 1) :: v37 :: v38 :: [])), (ah_, .inl (gB g, 4096, .inl fh))] := hD
                                          refine lv_aload_n hx hb dX9_requestLine_282 rfl (lv_at hl 0 rfl) ?_
                                          refine lv_iload_n hx hb dX9_requestLine_283 rfl (lv_at hl 3 rfl) ?_
                                          refine lv_iconst (v := nI 1) hx hb dX9_requestLine_284 (by decide) ?_
                                          refine q_iadd (v := nI (a + 1)) hx hb dX9_requestLine_285 (nI_add a 1) ?_
                                          refine va_put (D := gD g) (ci := 7) (v := .int (nI (a + 1))) (ty := .int) (C := RX9) (T := TX9) (N := 39) hx hb hts hinX9 tyX9 tyX9_ok nmX9 hown hK hP hD hS 0 rfl rfl 32 (by decide) hf188 (fun _ h9 => h9) rfl (by decide +kernel) rfl rfl (Nat.le_of_ble_eq_true rfl) dX9_requestLine_286 (fun H locs hP hD hS => ?_)
                                          have hP : va_P (gD g) vwCl [(mm, .inr (7, v0 :: v1 :: v2 :: v3 :: v4 :: v5 :: v6 :: v7 :: v8 :: v9 :: v10 :: v11 :: v12 :: v13 :: v14 :: v15 :: v16 :: .ref ah_ :: v18 :: v19 :: .int (nI 0) :: .int (nI 0) :: v22 :: v23 :: v24 :: v25 :: v26 :: v27 :: v28 :: v29 :: v30 :: v31 :: .int (nI (a + 1)) :: .int (nI m_targetEnd) :: v34 :: v35 :: .int (nI 1) :: v37 :: v38 :: [])), (ah_, .inl (gB g, 4096, .inl fh))] H := hP
                                          have hD : va_D A [(mm, .inr (7, v0 :: v1 :: v2 :: v3 :: v4 :: v5 :: v6 :: v7 :: v8 :: v9 :: v10 :: v11 :: v12 :: v13 :: v14 :: v15 :: v16 :: .ref ah_ :: v18 :: v19 :: .int (nI 0) :: .int (nI 0) :: v22 :: v23 :: v24 :: v25 :: v26 :: v27 :: v28 :: v29 :: v30 :: v31 :: .int (nI (a + 1)) :: .int (nI m_targetEnd) :: v34 :: v35 :: .int (nI 1) :: v37 :: v38 :: [])), (ah_, .inl (gB g, 4096, .inl fh))] := hD
                                          refine lv_aload_n hx hb dX9_requestLine_289 rfl (lv_at hl 0 rfl) ?_
                                          refine lv_iload hx hb dX9_requestLine_290 (lv_at hl 4 rfl) ?_
                                          refine va_put (D := gD g) (ci := 7) (v := .int (nI b)) (ty := .int) (C := RX9) (T := TX9) (N := 39) hx hb hts hinX9 tyX9 tyX9_ok nmX9 hown hK hP hD hS 0 rfl rfl 33 (by decide) hf191 (fun _ h9 => h9) rfl (by decide +kernel) rfl rfl (Nat.le_of_ble_eq_true rfl) dX9_requestLine_292 (fun H locs hP hD hS => ?_)
                                          have hP : va_P (gD g) vwCl [(mm, .inr (7, v0 :: v1 :: v2 :: v3 :: v4 :: v5 :: v6 :: v7 :: v8 :: v9 :: v10 :: v11 :: v12 :: v13 :: v14 :: v15 :: v16 :: .ref ah_ :: v18 :: v19 :: .int (nI 0) :: .int (nI 0) :: v22 :: v23 :: v24 :: v25 :: v26 :: v27 :: v28 :: v29 :: v30 :: v31 :: .int (nI (a + 1)) :: .int (nI b) :: v34 :: v35 :: .int (nI 1) :: v37 :: v38 :: [])), (ah_, .inl (gB g, 4096, .inl fh))] H := hP
                                          have hD : va_D A [(mm, .inr (7, v0 :: v1 :: v2 :: v3 :: v4 :: v5 :: v6 :: v7 :: v8 :: v9 :: v10 :: v11 :: v12 :: v13 :: v14 :: v15 :: v16 :: .ref ah_ :: v18 :: v19 :: .int (nI 0) :: .int (nI 0) :: v22 :: v23 :: v24 :: v25 :: v26 :: v27 :: v28 :: v29 :: v30 :: v31 :: .int (nI (a + 1)) :: .int (nI b) :: v34 :: v35 :: .int (nI 1) :: v37 :: v38 :: [])), (ah_, .inl (gB g, 4096, .inl fh))] := hD
                                          refine lv_iconst (v := nI 1) hx hb dX9_requestLine_295 (by decide) ?_
                                          refine ct_iret (w := [(mm, .inr (7, v0 :: v1 :: v2 :: v3 :: v4 :: v5 :: v6 :: v7 :: v8 :: v9 :: v10 :: v11 :: v12 :: v13 :: v14 :: v15 :: v16 :: .ref ah_ :: v18 :: v19 :: .int (nI 0) :: .int (nI 0) :: v22 :: v23 :: v24 :: v25 :: v26 :: v27 :: v28 :: v29 :: v30 :: v31 :: .int (nI (a + 1)) :: .int (nI b) :: v34 :: v35 :: .int (nI 1) :: v37 :: v38 :: [])), (ah_, .inl (gB g, 4096, .inl fh))]) hx hb hr rfl hlocks hQ hAe hK (hP.sub [0, 1] rfl) (hD.sub [0, 1] (by decide) rfl) hS (by omega) (by omega) dX9_requestLine_296 ?_
                                          refine Or.inr ((?_))
                                          exact ⟨2, 1, a + 1, b, 0, 0, 1, rfl, rfl, by exact reqS_T ⟨fun j _ hj => na j hj, Or.inr ⟨by omega, by omega, ha1⟩⟩ ⟨fun j h1 h2 => nb j (by omega) h2, Or.inr ⟨by omega, by omega, hb1⟩⟩ ⟨Or.inl hT_213, ⟨by omega, by omega, fun j hj => hgr j (by omega)⟩, ⟨by omega, c96, fun j h1 h2 => hvi j (by omega) (by omega)⟩⟩ (iteC_p hT_213) ((iteC_n hF_249).trans (iteC_n hF_268)), by omega, by omega, by exact ⟨⟨by omega, c96, fun j h1 h2 => hvi j (by omega) (by omega)⟩, by omega⟩⟩
                                    · skip
                                      exact absurd (((ra hfit (by decide)).mp c232).symm.trans (ver1 hT_213)) (by decide)
                                  · skip
                                    have hP : va_P (gD g) vwCl [(mm, .inr (7, v0 :: v1 :: v2 :: v3 :: v4 :: v5 :: v6 :: v7 :: v8 :: v9 :: v10 :: v11 :: v12 :: v13 :: v14 :: v15 :: v16 :: .ref ah_ :: v18 :: v19 :: .int (nI m_isHead) :: .int (nI m_oldVersion) :: v22 :: v23 :: v24 :: v25 :: v26 :: v27 :: v28 :: v29 :: v30 :: v31 :: .int (nI m_targetAt) :: .int (nI m_targetEnd) :: v34 :: v35 :: .int (nI m_other) :: v37 :: v38 :: [])), (ah_, .inl (gB g, 4096, .inl fh))] H := hP
                                    have hD : va_D A [(mm, .inr (7, v0 :: v1 :: v2 :: v3 :: v4 :: v5 :: v6 :: v7 :: v8 :: v9 :: v10 :: v11 :: v12 :: v13 :: v14 :: v15 :: v16 :: .ref ah_ :: v18 :: v19 :: .int (nI m_isHead) :: .int (nI m_oldVersion) :: v22 :: v23 :: v24 :: v25 :: v26 :: v27 :: v28 :: v29 :: v30 :: v31 :: .int (nI m_targetAt) :: .int (nI m_targetEnd) :: v34 :: v35 :: .int (nI m_other) :: v37 :: v38 :: [])), (ah_, .inl (gB g, 4096, .inl fh))] := hD
                                    have hF_213 : ¬ (pText f (b + 1) i 2) := hF_213
                                    refine W.eq (g2 := F0 m 216 ls [.int (nI 0)]) rfl ?_
                                    refine lv_if_ne (tgt := 221) hx hb dX9_requestLine_216 (by decide) (fun c216 => absurd (by decide) c216) (fun _ => ?_)
                                    refine lv_iconst (v := nI 0) hx hb dX9_requestLine_219 (by decide) ?_
                                    refine ct_iret (w := [(mm, .inr (7, v0 :: v1 :: v2 :: v3 :: v4 :: v5 :: v6 :: v7 :: v8 :: v9 :: v10 :: v11 :: v12 :: v13 :: v14 :: v15 :: v16 :: .ref ah_ :: v18 :: v19 :: .int (nI m_isHead) :: .int (nI m_oldVersion) :: v22 :: v23 :: v24 :: v25 :: v26 :: v27 :: v28 :: v29 :: v30 :: v31 :: .int (nI m_targetAt) :: .int (nI m_targetEnd) :: v34 :: v35 :: .int (nI m_other) :: v37 :: v38 :: [])), (ah_, .inl (gB g, 4096, .inl fh))]) hx hb hr rfl hlocks hQ hAe hK (hP.sub [0, 1] rfl) (hD.sub [0, 1] (by decide) rfl) hS (by omega) (by omega) dX9_requestLine_220 ?_
                                    refine Or.inl (?_)
                                    exact ⟨rfl, rfl, by exact req_no (fun z => by have h_ := ok_ab z ha1 na hab hb1 nb; obtain ⟨⟨m1, m2, m3⟩, ⟨t1, t2, t3⟩, h3, h4⟩ := h_; first | omega | exact c96 t2 | exact (m3 i4 (by omega)).1 c127 | exact (m3 i4 (by omega)).2 (Int32.not_le.mp c138) | exact (t3 i5 (by omega) (by omega)).1 c169 | exact (t3 i5 (by omega) (by omega)).2 (Int32.not_le.mp c180) | exact h4.elim hF_213 hF_199)⟩
                              · skip
                                have c158 : ¬ (b ≤ i5) := fun z => c158 ((nI_leI (a := b) (b := i5) (by omega) (by omega)).mpr z)
                                refine lv_aload_n hx hb dX9_requestLine_161 rfl (lv_at hl 0 rfl) ?_
                                refine lv_iload hx hb dX9_requestLine_162 (lv_at hl 6 rfl) ?_
                                refine ct_callV (wr := []) hx hb hml hown hts hK hP hD hS hA hG hl.1 (c_headAt l g mm ((v0 : Value)) ((v1 : Value)) ((v2 : Value)) ((v3 : Value)) ((v4 : Value)) ((v5 : Value)) ((v6 : Value)) ((v7 : Value)) ((v8 : Value)) ((v9 : Value)) ((v10 : Value)) ((v11 : Value)) ((v12 : Value)) ((v13 : Value)) ((v14 : Value)) ((v15 : Value)) ((v16 : Value)) ah_ ((v18 : Value)) ((v19 : Value)) ((.int (nI m_isHead) : Value)) ((.int (nI m_oldVersion) : Value)) ((v22 : Value)) ((v23 : Value)) ((v24 : Value)) ((v25 : Value)) ((v26 : Value)) ((v27 : Value)) ((v28 : Value)) ((v29 : Value)) ((v30 : Value)) ((v31 : Value)) ((.int (nI m_targetAt) : Value)) ((.int (nI m_targetEnd) : Value)) ((v34 : Value)) ((v35 : Value)) ((.int (nI m_other) : Value)) ((v37 : Value)) ((v38 : Value)) fh f hn i5 (by omega) (by assumption) (by omega)) (cwV 1 hts gX9_requestLine_X9_headAt rfl rfl rfl (by decide +kernel) ⟨Nat.le_of_ble_eq_true rfl, Nat.le_of_ble_eq_true rfl⟩) (va_recv hK hP (ci := 7) (q0 := 0) rfl rfl) rfl rfl (Nat.le_of_ble_eq_true rfl) dX9_requestLine_164 ⟨show 0 + 0 ≤ 0 by omega, show 0 + 0 ≤ 0 by omega⟩ [0, 1] [] rfl rfl (by decide) (by decide) (by decide) (fun r_ w_ H locs hp_ hP hD hS => ?_)
                                obtain ⟨rfl, rfl⟩ := hp_
                                have hP : va_P (gD g) vwCl [(mm, .inr (7, v0 :: v1 :: v2 :: v3 :: v4 :: v5 :: v6 :: v7 :: v8 :: v9 :: v10 :: v11 :: v12 :: v13 :: v14 :: v15 :: v16 :: .ref ah_ :: v18 :: v19 :: .int (nI m_isHead) :: .int (nI m_oldVersion) :: v22 :: v23 :: v24 :: v25 :: v26 :: v27 :: v28 :: v29 :: v30 :: v31 :: .int (nI m_targetAt) :: .int (nI m_targetEnd) :: v34 :: v35 :: .int (nI m_other) :: v37 :: v38 :: [])), (ah_, .inl (gB g, 4096, .inl fh))] H := hP
                                have hD : va_D A [(mm, .inr (7, v0 :: v1 :: v2 :: v3 :: v4 :: v5 :: v6 :: v7 :: v8 :: v9 :: v10 :: v11 :: v12 :: v13 :: v14 :: v15 :: v16 :: .ref ah_ :: v18 :: v19 :: .int (nI m_isHead) :: .int (nI m_oldVersion) :: v22 :: v23 :: v24 :: v25 :: v26 :: v27 :: v28 :: v29 :: v30 :: v31 :: .int (nI m_targetAt) :: .int (nI m_targetEnd) :: v34 :: v35 :: .int (nI m_other) :: v37 :: v38 :: [])), (ah_, .inl (gB g, 4096, .inl fh))] := hD
                                refine W.eq (g2 := F0 m 167 ls [.int (f i5 &&& 255)]) rfl ?_
                                refine lv_bipush (v := nI 33) hx hb dX9_requestLine_167 (by decide) ?_
                                refine lv_icmp_lt (tgt := 183) hx hb dX9_requestLine_169 (by decide) (fun c169 => ?_) (fun c169 => ?_)
                                · skip
                                  refine lv_iconst (v := nI 0) hx hb dX9_requestLine_183 (by decide) ?_
                                  refine ct_iret (w := [(mm, .inr (7, v0 :: v1 :: v2 :: v3 :: v4 :: v5 :: v6 :: v7 :: v8 :: v9 :: v10 :: v11 :: v12 :: v13 :: v14 :: v15 :: v16 :: .ref ah_ :: v18 :: v19 :: .int (nI m_isHead) :: .int (nI m_oldVersion) :: v22 :: v23 :: v24 :: v25 :: v26 :: v27 :: v28 :: v29 :: v30 :: v31 :: .int (nI m_targetAt) :: .int (nI m_targetEnd) :: v34 :: v35 :: .int (nI m_other) :: v37 :: v38 :: [])), (ah_, .inl (gB g, 4096, .inl fh))]) hx hb hr rfl hlocks hQ hAe hK (hP.sub [0, 1] rfl) (hD.sub [0, 1] (by decide) rfl) hS (by omega) (by omega) dX9_requestLine_184 ?_
                                  refine Or.inl (?_)
                                  exact ⟨rfl, rfl, by exact req_no (fun z => by have h_ := ok_ab z ha1 na hab hb1 nb; obtain ⟨⟨m1, m2, m3⟩, ⟨t1, t2, t3⟩, h3, h4⟩ := h_; first | omega | exact c96 t2 | exact (m3 i4 (by omega)).1 c127 | exact (m3 i4 (by omega)).2 (Int32.not_le.mp c138) | exact (t3 i5 (by omega) (by omega)).1 c169 | exact (t3 i5 (by omega) (by omega)).2 (Int32.not_le.mp c180) | exact h4.elim hF_213 hF_199)⟩
                                · skip
                                  refine lv_aload_n hx hb dX9_requestLine_172 rfl (lv_at hl 0 rfl) ?_
                                  refine lv_iload hx hb dX9_requestLine_173 (lv_at hl 6 rfl) ?_
                                  refine ct_callV (wr := []) hx hb hml hown hts hK hP hD hS hA hG hl.1 (c_headAt l g mm ((v0 : Value)) ((v1 : Value)) ((v2 : Value)) ((v3 : Value)) ((v4 : Value)) ((v5 : Value)) ((v6 : Value)) ((v7 : Value)) ((v8 : Value)) ((v9 : Value)) ((v10 : Value)) ((v11 : Value)) ((v12 : Value)) ((v13 : Value)) ((v14 : Value)) ((v15 : Value)) ((v16 : Value)) ah_ ((v18 : Value)) ((v19 : Value)) ((.int (nI m_isHead) : Value)) ((.int (nI m_oldVersion) : Value)) ((v22 : Value)) ((v23 : Value)) ((v24 : Value)) ((v25 : Value)) ((v26 : Value)) ((v27 : Value)) ((v28 : Value)) ((v29 : Value)) ((v30 : Value)) ((v31 : Value)) ((.int (nI m_targetAt) : Value)) ((.int (nI m_targetEnd) : Value)) ((v34 : Value)) ((v35 : Value)) ((.int (nI m_other) : Value)) ((v37 : Value)) ((v38 : Value)) fh f hn i5 (by omega) (by assumption) (by omega)) (cwV 1 hts gX9_requestLine_X9_headAt rfl rfl rfl (by decide +kernel) ⟨Nat.le_of_ble_eq_true rfl, Nat.le_of_ble_eq_true rfl⟩) (va_recv hK hP (ci := 7) (q0 := 0) rfl rfl) rfl rfl (Nat.le_of_ble_eq_true rfl) dX9_requestLine_175 ⟨show 0 + 0 ≤ 0 by omega, show 0 + 0 ≤ 0 by omega⟩ [0, 1] [] rfl rfl (by decide) (by decide) (by decide) (fun r_ w_ H locs hp_ hP hD hS => ?_)
                                  obtain ⟨rfl, rfl⟩ := hp_
                                  have hP : va_P (gD g) vwCl [(mm, .inr (7, v0 :: v1 :: v2 :: v3 :: v4 :: v5 :: v6 :: v7 :: v8 :: v9 :: v10 :: v11 :: v12 :: v13 :: v14 :: v15 :: v16 :: .ref ah_ :: v18 :: v19 :: .int (nI m_isHead) :: .int (nI m_oldVersion) :: v22 :: v23 :: v24 :: v25 :: v26 :: v27 :: v28 :: v29 :: v30 :: v31 :: .int (nI m_targetAt) :: .int (nI m_targetEnd) :: v34 :: v35 :: .int (nI m_other) :: v37 :: v38 :: [])), (ah_, .inl (gB g, 4096, .inl fh))] H := hP
                                  have hD : va_D A [(mm, .inr (7, v0 :: v1 :: v2 :: v3 :: v4 :: v5 :: v6 :: v7 :: v8 :: v9 :: v10 :: v11 :: v12 :: v13 :: v14 :: v15 :: v16 :: .ref ah_ :: v18 :: v19 :: .int (nI m_isHead) :: .int (nI m_oldVersion) :: v22 :: v23 :: v24 :: v25 :: v26 :: v27 :: v28 :: v29 :: v30 :: v31 :: .int (nI m_targetAt) :: .int (nI m_targetEnd) :: v34 :: v35 :: .int (nI m_other) :: v37 :: v38 :: [])), (ah_, .inl (gB g, 4096, .inl fh))] := hD
                                  refine W.eq (g2 := F0 m 178 ls [.int (f i5 &&& 255)]) rfl ?_
                                  refine lv_bipush (v := nI 126) hx hb dX9_requestLine_178 (by decide) ?_
                                  refine lv_icmp_le (tgt := 185) hx hb dX9_requestLine_180 (by decide) (fun c180 => ?_) (fun c180 => ?_)
                                  · skip
                                    refine lv_iinc (v := nI (i5 + 1)) (lv' := [(6, .int (nI (i5 + 1))), (0, .ref mm), (1, .int (nI 0)), (2, .int (nI i)), (3, .int (nI a)), (4, .int (nI b)), (5, .int (nI bl))]) hx hb dX9_requestLine_185 hl (k := 6) rfl (nI_inc i5 1) (by decide) rfl (fun ls hl => ?_)
                                    refine lv_goto (tgt := 154) hx hb dX9_requestLine_188 (by decide) ?_
                                    exact ih_K154 (i5 + 1) (by omega) (by omega) (by assumption) (by exact all_s2 hvi ⟨c169, Int32.not_lt.mpr c180⟩) (by omega) _ _ _ (hP.sub [0, 1] rfl) (hD.sub [0, 1] (by decide) rfl) hS (lv_sub hl [1, 2, 3, 4, 5, 6, 0] rfl)
                                  · skip
                                    refine lv_iconst (v := nI 0) hx hb dX9_requestLine_183 (by decide) ?_
                                    refine ct_iret (w := [(mm, .inr (7, v0 :: v1 :: v2 :: v3 :: v4 :: v5 :: v6 :: v7 :: v8 :: v9 :: v10 :: v11 :: v12 :: v13 :: v14 :: v15 :: v16 :: .ref ah_ :: v18 :: v19 :: .int (nI m_isHead) :: .int (nI m_oldVersion) :: v22 :: v23 :: v24 :: v25 :: v26 :: v27 :: v28 :: v29 :: v30 :: v31 :: .int (nI m_targetAt) :: .int (nI m_targetEnd) :: v34 :: v35 :: .int (nI m_other) :: v37 :: v38 :: [])), (ah_, .inl (gB g, 4096, .inl fh))]) hx hb hr rfl hlocks hQ hAe hK (hP.sub [0, 1] rfl) (hD.sub [0, 1] (by decide) rfl) hS (by omega) (by omega) dX9_requestLine_184 ?_
                                    refine Or.inl (?_)
                                    exact ⟨rfl, rfl, by exact req_no (fun z => by have h_ := ok_ab z ha1 na hab hb1 nb; obtain ⟨⟨m1, m2, m3⟩, ⟨t1, t2, t3⟩, h3, h4⟩ := h_; first | omega | exact c96 t2 | exact (m3 i4 (by omega)).1 c127 | exact (m3 i4 (by omega)).2 (Int32.not_le.mp c138) | exact (t3 i5 (by omega) (by omega)).1 c169 | exact (t3 i5 (by omega) (by omega)).2 (Int32.not_le.mp c180) | exact h4.elim hF_213 hF_199)⟩
                          exact K154 ((b - (a + 1)) + 1) (a + 1) (by omega) (by omega) (by exact fun j hj => hgr j (by omega)) (by intro j h1 h2; omega) (Nat.lt_succ_self _) _ _ _ (hP.sub [0, 1] rfl) (hD.sub [0, 1] (by decide) rfl) hS (lv_sub hl [1, 2, 3, 4, 5, 6, 0] rfl)
                        · skip
                          have c116 : ¬ (a ≤ i4) := fun z => c116 ((nI_leI (a := a) (b := i4) (by omega) (by omega)).mpr z)
                          refine lv_aload_n hx hb dX9_requestLine_119 rfl (lv_at hl 0 rfl) ?_
                          refine lv_iload hx hb dX9_requestLine_120 (lv_at hl 6 rfl) ?_
                          refine ct_callV (wr := []) hx hb hml hown hts hK hP hD hS hA hG hl.1 (c_headAt l g mm ((v0 : Value)) ((v1 : Value)) ((v2 : Value)) ((v3 : Value)) ((v4 : Value)) ((v5 : Value)) ((v6 : Value)) ((v7 : Value)) ((v8 : Value)) ((v9 : Value)) ((v10 : Value)) ((v11 : Value)) ((v12 : Value)) ((v13 : Value)) ((v14 : Value)) ((v15 : Value)) ((v16 : Value)) ah_ ((v18 : Value)) ((v19 : Value)) ((.int (nI m_isHead) : Value)) ((.int (nI m_oldVersion) : Value)) ((v22 : Value)) ((v23 : Value)) ((v24 : Value)) ((v25 : Value)) ((v26 : Value)) ((v27 : Value)) ((v28 : Value)) ((v29 : Value)) ((v30 : Value)) ((v31 : Value)) ((.int (nI m_targetAt) : Value)) ((.int (nI m_targetEnd) : Value)) ((v34 : Value)) ((v35 : Value)) ((.int (nI m_other) : Value)) ((v37 : Value)) ((v38 : Value)) fh f hn i4 (by omega) (by assumption) (by omega)) (cwV 1 hts gX9_requestLine_X9_headAt rfl rfl rfl (by decide +kernel) ⟨Nat.le_of_ble_eq_true rfl, Nat.le_of_ble_eq_true rfl⟩) (va_recv hK hP (ci := 7) (q0 := 0) rfl rfl) rfl rfl (Nat.le_of_ble_eq_true rfl) dX9_requestLine_122 ⟨show 0 + 0 ≤ 0 by omega, show 0 + 0 ≤ 0 by omega⟩ [0, 1] [] rfl rfl (by decide) (by decide) (by decide) (fun r_ w_ H locs hp_ hP hD hS => ?_)
                          obtain ⟨rfl, rfl⟩ := hp_
                          have hP : va_P (gD g) vwCl [(mm, .inr (7, v0 :: v1 :: v2 :: v3 :: v4 :: v5 :: v6 :: v7 :: v8 :: v9 :: v10 :: v11 :: v12 :: v13 :: v14 :: v15 :: v16 :: .ref ah_ :: v18 :: v19 :: .int (nI m_isHead) :: .int (nI m_oldVersion) :: v22 :: v23 :: v24 :: v25 :: v26 :: v27 :: v28 :: v29 :: v30 :: v31 :: .int (nI m_targetAt) :: .int (nI m_targetEnd) :: v34 :: v35 :: .int (nI m_other) :: v37 :: v38 :: [])), (ah_, .inl (gB g, 4096, .inl fh))] H := hP
                          have hD : va_D A [(mm, .inr (7, v0 :: v1 :: v2 :: v3 :: v4 :: v5 :: v6 :: v7 :: v8 :: v9 :: v10 :: v11 :: v12 :: v13 :: v14 :: v15 :: v16 :: .ref ah_ :: v18 :: v19 :: .int (nI m_isHead) :: .int (nI m_oldVersion) :: v22 :: v23 :: v24 :: v25 :: v26 :: v27 :: v28 :: v29 :: v30 :: v31 :: .int (nI m_targetAt) :: .int (nI m_targetEnd) :: v34 :: v35 :: .int (nI m_other) :: v37 :: v38 :: [])), (ah_, .inl (gB g, 4096, .inl fh))] := hD
                          refine W.eq (g2 := F0 m 125 ls [.int (f i4 &&& 255)]) rfl ?_
                          refine lv_bipush (v := nI 65) hx hb dX9_requestLine_125 (by decide) ?_
                          refine lv_icmp_lt (tgt := 141) hx hb dX9_requestLine_127 (by decide) (fun c127 => ?_) (fun c127 => ?_)
                          · skip
                            refine lv_iconst (v := nI 0) hx hb dX9_requestLine_141 (by decide) ?_
                            refine ct_iret (w := [(mm, .inr (7, v0 :: v1 :: v2 :: v3 :: v4 :: v5 :: v6 :: v7 :: v8 :: v9 :: v10 :: v11 :: v12 :: v13 :: v14 :: v15 :: v16 :: .ref ah_ :: v18 :: v19 :: .int (nI m_isHead) :: .int (nI m_oldVersion) :: v22 :: v23 :: v24 :: v25 :: v26 :: v27 :: v28 :: v29 :: v30 :: v31 :: .int (nI m_targetAt) :: .int (nI m_targetEnd) :: v34 :: v35 :: .int (nI m_other) :: v37 :: v38 :: [])), (ah_, .inl (gB g, 4096, .inl fh))]) hx hb hr rfl hlocks hQ hAe hK (hP.sub [0, 1] rfl) (hD.sub [0, 1] (by decide) rfl) hS (by omega) (by omega) dX9_requestLine_142 ?_
                            refine Or.inl (?_)
                            exact ⟨rfl, rfl, by exact req_no (fun z => by have h_ := ok_ab z ha1 na hab hb1 nb; obtain ⟨⟨m1, m2, m3⟩, ⟨t1, t2, t3⟩, h3, h4⟩ := h_; first | omega | exact c96 t2 | exact (m3 i4 (by omega)).1 c127 | exact (m3 i4 (by omega)).2 (Int32.not_le.mp c138) | exact (t3 i5 (by omega) (by omega)).1 c169 | exact (t3 i5 (by omega) (by omega)).2 (Int32.not_le.mp c180) | exact h4.elim hF_213 hF_199)⟩
                          · skip
                            refine lv_aload_n hx hb dX9_requestLine_130 rfl (lv_at hl 0 rfl) ?_
                            refine lv_iload hx hb dX9_requestLine_131 (lv_at hl 6 rfl) ?_
                            refine ct_callV (wr := []) hx hb hml hown hts hK hP hD hS hA hG hl.1 (c_headAt l g mm ((v0 : Value)) ((v1 : Value)) ((v2 : Value)) ((v3 : Value)) ((v4 : Value)) ((v5 : Value)) ((v6 : Value)) ((v7 : Value)) ((v8 : Value)) ((v9 : Value)) ((v10 : Value)) ((v11 : Value)) ((v12 : Value)) ((v13 : Value)) ((v14 : Value)) ((v15 : Value)) ((v16 : Value)) ah_ ((v18 : Value)) ((v19 : Value)) ((.int (nI m_isHead) : Value)) ((.int (nI m_oldVersion) : Value)) ((v22 : Value)) ((v23 : Value)) ((v24 : Value)) ((v25 : Value)) ((v26 : Value)) ((v27 : Value)) ((v28 : Value)) ((v29 : Value)) ((v30 : Value)) ((v31 : Value)) ((.int (nI m_targetAt) : Value)) ((.int (nI m_targetEnd) : Value)) ((v34 : Value)) ((v35 : Value)) ((.int (nI m_other) : Value)) ((v37 : Value)) ((v38 : Value)) fh f hn i4 (by omega) (by assumption) (by omega)) (cwV 1 hts gX9_requestLine_X9_headAt rfl rfl rfl (by decide +kernel) ⟨Nat.le_of_ble_eq_true rfl, Nat.le_of_ble_eq_true rfl⟩) (va_recv hK hP (ci := 7) (q0 := 0) rfl rfl) rfl rfl (Nat.le_of_ble_eq_true rfl) dX9_requestLine_133 ⟨show 0 + 0 ≤ 0 by omega, show 0 + 0 ≤ 0 by omega⟩ [0, 1] [] rfl rfl (by decide) (by decide) (by decide) (fun r_ w_ H locs hp_ hP hD hS => ?_)
                            obtain ⟨rfl, rfl⟩ := hp_
                            have hP : va_P (gD g) vwCl [(mm, .inr (7, v0 :: v1 :: v2 :: v3 :: v4 :: v5 :: v6 :: v7 :: v8 :: v9 :: v10 :: v11 :: v12 :: v13 :: v14 :: v15 :: v16 :: .ref ah_ :: v18 :: v19 :: .int (nI m_isHead) :: .int (nI m_oldVersion) :: v22 :: v23 :: v24 :: v25 :: v26 :: v27 :: v28 :: v29 :: v30 :: v31 :: .int (nI m_targetAt) :: .int (nI m_targetEnd) :: v34 :: v35 :: .int (nI m_other) :: v37 :: v38 :: [])), (ah_, .inl (gB g, 4096, .inl fh))] H := hP
                            have hD : va_D A [(mm, .inr (7, v0 :: v1 :: v2 :: v3 :: v4 :: v5 :: v6 :: v7 :: v8 :: v9 :: v10 :: v11 :: v12 :: v13 :: v14 :: v15 :: v16 :: .ref ah_ :: v18 :: v19 :: .int (nI m_isHead) :: .int (nI m_oldVersion) :: v22 :: v23 :: v24 :: v25 :: v26 :: v27 :: v28 :: v29 :: v30 :: v31 :: .int (nI m_targetAt) :: .int (nI m_targetEnd) :: v34 :: v35 :: .int (nI m_other) :: v37 :: v38 :: [])), (ah_, .inl (gB g, 4096, .inl fh))] := hD
                            refine W.eq (g2 := F0 m 136 ls [.int (f i4 &&& 255)]) rfl ?_
                            refine lv_bipush (v := nI 90) hx hb dX9_requestLine_136 (by decide) ?_
                            refine lv_icmp_le (tgt := 143) hx hb dX9_requestLine_138 (by decide) (fun c138 => ?_) (fun c138 => ?_)
                            · skip
                              refine lv_iinc (v := nI (i4 + 1)) (lv' := [(6, .int (nI (i4 + 1))), (0, .ref mm), (1, .int (nI 0)), (2, .int (nI i)), (3, .int (nI a)), (4, .int (nI b)), (5, .int (nI bl))]) hx hb dX9_requestLine_143 hl (k := 6) rfl (nI_inc i4 1) (by decide) rfl (fun ls hl => ?_)
                              refine lv_goto (tgt := 113) hx hb dX9_requestLine_146 (by decide) ?_
                              exact ih_K113 (i4 + 1) (by omega) (by exact lt_s hgr ⟨c127, Int32.not_lt.mpr c138⟩) (by omega) _ _ _ (hP.sub [0, 1] rfl) (hD.sub [0, 1] (by decide) rfl) hS (lv_sub hl [1, 2, 3, 4, 5, 6, 0] rfl)
                            · skip
                              refine lv_iconst (v := nI 0) hx hb dX9_requestLine_141 (by decide) ?_
                              refine ct_iret (w := [(mm, .inr (7, v0 :: v1 :: v2 :: v3 :: v4 :: v5 :: v6 :: v7 :: v8 :: v9 :: v10 :: v11 :: v12 :: v13 :: v14 :: v15 :: v16 :: .ref ah_ :: v18 :: v19 :: .int (nI m_isHead) :: .int (nI m_oldVersion) :: v22 :: v23 :: v24 :: v25 :: v26 :: v27 :: v28 :: v29 :: v30 :: v31 :: .int (nI m_targetAt) :: .int (nI m_targetEnd) :: v34 :: v35 :: .int (nI m_other) :: v37 :: v38 :: [])), (ah_, .inl (gB g, 4096, .inl fh))]) hx hb hr rfl hlocks hQ hAe hK (hP.sub [0, 1] rfl) (hD.sub [0, 1] (by decide) rfl) hS (by omega) (by omega) dX9_requestLine_142 ?_
                              refine Or.inl (?_)
                              exact ⟨rfl, rfl, by exact req_no (fun z => by have h_ := ok_ab z ha1 na hab hb1 nb; obtain ⟨⟨m1, m2, m3⟩, ⟨t1, t2, t3⟩, h3, h4⟩ := h_; first | omega | exact c96 t2 | exact (m3 i4 (by omega)).1 c127 | exact (m3 i4 (by omega)).2 (Int32.not_le.mp c138) | exact (t3 i5 (by omega) (by omega)).1 c169 | exact (t3 i5 (by omega) (by omega)).2 (Int32.not_le.mp c180) | exact h4.elim hF_213 hF_199)⟩
                    exact K113 ((a - 0) + 1) 0 (by omega) (by intro j h1; omega) (Nat.lt_succ_self _) _ _ _ (hP.sub [0, 1] rfl) (hD.sub [0, 1] (by decide) rfl) hS (lv_sub hl [1, 2, 3, 4, 5, 6, 0] rfl)
                  · skip
                    have c105 : ¬ (i - b = 9) := fun z => c105 ((nI_eq (a := i - b) (b := 9) (by omega) (by omega)).mpr z)
                    refine lv_iconst (v := nI 0) hx hb dX9_requestLine_108 (by decide) ?_
                    refine ct_iret (w := [(mm, .inr (7, v0 :: v1 :: v2 :: v3 :: v4 :: v5 :: v6 :: v7 :: v8 :: v9 :: v10 :: v11 :: v12 :: v13 :: v14 :: v15 :: v16 :: .ref ah_ :: v18 :: v19 :: .int (nI m_isHead) :: .int (nI m_oldVersion) :: v22 :: v23 :: v24 :: v25 :: v26 :: v27 :: v28 :: v29 :: v30 :: v31 :: .int (nI m_targetAt) :: .int (nI m_targetEnd) :: v34 :: v35 :: .int (nI m_other) :: v37 :: v38 :: [])), (ah_, .inl (gB g, 4096, .inl fh))]) hx hb hr rfl hlocks hQ hAe hK (hP.sub [0, 1] rfl) (hD.sub [0, 1] (by decide) rfl) hS (by omega) (by omega) dX9_requestLine_109 ?_
                    refine Or.inl (?_)
                    exact ⟨rfl, rfl, by exact req_no (fun z => by have h_ := ok_ab z ha1 na hab hb1 nb; obtain ⟨⟨m1, m2, m3⟩, ⟨t1, t2, t3⟩, h3, h4⟩ := h_; first | omega | exact c96 t2 | exact (m3 i4 (by omega)).1 c127 | exact (m3 i4 (by omega)).2 (Int32.not_le.mp c138) | exact (t3 i5 (by omega) (by omega)).1 c169 | exact (t3 i5 (by omega) (by omega)).2 (Int32.not_le.mp c180) | exact h4.elim hF_213 hF_199)⟩
      · skip
        have c14 : ¬ (e0 ≤ i) := fun z => c14 ((nI_leI (a := e0) (b := i) (by omega) (by omega)).mpr z)
        refine lv_aload_n hx hb dX9_requestLine_17 rfl (lv_at hl 0 rfl) ?_
        refine va_get (D := gD g) (ci := 7) (v := .ref ah_) (C := RX9) (T := TX9) (N := 39) hx hb hts hinX9 hown hK hP 0 rfl rfl 17 (by decide) hf40 (fun _ h9 => h9) rfl dX9_requestLine_18 ?_
        refine lv_iload hx hb dX9_requestLine_21 (lv_at hl 6 rfl) ?_
        refine q_bald hx hb hK hP 1 rfl (i) rfl (by omega) (by omega) dX9_requestLine_23 ?_
        refine q_top (v := f i) (hM _ (by omega)) ?_
        refine lv_bipush (v := nI 32) hx hb dX9_requestLine_24 (by decide) ?_
        refine lv_icmp_ne (tgt := 51) hx hb dX9_requestLine_26 (by decide) (fun c26 => ?_) (fun c26 => ?_)
        · skip
          have c26 : ¬ f i &&& 255 = nI 32 := fun z => c26 ((ra hfit (by decide)).mpr z)
          refine lv_iinc (v := nI (i + 1)) (lv' := [(6, .int (nI (i + 1))), (0, .ref mm), (1, .int (nI 0)), (2, .int (nI e0)), (3, .int va), (4, .int vb), (5, .int (nI bl))]) hx hb dX9_requestLine_51 hl (k := 6) rfl (nI_inc i 1) (by decide) rfl (fun ls hl => ?_)
          refine lv_goto (tgt := 11) hx hb dX9_requestLine_54 (by decide) ?_
          exact ih_K11 (i + 1) bl va vb (by omega) (by omega) (by first | exact pBl_n hB c26 | exact pBl_1 hB c35 c26 | exact pBl_2 hB c44 c26 | exact pBl_3 hB c35 c44 c26 | (exfalso; omega)) (by omega) _ _ _ (hP.sub [0, 1] rfl) (hD.sub [0, 1] (by decide) rfl) hS (lv_sub hl [1, 2, 3, 4, 5, 6, 0] rfl)
        · skip
          have c26 := (ra hfit (by decide)).mp c26
          refine lv_iinc (v := nI (bl + 1)) (lv' := [(5, .int (nI (bl + 1))), (0, .ref mm), (1, .int (nI 0)), (2, .int (nI e0)), (3, .int va), (4, .int vb), (6, .int (nI i))]) hx hb dX9_requestLine_29 hl (k := 5) rfl (nI_inc bl 1) (by decide) rfl (fun ls hl => ?_)
          refine lv_iload hx hb dX9_requestLine_32 (lv_at hl 0 rfl) ?_
          refine lv_iconst (v := nI 1) hx hb dX9_requestLine_34 (by decide) ?_
          refine lv_icmp_ne (tgt := 41) hx hb dX9_requestLine_35 (by decide) (fun c35 => ?_) (fun c35 => ?_)
          · skip
            have c35 : ¬ (bl + 1 = 1) := fun z => c35 ((nI_eq (a := bl + 1) (b := 1) (by omega) (by omega)).mpr z)
            refine lv_iload hx hb dX9_requestLine_41 (lv_at hl 0 rfl) ?_
            refine lv_iconst (v := nI 2) hx hb dX9_requestLine_43 (by decide) ?_
            refine lv_icmp_ne (tgt := 51) hx hb dX9_requestLine_44 (by decide) (fun c44 => ?_) (fun c44 => ?_)
            · skip
              have c44 : ¬ (bl + 1 = 2) := fun z => c44 ((nI_eq (a := bl + 1) (b := 2) (by omega) (by omega)).mpr z)
              refine lv_iinc (v := nI (i + 1)) (lv' := [(6, .int (nI (i + 1))), (5, .int (nI (bl + 1))), (0, .ref mm), (1, .int (nI 0)), (2, .int (nI e0)), (3, .int va), (4, .int vb)]) hx hb dX9_requestLine_51 hl (k := 6) rfl (nI_inc i 1) (by decide) rfl (fun ls hl => ?_)
              refine lv_goto (tgt := 11) hx hb dX9_requestLine_54 (by decide) ?_
              exact ih_K11 (i + 1) (bl + 1) va vb (by omega) (by omega) (by first | exact pBl_n hB c26 | exact pBl_1 hB c35 c26 | exact pBl_2 hB c44 c26 | exact pBl_3 hB c35 c44 c26 | (exfalso; omega)) (by omega) _ _ _ (hP.sub [0, 1] rfl) (hD.sub [0, 1] (by decide) rfl) hS (lv_sub hl [2, 3, 4, 5, 6, 1, 0] rfl)
            · skip
              have c44 : bl + 1 = 2 := (nI_eq (a := bl + 1) (b := 2) (by omega) (by omega)).mp c44
              refine lv_iload hx hb dX9_requestLine_47 (lv_at hl 6 rfl) ?_
              refine lv_istore (lv' := [(4, .int (nI i)), (5, .int (nI (bl + 1))), (0, .ref mm), (1, .int (nI 0)), (2, .int (nI e0)), (3, .int va), (6, .int (nI i))]) hx hb dX9_requestLine_49 hl (by decide) rfl (fun ls hl => ?_)
              refine lv_iinc (v := nI (i + 1)) (lv' := [(6, .int (nI (i + 1))), (4, .int (nI i)), (5, .int (nI (bl + 1))), (0, .ref mm), (1, .int (nI 0)), (2, .int (nI e0)), (3, .int va)]) hx hb dX9_requestLine_51 hl (k := 6) rfl (nI_inc i 1) (by decide) rfl (fun ls hl => ?_)
              refine lv_goto (tgt := 11) hx hb dX9_requestLine_54 (by decide) ?_
              exact ih_K11 (i + 1) (bl + 1) va (nI i) (by omega) (by omega) (by first | exact pBl_n hB c26 | exact pBl_1 hB c35 c26 | exact pBl_2 hB c44 c26 | exact pBl_3 hB c35 c44 c26 | (exfalso; omega)) (by omega) _ _ _ (hP.sub [0, 1] rfl) (hD.sub [0, 1] (by decide) rfl) hS (lv_sub hl [3, 4, 5, 6, 1, 2, 0] rfl)
          · skip
            have c35 : bl + 1 = 1 := (nI_eq (a := bl + 1) (b := 1) (by omega) (by omega)).mp c35
            refine lv_iload hx hb dX9_requestLine_38 (lv_at hl 6 rfl) ?_
            refine lv_istore_n (lv' := [(3, .int (nI i)), (5, .int (nI (bl + 1))), (0, .ref mm), (1, .int (nI 0)), (2, .int (nI e0)), (4, .int vb), (6, .int (nI i))]) hx hb dX9_requestLine_40 rfl hl (by decide) rfl (fun ls hl => ?_)
            refine lv_iload hx hb dX9_requestLine_41 (lv_at hl 1 rfl) ?_
            refine lv_iconst (v := nI 2) hx hb dX9_requestLine_43 (by decide) ?_
            refine lv_icmp_ne (tgt := 51) hx hb dX9_requestLine_44 (by decide) (fun c44 => ?_) (fun c44 => ?_)
            · skip
              have c44 : ¬ (bl + 1 = 2) := fun z => c44 ((nI_eq (a := bl + 1) (b := 2) (by omega) (by omega)).mpr z)
              refine lv_iinc (v := nI (i + 1)) (lv' := [(6, .int (nI (i + 1))), (3, .int (nI i)), (5, .int (nI (bl + 1))), (0, .ref mm), (1, .int (nI 0)), (2, .int (nI e0)), (4, .int vb)]) hx hb dX9_requestLine_51 hl (k := 6) rfl (nI_inc i 1) (by decide) rfl (fun ls hl => ?_)
              refine lv_goto (tgt := 11) hx hb dX9_requestLine_54 (by decide) ?_
              exact ih_K11 (i + 1) (bl + 1) (nI i) vb (by omega) (by omega) (by first | exact pBl_n hB c26 | exact pBl_1 hB c35 c26 | exact pBl_2 hB c44 c26 | exact pBl_3 hB c35 c44 c26 | (exfalso; omega)) (by omega) _ _ _ (hP.sub [0, 1] rfl) (hD.sub [0, 1] (by decide) rfl) hS (lv_sub hl [3, 4, 5, 1, 6, 2, 0] rfl)
            · skip
              have c44 : bl + 1 = 2 := (nI_eq (a := bl + 1) (b := 2) (by omega) (by omega)).mp c44
              refine lv_iload hx hb dX9_requestLine_47 (lv_at hl 6 rfl) ?_
              refine lv_istore (lv' := [(4, .int (nI i)), (3, .int (nI i)), (5, .int (nI (bl + 1))), (0, .ref mm), (1, .int (nI 0)), (2, .int (nI e0)), (6, .int (nI i))]) hx hb dX9_requestLine_49 hl (by decide) rfl (fun ls hl => ?_)
              refine lv_iinc (v := nI (i + 1)) (lv' := [(6, .int (nI (i + 1))), (4, .int (nI i)), (3, .int (nI i)), (5, .int (nI (bl + 1))), (0, .ref mm), (1, .int (nI 0)), (2, .int (nI e0))]) hx hb dX9_requestLine_51 hl (k := 6) rfl (nI_inc i 1) (by decide) rfl (fun ls hl => ?_)
              refine lv_goto (tgt := 11) hx hb dX9_requestLine_54 (by decide) ?_
              exact ih_K11 (i + 1) (bl + 1) (nI i) (nI i) (by omega) (by omega) (by first | exact pBl_n hB c26 | exact pBl_1 hB c35 c26 | exact pBl_2 hB c44 c26 | exact pBl_3 hB c35 c44 c26 | (exfalso; omega)) (by omega) _ _ _ (hP.sub [0, 1] rfl) (hD.sub [0, 1] (by decide) rfl) hS (lv_sub hl [4, 5, 6, 2, 1, 3, 0] rfl)
  exact K11 ((e0 - 0) + 1) 0 0 (-1) (-1) (by omega) (by omega) (by exact pBl_0) (Nat.lt_succ_self _) _ _ _ (hP.sub [0, 1] rfl) (hD.sub [0, 1] (by decide) rfl) hS (lv_sub hl [4, 5, 6, 3, 2, 1, 0] rfl)
