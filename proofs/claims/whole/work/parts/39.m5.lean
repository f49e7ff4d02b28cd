theorem dig_u8 {x : Int32} (h : pDigit (x &&& 255)) : 48 ≤ u8 x ∧ u8 x ≤ 57 := by
  have hx := u8_lt x
  rw [u8_eq] at h
  exact ⟨Nat.le_of_not_lt (fun z => h.1 (nI_lt z (by omega))), Nat.le_of_not_lt (fun z => h.2 (nI_lt z (by omega)))⟩
theorem numF_0 {f : Nat → Int32} {a e : Nat} (h : ¬ (a < e ∧ e - a ≤ 9)) : numF f a e < 0 := by rw [numF, if_neg h]; decide
theorem numF_1 {f : Nat → Int32} {a e : Nat} (h : a < e ∧ e - a ≤ 9) (h2 : nmL f e (e + 1) a (nI 0) = -1) : numF f a e < 0 := by rw [numF, if_pos h, h2]; decide
theorem numF_2 {f : Nat → Int32} {a e : Nat} {v : Int32} (h : a < e ∧ e - a ≤ 9) (h2 : nmL f e (e + 1) a (nI 0) = v) : numF f a e = v := by rw [numF, if_pos h, h2]
theorem val_ok {x : Int32} (h : ¬ x &&& 255 < nI 32) (h2 : ¬ x &&& 255 = nI 127) : pValue (x &&& 255) := by
  have k : ∀ n, n < 256 → ¬ nI n < nI 32 → ¬ nI n = nI 127 → pValue (nI n) := by decide +kernel
  rw [u8_eq] at h h2 ⊢
  exact k _ (u8_lt x) h h2
theorem val_b1 {x : Int32} (h9 : ¬ x &&& 255 = nI 9) (h : x &&& 255 < nI 32) : ¬ pValue (x &&& 255) := by
  have k : ∀ n, n < 256 → ¬ nI n = nI 9 → nI n < nI 32 → ¬ pValue (nI n) := by decide +kernel
  rw [u8_eq] at h9 h ⊢
  exact k _ (u8_lt x) h9 h
theorem val_b2 {x : Int32} (h : x &&& 255 = nI 127) : ¬ pValue (x &&& 255) := by rw [h]; decide
theorem nm58 : ¬ pNameC (nI 58) := fun z => by
  have k := (nameMC 58 (by decide)).mpr z
  revert k
  unfold pNameM
  rw [sgL_iff]
  unfold lowI
  decide
theorem pFind_ex (f : Nat → Int32) (code : Int32) : ∀ (n a b : Nat), b ≤ a + n → a ≤ b → ∃ r, pFind f code a b r := by
  intro n
  induction n with
  | zero => intro a b h1 h2; exact ⟨b, fun j h3 h4 => absurd h4 (by omega), Or.inl rfl⟩
  | succ n ih =>
    intro a b h1 h2
    by_cases hab : a = b
    · exact ⟨b, fun j h3 h4 => absurd h4 (by omega), Or.inl rfl⟩
    by_cases hc : f a &&& 255 = code
    · exact ⟨a, fun j h3 h4 => absurd h4 (by omega), Or.inr ⟨Nat.le_refl _, by omega, hc⟩⟩
    obtain ⟨r, h3, h4⟩ := ih (a + 1) b (by omega) (by omega)
    have hr : a + 1 ≤ r := by
      rcases h4 with z | z
      · omega
      · exact z.1
    refine ⟨r, fun j h5 h6 => ?_, ?_⟩
    · by_cases hj : j = a
      · rw [hj]; exact hc
      · exact h3 j (by omega) h6
    · rcases h4 with z | z
      · exact Or.inl z
      · exact Or.inr ⟨by omega, z.2⟩
theorem colon_F {f : Nat → Int32} {b e ci c : Nat} (he : ci ≤ e) (hall : ∀ j, b ≤ j → j < ci → pNameC (f j &&& 255)) (hbc : b ≤ ci) (hst : ci = e ∨ ¬ pNameC (f ci &&& 255)) (hbad : ci = b ∨ ci = e ∨ ¬ f ci &&& 255 = nI 58) (hc : pFind f (nI 58) b e c) : ¬ pLine f b c e := by
  rintro ⟨h1, h2, h3, -⟩
  have hcc : f c &&& 255 = nI 58 := by
    rcases hc.2 with z | z
    · omega
    · exact z.2.2
  rcases Nat.lt_trichotomy c ci with z | z | z
  · exact nm58 (by have := hall c (by omega) z; rwa [hcc] at this)
  · subst z
    rcases hbad with w | w | w
    · omega
    · omega
    · exact w hcc
  · rcases hst with w | w
    · omega
    · exact w (h3 ci hbc z)
theorem colon_T {f : Nat → Int32} {b e ci : Nat} (hall : ∀ j, b ≤ j → j < ci → pNameC (f j &&& 255)) (hbc : b ≤ ci) (hce : ci < e) (h : f ci &&& 255 = nI 58) : pFind f (nI 58) b e ci :=
  ⟨fun j h1 h2 z => nm58 (by have := hall j h1 h2; rwa [z] at this), Or.inr ⟨hbc, hce, h⟩⟩
theorem lineS_F' {f : Nat → Int32} {b e : Nat} {s : HS} (hbe : b ≤ e) (h : ∀ c, pFind f (nI 58) b e c → ¬ pLine f b c e) : (1, s.2) = lineS f b e s := by
  obtain ⟨c, hc⟩ := pFind_ex f (nI 58) e b e (by omega) hbe
  exact lineS_F hc (h c hc)
/-- what the model's marks of lengths say of the class's last length -/
def RB (le : Nat) (bo : Int32) (xb xg xl : Nat) : Prop := (le = 0 → xb = 0 ∧ xg = 0 ∧ xl = 0 ∧ bo = nI 0) ∧ (le = 1 → (xb = 1 ∧ bo < 0) ∨ (xb = 0 ∧ xg = 1 ∧ ¬ bo < 0 ∧ nI 65536 < bo) ∨ (xb = 0 ∧ xg = 0 ∧ bo = nI xl))

set_option maxHeartbeats 4000000 in
set_option maxRecDepth 100000 in
theorem c_mConLen (l : Launch) (g : GT) (mm : Nat) (v0 : Value) (v1 : Value) (v2 : Value) (v3 : Value) (v4 : Value) (v5 : Value) (v6 : Value) (v7 : Value) (v8 : Value) (v9 : Value) (v10 : Value) (v11 : Value) (v12 : Value) (v13 : Value) (v14 : Value) (v15 : Value) (v16 : Value) (ah_ : Nat) (v18 : Value) (v19 : Value) (v20 : Value) (v21 : Value) (v22 : Value) (v23 : Value) (v24 : Value) (m_lengths : Nat) (v26 : Value) (m_bodyLeft : Nat) (m_badLength : Nat) (m_greatLength : Nat) (v30 : Value) (v31 : Value) (v32 : Value) (v33 : Value) (v34 : Value) (v35 : Value) (v36 : Value) (v37 : Value) (v38 : Value) (fh : Nat → Int32) (f : Nat → Int32) (hn : Nat) (a0 : Nat) (e0 : Nat) (hhn : hn ≤ 4096) (hM : ∀ j, j < hn → fh j = f j) (he0 : e0 ≤ hn) (ha0 : a0 ≤ e0) (hl9 : m_lengths ≤ 4096) : CT l g yX9_contentLength wsX9_contentLength ({ frames := 1, cells := 0, slots := 0, locals := 21 } : Room) [.ref mm, .int (nI a0), .int (nI e0)] [(mm, .inr (7, v0 :: v1 :: v2 :: v3 :: v4 :: v5 :: v6 :: v7 :: v8 :: v9 :: v10 :: v11 :: v12 :: v13 :: v14 :: v15 :: v16 :: .ref ah_ :: v18 :: v19 :: v20 :: v21 :: v22 :: v23 :: v24 :: .int (nI m_lengths) :: v26 :: .int (nI m_bodyLeft) :: .int (nI m_badLength) :: .int (nI m_greatLength) :: v30 :: v31 :: v32 :: v33 :: v34 :: v35 :: v36 :: v37 :: v38 :: [])), (ah_, .inl (gB g, 4096, .inl fh))] (fun r w => (r = none ∧ w = [(mm, .inr (7, v0 :: v1 :: v2 :: v3 :: v4 :: v5 :: v6 :: v7 :: v8 :: v9 :: v10 :: v11 :: v12 :: v13 :: v14 :: v15 :: v16 :: .ref ah_ :: v18 :: v19 :: v20 :: v21 :: v22 :: v23 :: v24 :: .int (nI (m_lengths + 1)) :: v26 :: .int (nI m_bodyLeft) :: .int (nI 1) :: .int (nI m_greatLength) :: v30 :: v31 :: v32 :: v33 :: v34 :: v35 :: v36 :: v37 :: v38 :: [])), (ah_, .inl (gB g, 4096, .inl fh))] ∧ (numF f a0 e0 < 0)) ∨ (r = none ∧ w = [(mm, .inr (7, v0 :: v1 :: v2 :: v3 :: v4 :: v5 :: v6 :: v7 :: v8 :: v9 :: v10 :: v11 :: v12 :: v13 :: v14 :: v15 :: v16 :: .ref ah_ :: v18 :: v19 :: v20 :: v21 :: v22 :: v23 :: v24 :: .int (nI (m_lengths + 1)) :: v26 :: .int (nI m_bodyLeft) :: .int (nI m_badLength) :: .int (nI 1) :: v30 :: v31 :: v32 :: v33 :: v34 :: v35 :: v36 :: v37 :: v38 :: [])), (ah_, .inl (gB g, 4096, .inl fh))] ∧ (¬ numF f a0 e0 < 0 ∧ nI 65536 < numF f a0 e0)) ∨ (∃ (lb : Nat), r = none ∧ w = [(mm, .inr (7, v0 :: v1 :: v2 :: v3 :: v4 :: v5 :: v6 :: v7 :: v8 :: v9 :: v10 :: v11 :: v12 :: v13 :: v14 :: v15 :: v16 :: .ref ah_ :: v18 :: v19 :: v20 :: v21 :: v22 :: v23 :: v24 :: .int (nI (m_lengths + 1)) :: v26 :: .int (nI lb) :: .int (nI m_badLength) :: .int (nI m_greatLength) :: v30 :: v31 :: v32 :: v33 :: v34 :: v35 :: v36 :: v37 :: v38 :: [])), (ah_, .inl (gB g, 4096, .inl fh))] ∧ (numF f a0 e0 = nI lb ∧ lb ≤ 65536))) (0) (0) := by
  refine ct_of (cc := cX9_contentLength) (maxL := 6) (ret := none) (by decide) rfl (Nat.le_of_ble_eq_true rfl) ?_
  intro p e s m args below meth c A Q hx hb hr hml hown hts hlocks hnam hAe hQ hA hG hK hP hD hS ls hl
  have hl : lv_has ls 6 [(0, .ref mm), (1, .int (nI a0)), (2, .int (nI e0))] := hl
  have hown : s.vm.findClass RX9 = some m.cls := hown
  have hinX9 : ∀ w ∈ u_ws RX9 TX9 39, w ∈ wsX9_contentLength := by decide +kernel
  have hf133 := hts (.fieldLink RX9 133 "RequestReaderModel" "lengths" "I") (by decide +kernel)
  have hf139 := hts (.fieldLink RX9 139 "RequestReaderModel" "bodyLeft" "I") (by decide +kernel)
  have hf142 := hts (.fieldLink RX9 142 "RequestReaderModel" "badLength" "Z") (by decide +kernel)
  have hf145 := hts (.fieldLink RX9 145 "RequestReaderModel" "greatLength" "Z") (by decide +kernel)
  refine lv_aload_n hx hb dX9_contentLength_0 rfl (lv_at hl 0 rfl) ?_
  refine lv_dup hx hb dX9_contentLength_1 rfl ?_
  refine va_get (D := gD g) (ci := 7) (v := .int (nI m_lengths)) (C := RX9) (T := TX9) (N := 39) hx hb hts hinX9 hown hK hP 0 rfl rfl 25 (by decide) hf133 (fun _ h9 => h9) rfl dX9_contentLength_2 ?_
  refine lv_iconst (v := nI 1) hx hb dX9_contentLength_5 (by decide) ?_
  refine q_iadd (v := nI (m_lengths + 1)) hx hb dX9_contentLength_6 (nI_add m_lengths 1) ?_
  refine va_put (D := gD g) (ci := 7) (v := .int (nI (m_lengths + 1))) (ty := .int) (C := RX9) (T := TX9) (N := 39) hx hb hts hinX9 tyX9 tyX9_ok nmX9 hown hK hP hD hS 0 rfl rfl 25 (by decide) hf133 (fun _ h9 => h9) rfl (by decide +kernel) rfl rfl (Nat.le_of_ble_eq_true rfl) dX9_contentLength_7 (fun H locs hP hD hS => ?_)
  have hP : va_P (gD g) vwCl [(mm, .inr (7, v0 :: v1 :: v2 :: v3 :: v4 :: v5 :: v6 :: v7 :: v8 :: v9 :: v10 :: v11 :: v12 :: v13 :: v14 :: v15 :: v16 :: .ref ah_ :: v18 :: v19 :: v20 :: v21 :: v22 :: v23 :: v24 :: .int (nI (m_lengths + 1)) :: v26 :: .int (nI m_bodyLeft) :: .int (nI m_badLength) :: .int (nI m_greatLength) :: v30 :: v31 :: v32 :: v33 :: v34 :: v35 :: v36 :: v37 :: v38 :: [])), (ah_, .inl (gB g, 4096, .inl fh))] H := hP
  have hD : va_D A [(mm, .inr (7, v0 :: v1 :: v2 :: v3 :: v4 :: v5 :: v6 :: v7 :: v8 :: v9 :: v10 :: v11 :: v12 :: v13 :: v14 :: v15 :: v16 :: .ref ah_ :: v18 :: v19 :: v20 :: v21 :: v22 :: v23 :: v24 :: .int (nI (m_lengths + 1)) :: v26 :: .int (nI m_bodyLeft) :: .int (nI m_badLength) :: .int (nI m_greatLength) :: v30 :: v31 :: v32 :: v33 :: v34 :: v35 :: v36 :: v37 :: v38 :: [])), (ah_, .inl (gB g, 4096, .inl fh))] := hD
  refine lv_iconst (v := nI 0) hx hb dX9_contentLength_10 (by decide) ?_
  refine lv_istore_n (lv' := [(3, .int (nI 0)), (0, .ref mm), (1, .int (nI a0)), (2, .int (nI e0))]) hx hb dX9_contentLength_11 rfl hl (by decide) rfl (fun ls hl => ?_)
  refine lv_iload_n hx hb dX9_contentLength_12 rfl (lv_at hl 3 rfl) ?_
  refine lv_iload_n hx hb dX9_contentLength_13 rfl (lv_at hl 2 rfl) ?_
  refine q_isub (v := nI (e0 - a0)) hx hb dX9_contentLength_14 (pk_sub (a := e0) (b := a0) (by omega)) ?_
  refine lv_iconst (v := nI 1) hx hb dX9_contentLength_15 (by decide) ?_
  refine lv_icmp_lt (tgt := 31) hx hb dX9_contentLength_16 (by decide) (fun c16 => ?_) (fun c16 => ?_)
  · skip
    have c16 : e0 - a0 < 1 := (nI_ltI (a := e0 - a0) (b := 1) (by omega) (by omega)).mp c16
    refine lv_iconst (v := nI 0) hx hb dX9_contentLength_31 (by decide) ?_
    refine lv_istore (lv' := [(4, .int (nI 0)), (3, .int (nI 0)), (0, .ref mm), (1, .int (nI a0)), (2, .int (nI e0))]) hx hb dX9_contentLength_32 hl (by decide) rfl (fun ls hl => ?_)
    refine lv_iload_n hx hb dX9_contentLength_34 rfl (lv_at hl 3 rfl) ?_
    refine lv_istore (lv' := [(5, .int (nI a0)), (4, .int (nI 0)), (3, .int (nI 0)), (0, .ref mm), (1, .int (nI a0)), (2, .int (nI e0))]) hx hb dX9_contentLength_35 hl (by decide) rfl (fun ls hl => ?_)
    refine lv_iload hx hb dX9_contentLength_37 (lv_at hl 0 rfl) ?_
    refine lv_iload_n hx hb dX9_contentLength_39 rfl (lv_at hl 5 rfl) ?_
    refine lv_icmp_ge (tgt := 80) hx hb dX9_contentLength_40 (by decide) (fun c40 => ?_) (fun c40 => ?_)
    · skip
      have c40 : e0 ≤ a0 := (nI_leI (a := e0) (b := a0) (by omega) (by omega)).mp c40
      refine lv_iload hx hb dX9_contentLength_80 (lv_at hl 1 rfl) ?_
      refine lv_if_ne (tgt := 93) hx hb dX9_contentLength_82 (by decide) (fun c82 => absurd (by decide) c82) (fun _ => ?_)
      refine lv_aload_n hx hb dX9_contentLength_85 rfl (lv_at hl 3 rfl) ?_
      refine lv_iconst (v := nI 1) hx hb dX9_contentLength_86 (by decide) ?_
      refine va_put (D := gD g) (ci := 7) (v := .int (nI 1)) (ty := .boolean) (C := RX9) (T := TX9) (N := 39) hx hb hts hinX9 tyX9 tyX9_ok nmX9 hown hK hP hD hS 0 rfl rfl 28 (by decide) hf142 (fun _ h9 => h9) rfl (by decide +kernel) rfl rfl (Nat.le_of_ble_eq_true rfl) dX9_contentLength_87 (fun H locs hP hD hS => ?_)
      have hP : va_P (gD g) vwCl [(mm, .inr (7, v0 :: v1 :: v2 :: v3 :: v4 :: v5 :: v6 :: v7 :: v8 :: v9 :: v10 :: v11 :: v12 :: v13 :: v14 :: v15 :: v16 :: .ref ah_ :: v18 :: v19 :: v20 :: v21 :: v22 :: v23 :: v24 :: .int (nI (m_lengths + 1)) :: v26 :: .int (nI m_bodyLeft) :: .int (nI 1) :: .int (nI m_greatLength) :: v30 :: v31 :: v32 :: v33 :: v34 :: v35 :: v36 :: v37 :: v38 :: [])), (ah_, .inl (gB g, 4096, .inl fh))] H := hP
      have hD : va_D A [(mm, .inr (7, v0 :: v1 :: v2 :: v3 :: v4 :: v5 :: v6 :: v7 :: v8 :: v9 :: v10 :: v11 :: v12 :: v13 :: v14 :: v15 :: v16 :: .ref ah_ :: v18 :: v19 :: v20 :: v21 :: v22 :: v23 :: v24 :: .int (nI (m_lengths + 1)) :: v26 :: .int (nI m_bodyLeft) :: .int (nI 1) :: .int (nI m_greatLength) :: v30 :: v31 :: v32 :: v33 :: v34 :: v35 :: v36 :: v37 :: v38 :: [])), (ah_, .inl (gB g, 4096, .inl fh))] := hD
      refine lv_goto (tgt := 112) hx hb dX9_contentLength_90 (by decide) ?_
      refine ct_vret (w := [(mm, .inr (7, v0 :: v1 :: v2 :: v3 :: v4 :: v5 :: v6 :: v7 :: v8 :: v9 :: v10 :: v11 :: v12 :: v13 :: v14 :: v15 :: v16 :: .ref ah_ :: v18 :: v19 :: v20 :: v21 :: v22 :: v23 :: v24 :: .int (nI (m_lengths + 1)) :: v26 :: .int (nI m_bodyLeft) :: .int (nI 1) :: .int (nI m_greatLength) :: v30 :: v31 :: v32 :: v33 :: v34 :: v35 :: v36 :: v37 :: v38 :: [])), (ah_, .inl (gB g, 4096, .inl fh))]) hx hb hr hlocks hQ hAe hK (hP.sub [0, 1] rfl) (hD.sub [0, 1] (by decide) rfl) hS (by omega) (by omega) dX9_contentLength_112 ?_
      refine Or.inl (?_)
      exact ⟨rfl, rfl, by first | exact numF_0 (by omega) | (obtain ⟨m, h1, h2⟩ := hE; obtain ⟨m, rfl⟩ : ∃ k, m = k + 1 := ⟨m - 1, by omega⟩; exact numF_1 hr9 (h2.trans (nmL_3 (by omega) hF_54)))⟩
    · skip
      have c40 : ¬ (e0 ≤ a0) := fun z => c40 ((nI_leI (a := e0) (b := a0) (by omega) (by omega)).mpr z)
      refine lv_iload hx hb dX9_contentLength_43 (lv_at hl 1 rfl) ?_
      refine lv_if_eq (tgt := 80) hx hb dX9_contentLength_45 (by decide) (fun _ => ?_) (fun c45 => absurd (by decide) c45)
      refine lv_iload hx hb dX9_contentLength_80 (lv_at hl 1 rfl) ?_
      refine lv_if_ne (tgt := 93) hx hb dX9_contentLength_82 (by decide) (fun c82 => absurd (by decide) c82) (fun _ => ?_)
      refine lv_aload_n hx hb dX9_contentLength_85 rfl (lv_at hl 3 rfl) ?_
      refine lv_iconst (v := nI 1) hx hb dX9_contentLength_86 (by decide) ?_
      refine va_put (D := gD g) (ci := 7) (v := .int (nI 1)) (ty := .boolean) (C := RX9) (T := TX9) (N := 39) hx hb hts hinX9 tyX9 tyX9_ok nmX9 hown hK hP hD hS 0 rfl rfl 28 (by decide) hf142 (fun _ h9 => h9) rfl (by decide +kernel) rfl rfl (Nat.le_of_ble_eq_true rfl) dX9_contentLength_87 (fun H locs hP hD hS => ?_)
      have hP : va_P (gD g) vwCl [(mm, .inr (7, v0 :: v1 :: v2 :: v3 :: v4 :: v5 :: v6 :: v7 :: v8 :: v9 :: v10 :: v11 :: v12 :: v13 :: v14 :: v15 :: v16 :: .ref ah_ :: v18 :: v19 :: v20 :: v21 :: v22 :: v23 :: v24 :: .int (nI (m_lengths + 1)) :: v26 :: .int (nI m_bodyLeft) :: .int (nI 1) :: .int (nI m_greatLength) :: v30 :: v31 :: v32 :: v33 :: v34 :: v35 :: v36 :: v37 :: v38 :: [])), (ah_, .inl (gB g, 4096, .inl fh))] H := hP
      have hD : va_D A [(mm, .inr (7, v0 :: v1 :: v2 :: v3 :: v4 :: v5 :: v6 :: v7 :: v8 :: v9 :: v10 :: v11 :: v12 :: v13 :: v14 :: v15 :: v16 :: .ref ah_ :: v18 :: v19 :: v20 :: v21 :: v22 :: v23 :: v24 :: .int (nI (m_lengths + 1)) :: v26 :: .int (nI m_bodyLeft) :: .int (nI 1) :: .int (nI m_greatLength) :: v30 :: v31 :: v32 :: v33 :: v34 :: v35 :: v36 :: v37 :: v38 :: [])), (ah_, .inl (gB g, 4096, .inl fh))] := hD
      refine lv_goto (tgt := 112) hx hb dX9_contentLength_90 (by decide) ?_
      refine ct_vret (w := [(mm, .inr (7, v0 :: v1 :: v2 :: v3 :: v4 :: v5 :: v6 :: v7 :: v8 :: v9 :: v10 :: v11 :: v12 :: v13 :: v14 :: v15 :: v16 :: .ref ah_ :: v18 :: v19 :: v20 :: v21 :: v22 :: v23 :: v24 :: .int (nI (m_lengths + 1)) :: v26 :: .int (nI m_bodyLeft) :: .int (nI 1) :: .int (nI m_greatLength) :: v30 :: v31 :: v32 :: v33 :: v34 :: v35 :: v36 :: v37 :: v38 :: [])), (ah_, .inl (gB g, 4096, .inl fh))]) hx hb hr hlocks hQ hAe hK (hP.sub [0, 1] rfl) (hD.sub [0, 1] (by decide) rfl) hS (by omega) (by omega) dX9_contentLength_112 ?_
      refine Or.inl (?_)
      exact ⟨rfl, rfl, by first | exact numF_0 (by omega) | (obtain ⟨m, h1, h2⟩ := hE; obtain ⟨m, rfl⟩ : ∃ k, m = k + 1 := ⟨m - 1, by omega⟩; exact numF_1 hr9 (h2.trans (nmL_3 (by omega) hF_54)))⟩
  · skip
    have c16 : ¬ (e0 - a0 < 1) := fun z => c16 ((nI_ltI (a := e0 - a0) (b := 1) (by omega) (by omega)).mpr z)
    refine lv_iload_n hx hb dX9_contentLength_19 rfl (lv_at hl 3 rfl) ?_
    refine lv_iload_n hx hb dX9_contentLength_20 rfl (lv_at hl 2 rfl) ?_
    refine q_isub (v := nI (e0 - a0)) hx hb dX9_contentLength_21 (pk_sub (a := e0) (b := a0) (by omega)) ?_
    refine lv_bipush (v := nI 9) hx hb dX9_contentLength_22 (by decide) ?_
    refine lv_icmp_gt (tgt := 31) hx hb dX9_contentLength_24 (by decide) (fun c24 => ?_) (fun c24 => ?_)
    · skip
      have c24 : 9 < e0 - a0 := (nI_ltI (a := 9) (b := e0 - a0) (by omega) (by omega)).mp c24
      refine lv_iconst (v := nI 0) hx hb dX9_contentLength_31 (by decide) ?_
      refine lv_istore (lv' := [(4, .int (nI 0)), (3, .int (nI 0)), (0, .ref mm), (1, .int (nI a0)), (2, .int (nI e0))]) hx hb dX9_contentLength_32 hl (by decide) rfl (fun ls hl => ?_)
      refine lv_iload_n hx hb dX9_contentLength_34 rfl (lv_at hl 3 rfl) ?_
      refine lv_istore (lv' := [(5, .int (nI a0)), (4, .int (nI 0)), (3, .int (nI 0)), (0, .ref mm), (1, .int (nI a0)), (2, .int (nI e0))]) hx hb dX9_contentLength_35 hl (by decide) rfl (fun ls hl => ?_)
      refine lv_iload hx hb dX9_contentLength_37 (lv_at hl 0 rfl) ?_
      refine lv_iload_n hx hb dX9_contentLength_39 rfl (lv_at hl 5 rfl) ?_
      refine lv_icmp_ge (tgt := 80) hx hb dX9_contentLength_40 (by decide) (fun c40 => ?_) (fun c40 => ?_)
      · skip
        have c40 : e0 ≤ a0 := (nI_leI (a := e0) (b := a0) (by omega) (by omega)).mp c40
        refine lv_iload hx hb dX9_contentLength_80 (lv_at hl 1 rfl) ?_
        refine lv_if_ne (tgt := 93) hx hb dX9_contentLength_82 (by decide) (fun c82 => absurd (by decide) c82) (fun _ => ?_)
        refine lv_aload_n hx hb dX9_contentLength_85 rfl (lv_at hl 3 rfl) ?_
        refine lv_iconst (v := nI 1) hx hb dX9_contentLength_86 (by decide) ?_
        refine va_put (D := gD g) (ci := 7) (v := .int (nI 1)) (ty := .boolean) (C := RX9) (T := TX9) (N := 39) hx hb hts hinX9 tyX9 tyX9_ok nmX9 hown hK hP hD hS 0 rfl rfl 28 (by decide) hf142 (fun _ h9 => h9) rfl (by decide +kernel) rfl rfl (Nat.le_of_ble_eq_true rfl) dX9_contentLength_87 (fun H locs hP hD hS => ?_)
        have hP : va_P (gD g) vwCl [(mm, .inr (7, v0 :: v1 :: v2 :: v3 :: v4 :: v5 :: v6 :: v7 :: v8 :: v9 :: v10 :: v11 :: v12 :: v13 :: v14 :: v15 :: v16 :: .ref ah_ :: v18 :: v19 :: v20 :: v21 :: v22 :: v23 :: v24 :: .int (nI (m_lengths + 1)) :: v26 :: .int (nI m_bodyLeft) :: .int (nI 1) :: .int (nI m_greatLength) :: v30 :: v31 :: v32 :: v33 :: v34 :: v35 :: v36 :: v37 :: v38 :: [])), (ah_, .inl (gB g, 4096, .inl fh))] H := hP
        have hD : va_D A [(mm, .inr (7, v0 :: v1 :: v2 :: v3 :: v4 :: v5 :: v6 :: v7 :: v8 :: v9 :: v10 :: v11 :: v12 :: v13 :: v14 :: v15 :: v16 :: .ref ah_ :: v18 :: v19 :: v20 :: v21 :: v22 :: v23 :: v24 :: .int (nI (m_lengths + 1)) :: v26 :: .int (nI m_bodyLeft) :: .int (nI 1) :: .int (nI m_greatLength) :: v30 :: v31 :: v32 :: v33 :: v34 :: v35 :: v36 :: v37 :: v38 :: [])), (ah_, .inl (gB g, 4096, .inl fh))] := hD
        refine lv_goto (tgt := 112) hx hb dX9_contentLength_90 (by decide) ?_
        refine ct_vret (w := [(mm, .inr (7, v0 :: v1 :: v2 :: v3 :: v4 :: v5 :: v6 :: v7 :: v8 :: v9 :: v10 :: v11 :: v12 :: v13 :: v14 :: v15 :: v16 :: .ref ah_ :: v18 :: v19 :: v20 :: v21 :: v22 :: v23 :: v24 :: .int (nI (m_lengths + 1)) :: v26 :: .int (nI m_bodyLeft) :: .int (nI 1) :: .int (nI m_greatLength) :: v30 :: v31 :: v32 :: v33 :: v34 :: v35 :: v36 :: v37 :: v38 :: [])), (ah_, .inl (gB g, 4096, .inl fh))]) hx hb hr hlocks hQ hAe hK (hP.sub [0, 1] rfl) (hD.sub [0, 1] (by decide) rfl) hS (by omega) (by omega) dX9_contentLength_112 ?_
        refine Or.inl (?_)
        exact ⟨rfl, rfl, by first | exact numF_0 (by omega) | (obtain ⟨m, h1, h2⟩ := hE; obtain ⟨m, rfl⟩ : ∃ k, m = k + 1 := ⟨m - 1, by omega⟩; exact numF_1 hr9 (h2.trans (nmL_3 (by omega) hF_54)))⟩
      · skip
        have c40 : ¬ (e0 ≤ a0) := fun z => c40 ((nI_leI (a := e0) (b := a0) (by omega) (by omega)).mpr z)
        refine lv_iload hx hb dX9_contentLength_43 (lv_at hl 1 rfl) ?_
        refine lv_if_eq (tgt := 80) hx hb dX9_contentLength_45 (by decide) (fun _ => ?_) (fun c45 => absurd (by decide) c45)
        refine lv_iload hx hb dX9_contentLength_80 (lv_at hl 1 rfl) ?_
        refine lv_if_ne (tgt := 93) hx hb dX9_contentLength_82 (by decide) (fun c82 => absurd (by decide) c82) (fun _ => ?_)
        refine lv_aload_n hx hb dX9_contentLength_85 rfl (lv_at hl 3 rfl) ?_
        refine lv_iconst (v := nI 1) hx hb dX9_contentLength_86 (by decide) ?_
        refine va_put (D := gD g) (ci := 7) (v := .int (nI 1)) (ty := .boolean) (C := RX9) (T := TX9) (N := 39) hx hb hts hinX9 tyX9 tyX9_ok nmX9 hown hK hP hD hS 0 rfl rfl 28 (by decide) hf142 (fun _ h9 => h9) rfl (by decide +kernel) rfl rfl (Nat.le_of_ble_eq_true rfl) dX9_contentLength_87 (fun H locs hP hD hS => ?_)
        have hP : va_P (gD g) vwCl [(mm, .inr (7, v0 :: v1 :: v2 :: v3 :: v4 :: v5 :: v6 :: v7 :: v8 :: v9 :: v10 :: v11 :: v12 :: v13 :: v14 :: v15 :: v16 :: .ref ah_ :: v18 :: v19 :: v20 :: v21 :: v22 :: v23 :: v24 :: .int (nI (m_lengths + 1)) :: v26 :: .int (nI m_bodyLeft) :: .int (nI 1) :: .int (nI m_greatLength) :: v30 :: v31 :: v32 :: v33 :: v34 :: v35 :: v36 :: v37 :: v38 :: [])), (ah_, .inl (gB g, 4096, .inl fh))] H := hP
        have hD : va_D A [(mm, .inr (7, v0 :: v1 :: v2 :: v3 :: v4 :: v5 :: v6 :: v7 :: v8 :: v9 :: v10 :: v11 :: v12 :: v13 :: v14 :: v15 :: v16 :: .ref ah_ :: v18 :: v19 :: v20 :: v21 :: v22 :: v23 :: v24 :: .int (nI (m_lengths + 1)) :: v26 :: .int (nI m_bodyLeft) :: .int (nI 1) :: .int (nI m_greatLength) :: v30 :: v31 :: v32 :: v33 :: v34 :: v35 :: v36 :: v37 :: v38 :: [])), (ah_, .inl (gB g, 4096, .inl fh))] := hD
        refine lv_goto (tgt := 112) hx hb dX9_contentLength_90 (by decide) ?_
        refine ct_vret (w := [(mm, .inr (7, v0 :: v1 :: v2 :: v3 :: v4 :: v5 :: v6 :: v7 :: v8 :: v9 :: v10 :: v11 :: v12 :: v13 :: v14 :: v15 :: v16 :: .ref ah_ :: v18 :: v19 :: v20 :: v21 :: v22 :: v23 :: v24 :: .int (nI (m_lengths + 1)) :: v26 :: .int (nI m_bodyLeft) :: .int (nI 1) :: .int (nI m_greatLength) :: v30 :: v31 :: v32 :: v33 :: v34 :: v35 :: v36 :: v37 :: v38 :: [])), (ah_, .inl (gB g, 4096, .inl fh))]) hx hb hr hlocks hQ hAe hK (hP.sub [0, 1] rfl) (hD.sub [0, 1] (by decide) rfl) hS (by omega) (by omega) dX9_contentLength_112 ?_
        refine Or.inl (?_)
        exact ⟨rfl, rfl, by first | exact numF_0 (by omega) | (obtain ⟨m, h1, h2⟩ := hE; obtain ⟨m, rfl⟩ : ∃ k, m = k + 1 := ⟨m - 1, by omega⟩; exact numF_1 hr9 (h2.trans (nmL_3 (by omega) hF_54)))⟩
    · skip
      have c24 : ¬ (9 < e0 - a0) := fun z => c24 ((nI_ltI (a := 9) (b := e0 - a0) (by omega) (by omega)).mpr z)
      refine lv_iconst (v := nI 1) hx hb dX9_contentLength_27 (by decide) ?_
      refine lv_goto (tgt := 32) hx hb dX9_contentLength_28 (by decide) ?_
      refine lv_istore (lv' := [(4, .int (nI 1)), (3, .int (nI 0)), (0, .ref mm), (1, .int (nI a0)), (2, .int (nI e0))]) hx hb dX9_contentLength_32 hl (by decide) rfl (fun ls hl => ?_)
      refine lv_iload_n hx hb dX9_contentLength_34 rfl (lv_at hl 3 rfl) ?_
      refine lv_istore (lv' := [(5, .int (nI a0)), (4, .int (nI 1)), (3, .int (nI 0)), (0, .ref mm), (1, .int (nI a0)), (2, .int (nI e0))]) hx hb dX9_contentLength_35 hl (by decide) rfl (fun ls hl => ?_)
      have K37 : ∀ (N_ : Nat) (i : Nat) (w : Nat), (a0 ≤ i) → (i ≤ e0) → (a0 < e0 ∧ e0 - a0 ≤ 9) → (w < 10 ^ (i - a0)) → (∃ m, e0 < i + m ∧ nmL f e0 (e0 + 1) a0 (nI 0) = nmL f e0 m i (nI w)) → (e0 - i) < N_ → ∀ (H : Heap) (locs : List Loc) (ls : Array Slot), va_P (gD g) vwCl [(mm, .inr (7, v0 :: v1 :: v2 :: v3 :: v4 :: v5 :: v6 :: v7 :: v8 :: v9 :: v10 :: v11 :: v12 :: v13 :: v14 :: v15 :: v16 :: .ref ah_ :: v18 :: v19 :: v20 :: v21 :: v22 :: v23 :: v24 :: .int (nI (m_lengths + 1)) :: v26 :: .int (nI m_bodyLeft) :: .int (nI m_badLength) :: .int (nI m_greatLength) :: v30 :: v31 :: v32 :: v33 :: v34 :: v35 :: v36 :: v37 :: v38 :: [])), (ah_, .inl (gB g, 4096, .inl fh))] H → va_D A [(mm, .inr (7, v0 :: v1 :: v2 :: v3 :: v4 :: v5 :: v6 :: v7 :: v8 :: v9 :: v10 :: v11 :: v12 :: v13 :: v14 :: v15 :: v16 :: .ref ah_ :: v18 :: v19 :: v20 :: v21 :: v22 :: v23 :: v24 :: .int (nI (m_lengths + 1)) :: v26 :: .int (nI m_bodyLeft) :: .int (nI m_badLength) :: .int (nI m_greatLength) :: v30 :: v31 :: v32 :: v33 :: v34 :: v35 :: v36 :: v37 :: v38 :: [])), (ah_, .inl (gB g, 4096, .inl fh))] → va_S A s.heap H locs → lv_has ls 6 [(0, .ref mm), (1, .int (nI a0)), (2, .int (nI e0)), (3, .int (nI w)), (4, .int (nI 1)), (5, .int (nI i))] → W p l e ({ frames := 1, cells := 0, slots := 0, locals := 21 } : Room) s m args below meth c H locs (0) (0) Q (F0 m 37 ls []) := by
        intro N_
        induction N_ with
        | zero => intro i w hi hi2 hr9 hw hE hm_; exact absurd hm_ (Nat.not_lt_zero _)
        | succ N_ ih_K37 =>
          intro i w hi hi2 hr9 hw hE hm_ H locs ls hP hD hS hl
          have hp9 := Nat.pow_le_pow_right (n := 10) (by decide) (show i - a0 ≤ 9 by omega)
          refine lv_iload hx hb dX9_contentLength_37 (lv_at hl 5 rfl) ?_
          refine lv_iload_n hx hb dX9_contentLength_39 rfl (lv_at hl 2 rfl) ?_
          refine lv_icmp_ge (tgt := 80) hx hb dX9_contentLength_40 (by decide) (fun c40 => ?_) (fun c40 => ?_)
          · skip
            have c40 : e0 ≤ i := (nI_leI (a := e0) (b := i) (by omega) (by omega)).mp c40
            refine lv_iload hx hb dX9_contentLength_80 (lv_at hl 4 rfl) ?_
            refine lv_if_ne (tgt := 93) hx hb dX9_contentLength_82 (by decide) (fun _ => ?_) (fun c82 => absurd c82 (by decide))
            refine lv_iload_n hx hb dX9_contentLength_93 rfl (lv_at hl 3 rfl) ?_
            refine lv_ldc hx hb hown (hts (.constant RX9 241 (65536)) (by decide +kernel)) dX9_contentLength_94 ?_
            refine q_top (v := nI 65536) (by decide) ?_
            refine lv_icmp_le (tgt := 107) hx hb dX9_contentLength_96 (by decide) (fun c96 => ?_) (fun c96 => ?_)
            · skip
              have c96 : w ≤ 65536 := (nI_leI (a := w) (b := 65536) (by omega) (by omega)).mp c96
              refine lv_aload_n hx hb dX9_contentLength_107 rfl (lv_at hl 0 rfl) ?_
              refine lv_iload_n hx hb dX9_contentLength_108 rfl (lv_at hl 3 rfl) ?_
              refine va_put (D := gD g) (ci := 7) (v := .int (nI w)) (ty := .int) (C := RX9) (T := TX9) (N := 39) hx hb hts hinX9 tyX9 tyX9_ok nmX9 hown hK hP hD hS 0 rfl rfl 27 (by decide) hf139 (fun _ h9 => h9) rfl (by decide +kernel) rfl rfl (Nat.le_of_ble_eq_true rfl) dX9_contentLength_109 (fun H locs hP hD hS => ?_)
              have hP : va_P (gD g) vwCl [(mm, .inr (7, v0 :: v1 :: v2 :: v3 :: v4 :: v5 :: v6 :: v7 :: v8 :: v9 :: v10 :: v11 :: v12 :: v13 :: v14 :: v15 :: v16 :: .ref ah_ :: v18 :: v19 :: v20 :: v21 :: v22 :: v23 :: v24 :: .int (nI (m_lengths + 1)) :: v26 :: .int (nI w) :: .int (nI m_badLength) :: .int (nI m_greatLength) :: v30 :: v31 :: v32 :: v33 :: v34 :: v35 :: v36 :: v37 :: v38 :: [])), (ah_, .inl (gB g, 4096, .inl fh))] H := hP
              have hD : va_D A [(mm, .inr (7, v0 :: v1 :: v2 :: v3 :: v4 :: v5 :: v6 :: v7 :: v8 :: v9 :: v10 :: v11 :: v12 :: v13 :: v14 :: v15 :: v16 :: .ref ah_ :: v18 :: v19 :: v20 :: v21 :: v22 :: v23 :: v24 :: .int (nI (m_lengths + 1)) :: v26 :: .int (nI w) :: .int (nI m_badLength) :: .int (nI m_greatLength) :: v30 :: v31 :: v32 :: v33 :: v34 :: v35 :: v36 :: v37 :: v38 :: [])), (ah_, .inl (gB g, 4096, .inl fh))] := hD
              refine ct_vret (w := [(mm, .inr (7, v0 :: v1 :: v2 :: v3 :: v4 :: v5 :: v6 :: v7 :: v8 :: v9 :: v10 :: v11 :: v12 :: v13 :: v14 :: v15 :: v16 :: .ref ah_ :: v18 :: v19 :: v20 :: v21 :: v22 :: v23 :: v24 :: .int (nI (m_lengths + 1)) :: v26 :: .int (nI w) :: .int (nI m_badLength) :: .int (nI m_greatLength) :: v30 :: v31 :: v32 :: v33 :: v34 :: v35 :: v36 :: v37 :: v38 :: [])), (ah_, .inl (gB g, 4096, .inl fh))]) hx hb hr hlocks hQ hAe hK (hP.sub [0, 1] rfl) (hD.sub [0, 1] (by decide) rfl) hS (by omega) (by omega) dX9_contentLength_112 ?_
              refine Or.inr (Or.inr ((?_)))
              exact ⟨w, rfl, rfl, by exact ⟨(by obtain ⟨m, h1, h2⟩ := hE; exact numF_2 hr9 (h2.trans (nmL_1 (by omega)))), by omega⟩⟩
            · skip
              have c96 : ¬ (w ≤ 65536) := fun z => c96 ((nI_leI (a := w) (b := 65536) (by omega) (by omega)).mpr z)
              refine lv_aload_n hx hb dX9_contentLength_99 rfl (lv_at hl 0 rfl) ?_
              refine lv_iconst (v := nI 1) hx hb dX9_contentLength_100 (by decide) ?_
              refine va_put (D := gD g) (ci := 7) (v := .int (nI 1)) (ty := .boolean) (C := RX9) (T := TX9) (N := 39) hx hb hts hinX9 tyX9 tyX9_ok nmX9 hown hK hP hD hS 0 rfl rfl 29 (by decide) hf145 (fun _ h9 => h9) rfl (by decide +kernel) rfl rfl (Nat.le_of_ble_eq_true rfl) dX9_contentLength_101 (fun H locs hP hD hS => ?_)
              have hP : va_P (gD g) vwCl [(mm, .inr (7, v0 :: v1 :: v2 :: v3 :: v4 :: v5 :: v6 :: v7 :: v8 :: v9 :: v10 :: v11 :: v12 :: v13 :: v14 :: v15 :: v16 :: .ref ah_ :: v18 :: v19 :: v20 :: v21 :: v22 :: v23 :: v24 :: .int (nI (m_lengths + 1)) :: v26 :: .int (nI m_bodyLeft) :: .int (nI m_badLength) :: .int (nI 1) :: v30 :: v31 :: v32 :: v33 :: v34 :: v35 :: v36 :: v37 :: v38 :: [])), (ah_, .inl (gB g, 4096, .inl fh))] H := hP
              have hD : va_D A [(mm, .inr (7, v0 :: v1 :: v2 :: v3 :: v4 :: v5 :: v6 :: v7 :: v8 :: v9 :: v10 :: v11 :: v12 :: v13 :: v14 :: v15 :: v16 :: .ref ah_ :: v18 :: v19 :: v20 :: v21 :: v22 :: v23 :: v24 :: .int (nI (m_lengths + 1)) :: v26 :: .int (nI m_bodyLeft) :: .int (nI m_badLength) :: .int (nI 1) :: v30 :: v31 :: v32 :: v33 :: v34 :: v35 :: v36 :: v37 :: v38 :: [])), (ah_, .inl (gB g, 4096, .inl fh))] := hD
              refine lv_goto (tgt := 112) hx hb dX9_contentLength_104 (by decide) ?_
              refine ct_vret (w := [(mm, .inr (7, v0 :: v1 :: v2 :: v3 :: v4 :: v5 :: v6 :: v7 :: v8 :: v9 :: v10 :: v11 :: v12 :: v13 :: v14 :: v15 :: v16 :: .ref ah_ :: v18 :: v19 :: v20 :: v21 :: v22 :: v23 :: v24 :: .int (nI (m_lengths + 1)) :: v26 :: .int (nI m_bodyLeft) :: .int (nI m_badLength) :: .int (nI 1) :: v30 :: v31 :: v32 :: v33 :: v34 :: v35 :: v36 :: v37 :: v38 :: [])), (ah_, .inl (gB g, 4096, .inl fh))]) hx hb hr hlocks hQ hAe hK (hP.sub [0, 1] rfl) (hD.sub [0, 1] (by decide) rfl) hS (by omega) (by omega) dX9_contentLength_112 ?_
              refine Or.inr (Or.inl (?_))
              exact ⟨rfl, rfl, by rw [show numF f a0 e0 = nI w from (by obtain ⟨m, h1, h2⟩ := hE; exact numF_2 hr9 (h2.trans (nmL_1 (by omega))))]; exact ⟨nI_pos (by omega), nI_lt (by omega) (by omega)⟩⟩
          · skip
            have c40 : ¬ (e0 ≤ i) := fun z => c40 ((nI_leI (a := e0) (b := i) (by omega) (by omega)).mpr z)
            refine lv_iload hx hb dX9_contentLength_43 (lv_at hl 4 rfl) ?_
            refine lv_if_eq (tgt := 80) hx hb dX9_contentLength_45 (by decide) (fun c45 => absurd c45 (by decide)) (fun _ => ?_)
            refine lv_aload_n hx hb dX9_contentLength_48 rfl (lv_at hl 0 rfl) ?_
            refine lv_iload hx hb dX9_contentLength_49 (lv_at hl 5 rfl) ?_
            refine ct_callV (wr := []) hx hb hml hown hts hK hP hD hS hA hG hl.1 (c_headAt l g mm ((v0 : Value)) ((v1 : Value)) ((v2 : Value)) ((v3 : Value)) ((v4 : Value)) ((v5 : Value)) ((v6 : Value)) ((v7 : Value)) ((v8 : Value)) ((v9 : Value)) ((v10 : Value)) ((v11 : Value)) ((v12 : Value)) ((v13 : Value)) ((v14 : Value)) ((v15 : Value)) ((v16 : Value)) ah_ ((v18 : Value)) ((v19 : Value)) ((v20 : Value)) ((v21 : Value)) ((v22 : Value)) ((v23 : Value)) ((v24 : Value)) ((.int (nI (m_lengths + 1)) : Value)) ((v26 : Value)) ((.int (nI m_bodyLeft) : Value)) ((.int (nI m_badLength) : Value)) ((.int (nI m_greatLength) : Value)) ((v30 : Value)) ((v31 : Value)) ((v32 : Value)) ((v33 : Value)) ((v34 : Value)) ((v35 : Value)) ((v36 : Value)) ((v37 : Value)) ((v38 : Value)) fh f hn i (by omega) (by assumption) (by omega)) (cwV 1 hts gX9_contentLength_X9_headAt rfl rfl rfl (by decide +kernel) ⟨Nat.le_of_ble_eq_true rfl, Nat.le_of_ble_eq_true rfl⟩) (va_recv hK hP (ci := 7) (q0 := 0) rfl rfl) rfl rfl (Nat.le_of_ble_eq_true rfl) dX9_contentLength_51 ⟨show 0 + 0 ≤ 0 by omega, show 0 + 0 ≤ 0 by omega⟩ [0, 1] [] rfl rfl (by decide) (by decide) (by decide) (fun r_ w_ H locs hp_ hP hD hS => ?_)
            obtain ⟨rfl, rfl⟩ := hp_
            have hP : va_P (gD g) vwCl [(mm, .inr (7, v0 :: v1 :: v2 :: v3 :: v4 :: v5 :: v6 :: v7 :: v8 :: v9 :: v10 :: v11 :: v12 :: v13 :: v14 :: v15 :: v16 :: .ref ah_ :: v18 :: v19 :: v20 :: v21 :: v22 :: v23 :: v24 :: .int (nI (m_lengths + 1)) :: v26 :: .int (nI m_bodyLeft) :: .int (nI m_badLength) :: .int (nI m_greatLength) :: v30 :: v31 :: v32 :: v33 :: v34 :: v35 :: v36 :: v37 :: v38 :: [])), (ah_, .inl (gB g, 4096, .inl fh))] H := hP
            have hD : va_D A [(mm, .inr (7, v0 :: v1 :: v2 :: v3 :: v4 :: v5 :: v6 :: v7 :: v8 :: v9 :: v10 :: v11 :: v12 :: v13 :: v14 :: v15 :: v16 :: .ref ah_ :: v18 :: v19 :: v20 :: v21 :: v22 :: v23 :: v24 :: .int (nI (m_lengths + 1)) :: v26 :: .int (nI m_bodyLeft) :: .int (nI m_badLength) :: .int (nI m_greatLength) :: v30 :: v31 :: v32 :: v33 :: v34 :: v35 :: v36 :: v37 :: v38 :: [])), (ah_, .inl (gB g, 4096, .inl fh))] := hD
            refine W.eq (g2 := F0 m 54 ls [.int (f i &&& 255)]) rfl ?_
            refine ct_callS (wr := [(mm, .inr (7, v0 :: v1 :: v2 :: v3 :: v4 :: v5 :: v6 :: v7 :: v8 :: v9 :: v10 :: v11 :: v12 :: v13 :: v14 :: v15 :: v16 :: .ref ah_ :: v18 :: v19 :: v20 :: v21 :: v22 :: v23 :: v24 :: .int (nI (m_lengths + 1)) :: v26 :: .int (nI m_bodyLeft) :: .int (nI m_badLength) :: .int (nI m_greatLength) :: v30 :: v31 :: v32 :: v33 :: v34 :: v35 :: v36 :: v37 :: v38 :: [])), (ah_, .inl (gB g, 4096, .inl fh))]) hx hb hml hown hts hK hP hD hS hA hG hl.1 (c_mDigit l g (f i &&& 255) ) (va_cwS 1 hts gX9_contentLength_X9_isDigit rfl rfl rfl (by decide +kernel) ⟨Nat.le_of_ble_eq_true rfl, Nat.le_of_ble_eq_true rfl⟩) rfl rfl (Nat.le_of_ble_eq_true rfl) dX9_contentLength_54 ⟨show 0 + 0 ≤ 0 by omega, show 0 + 0 ≤ 0 by omega⟩ [] [0, 1] rfl rfl (by decide) (by decide) (by decide) (fun r_ w_ H locs hp_ hP hD hS => ?_)
            rcases hp_ with ⟨rfl, rfl, hT_54⟩ | ⟨rfl, rfl, hF_54⟩
            · skip
              have hP : va_P (gD g) vwCl [(mm, .inr (7, v0 :: v1 :: v2 :: v3 :: v4 :: v5 :: v6 :: v7 :: v8 :: v9 :: v10 :: v11 :: v12 :: v13 :: v14 :: v15 :: v16 :: .ref ah_ :: v18 :: v19 :: v20 :: v21 :: v22 :: v23 :: v24 :: .int (nI (m_lengths + 1)) :: v26 :: .int (nI m_bodyLeft) :: .int (nI m_badLength) :: .int (nI m_greatLength) :: v30 :: v31 :: v32 :: v33 :: v34 :: v35 :: v36 :: v37 :: v38 :: [])), (ah_, .inl (gB g, 4096, .inl fh))] H := hP
              have hD : va_D A [(mm, .inr (7, v0 :: v1 :: v2 :: v3 :: v4 :: v5 :: v6 :: v7 :: v8 :: v9 :: v10 :: v11 :: v12 :: v13 :: v14 :: v15 :: v16 :: .ref ah_ :: v18 :: v19 :: v20 :: v21 :: v22 :: v23 :: v24 :: .int (nI (m_lengths + 1)) :: v26 :: .int (nI m_bodyLeft) :: .int (nI m_badLength) :: .int (nI m_greatLength) :: v30 :: v31 :: v32 :: v33 :: v34 :: v35 :: v36 :: v37 :: v38 :: [])), (ah_, .inl (gB g, 4096, .inl fh))] := hD
              have hT_54 : pDigit (f i &&& 255) := hT_54
              refine W.eq (g2 := F0 m 57 ls [.int (nI 1)]) rfl ?_
              have hd := dig_u8 hT_54
              have hp10 := Nat.pow_le_pow_right (n := 10) (by decide) (show i - a0 ≤ 8 by omega)
              have ev9 : (nI w * nI 10) + (f i &&& 255) - nI 48 = nI (10 * w + u8 (f i) - 48) := by rw [u8_eq, pk_mul, nI_add, pk_sub (by omega), Nat.mul_comm w 10]
              refine lv_istore (lv' := [(4, .int (nI 1)), (0, .ref mm), (1, .int (nI a0)), (2, .int (nI e0)), (3, .int (nI w)), (5, .int (nI i))]) hx hb dX9_contentLength_57 hl (by decide) rfl (fun ls hl => ?_)
              refine lv_bipush (v := nI 10) hx hb dX9_contentLength_59 (by decide) ?_
              refine lv_iload_n hx hb dX9_contentLength_61 rfl (lv_at hl 4 rfl) ?_
              refine q_imul (v := nI (10 * w)) hx hb dX9_contentLength_62 (pk_mul 10 w) ?_
              refine lv_aload_n hx hb dX9_contentLength_63 rfl (lv_at hl 1 rfl) ?_
              refine lv_iload hx hb dX9_contentLength_64 (lv_at hl 5 rfl) ?_
              refine ct_callV (wr := []) hx hb hml hown hts hK hP hD hS hA hG hl.1 (c_headAt l g mm ((v0 : Value)) ((v1 : Value)) ((v2 : Value)) ((v3 : Value)) ((v4 : Value)) ((v5 : Value)) ((v6 : Value)) ((v7 : Value)) ((v8 : Value)) ((v9 : Value)) ((v10 : Value)) ((v11 : Value)) ((v12 : Value)) ((v13 : Value)) ((v14 : Value)) ((v15 : Value)) ((v16 : Value)) ah_ ((v18 : Value)) ((v19 : Value)) ((v20 : Value)) ((v21 : Value)) ((v22 : Value)) ((v23 : Value)) ((v24 : Value)) ((.int (nI (m_lengths + 1)) : Value)) ((v26 : Value)) ((.int (nI m_bodyLeft) : Value)) ((.int (nI m_badLength) : Value)) ((.int (nI m_greatLength) : Value)) ((v30 : Value)) ((v31 : Value)) ((v32 : Value)) ((v33 : Value)) ((v34 : Value)) ((v35 : Value)) ((v36 : Value)) ((v37 : Value)) ((v38 : Value)) fh f hn i (by omega) (by assumption) (by omega)) (cwV 1 hts gX9_contentLength_X9_headAt rfl rfl rfl (by decide +kernel) ⟨Nat.le_of_ble_eq_true rfl, Nat.le_of_ble_eq_true rfl⟩) (va_recv hK hP (ci := 7) (q0 := 0) rfl rfl) rfl rfl (Nat.le_of_ble_eq_true rfl) dX9_contentLength_66 ⟨show 0 + 0 ≤ 0 by omega, show 0 + 0 ≤ 0 by omega⟩ [0, 1] [] rfl rfl (by decide) (by decide) (by decide) (fun r_ w_ H locs hp_ hP hD hS => ?_)
              obtain ⟨rfl, rfl⟩ := hp_
              have hP : va_P (gD g) vwCl [(mm, .inr (7, v0 :: v1 :: v2 :: v3 :: v4 :: v5 :: v6 :: v7 :: v8 :: v9 :: v10 :: v11 :: v12 :: v13 :: v14 :: v15 :: v16 :: .ref ah_ :: v18 :: v19 :: v20 :: v21 :: v22 :: v23 :: v24 :: .int (nI (m_lengths + 1)) :: v26 :: .int (nI m_bodyLeft) :: .int (nI m_badLength) :: .int (nI m_greatLength) :: v30 :: v31 :: v32 :: v33 :: v34 :: v35 :: v36 :: v37 :: v38 :: [])), (ah_, .inl (gB g, 4096, .inl fh))] H := hP
              have hD : va_D A [(mm, .inr (7, v0 :: v1 :: v2 :: v3 :: v4 :: v5 :: v6 :: v7 :: v8 :: v9 :: v10 :: v11 :: v12 :: v13 :: v14 :: v15 :: v16 :: .ref ah_ :: v18 :: v19 :: v20 :: v21 :: v22 :: v23 :: v24 :: .int (nI (m_lengths + 1)) :: v26 :: .int (nI m_bodyLeft) :: .int (nI m_badLength) :: .int (nI m_greatLength) :: v30 :: v31 :: v32 :: v33 :: v34 :: v35 :: v36 :: v37 :: v38 :: [])), (ah_, .inl (gB g, 4096, .inl fh))] := hD
              refine W.eq (g2 := F0 m 69 ls [.int (f i &&& 255), .int (nI (10 * w))]) rfl ?_
              have hu8 := u8_lt (f i)
              refine q_top (v := nI (u8 (f i))) (u8_eq _) ?_
              refine q_iadd (v := nI (10 * w + (u8 (f i)))) hx hb dX9_contentLength_69 (nI_add (10 * w) (u8 (f i))) ?_
              refine lv_bipush (v := nI 48) hx hb dX9_contentLength_70 (by decide) ?_
              refine q_isub (v := nI ((10 * w + (u8 (f i))) - 48)) hx hb dX9_contentLength_72 (pk_sub (a := 10 * w + (u8 (f i))) (b := 48) (by omega)) ?_
              refine lv_istore_n (lv' := [(3, .int (nI ((10 * w + (u8 (f i))) - 48))), (4, .int (nI 1)), (0, .ref mm), (1, .int (nI a0)), (2, .int (nI e0)), (5, .int (nI i))]) hx hb dX9_contentLength_73 rfl hl (by decide) rfl (fun ls hl => ?_)
              refine lv_iinc (v := nI (i + 1)) (lv' := [(5, .int (nI (i + 1))), (3, .int (nI ((10 * w + (u8 (f i))) - 48))), (4, .int (nI 1)), (0, .ref mm), (1, .int (nI a0)), (2, .int (nI e0))]) hx hb dX9_contentLength_74 hl (k := 5) rfl (nI_inc i 1) (by decide) rfl (fun ls hl => ?_)
              refine lv_goto (tgt := 37) hx hb dX9_contentLength_77 (by decide) ?_
              exact ih_K37 (i + 1) ((10 * w + (u8 (f i))) - 48) (by omega) (by omega) (by omega) (by rw [show i + 1 - a0 = (i - a0) + 1 by omega, Nat.pow_succ]; omega) (by (obtain ⟨m, h1, h2⟩ := hE; obtain ⟨m, rfl⟩ : ∃ k, m = k + 1 := ⟨m - 1, by omega⟩; exact ⟨m, by omega, by rw [h2, nmL_2 (by omega) hT_54, ev9]⟩)) (by omega) _ _ _ (hP.sub [0, 1] rfl) (hD.sub [0, 1] (by decide) rfl) hS (lv_sub hl [3, 4, 5, 1, 2, 0] rfl)
            · skip
              have hP : va_P (gD g) vwCl [(mm, .inr (7, v0 :: v1 :: v2 :: v3 :: v4 :: v5 :: v6 :: v7 :: v8 :: v9 :: v10 :: v11 :: v12 :: v13 :: v14 :: v15 :: v16 :: .ref ah_ :: v18 :: v19 :: v20 :: v21 :: v22 :: v23 :: v24 :: .int (nI (m_lengths + 1)) :: v26 :: .int (nI m_bodyLeft) :: .int (nI m_badLength) :: .int (nI m_greatLength) :: v30 :: v31 :: v32 :: v33 :: v34 :: v35 :: v36 :: v37 :: v38 :: [])), (ah_, .inl (gB g, 4096, .inl fh))] H := hP
              have hD : va_D A [(mm, .inr (7, v0 :: v1 :: v2 :: v3 :: v4 :: v5 :: v6 :: v7 :: v8 :: v9 :: v10 :: v11 :: v12 :: v13 :: v14 :: v15 :: v16 :: .ref ah_ :: v18 :: v19 :: v20 :: v21 :: v22 :: v23 :: v24 :: .int (nI (m_lengths + 1)) :: v26 :: .int (nI m_bodyLeft) :: .int (nI m_badLength) :: .int (nI m_greatLength) :: v30 :: v31 :: v32 :: v33 :: v34 :: v35 :: v36 :: v37 :: v38 :: [])), (ah_, .inl (gB g, 4096, .inl fh))] := hD
              have hF_54 : ¬ (pDigit (f i &&& 255)) := hF_54
              refine W.eq (g2 := F0 m 57 ls [.int (nI 0)]) rfl ?_
              refine lv_istore (lv' := [(4, .int (nI 0)), (0, .ref mm), (1, .int (nI a0)), (2, .int (nI e0)), (3, .int (nI w)), (5, .int (nI i))]) hx hb dX9_contentLength_57 hl (by decide) rfl (fun ls hl => ?_)
              refine lv_bipush (v := nI 10) hx hb dX9_contentLength_59 (by decide) ?_
              refine lv_iload_n hx hb dX9_contentLength_61 rfl (lv_at hl 4 rfl) ?_
              refine q_imul (v := nI (10 * w)) hx hb dX9_contentLength_62 (pk_mul 10 w) ?_
              refine lv_aload_n hx hb dX9_contentLength_63 rfl (lv_at hl 1 rfl) ?_
              refine lv_iload hx hb dX9_contentLength_64 (lv_at hl 5 rfl) ?_
              refine ct_callV (wr := []) hx hb hml hown hts hK hP hD hS hA hG hl.1 (c_headAt l g mm ((v0 : Value)) ((v1 : Value)) ((v2 : Value)) ((v3 : Value)) ((v4 : Value)) ((v5 : Value)) ((v6 : Value)) ((v7 : Value)) ((v8 : Value)) ((v9 : Value)) ((v10 : Value)) ((v11 : Value)) ((v12 : Value)) ((v13 : Value)) ((v14 : Value)) ((v15 : Value)) ((v16 : Value)) ah_ ((v18 : Value)) ((v19 : Value)) ((v20 : Value)) ((v21 : Value)) ((v22 : Value)) ((v23 : Value)) ((v24 : Value)) ((.int (nI (m_lengths + 1)) : Value)) ((v26 : Value)) ((.int (nI m_bodyLeft) : Value)) ((.int (nI m_badLength) : Value)) ((.int (nI m_greatLength) : Value)) ((v30 : Value)) ((v31 : Value)) ((v32 : Value)) ((v33 : Value)) ((v34 : Value)) ((v35 : Value)) ((v36 : Value)) ((v37 : Value)) ((v38 : Value)) fh f hn i (by omega) (by assumption) (by omega)) (cwV 1 hts gX9_contentLength_X9_headAt rfl rfl rfl (by decide +kernel) ⟨Nat.le_of_ble_eq_true rfl, Nat.le_of_ble_eq_true rfl⟩) (va_recv hK hP (ci := 7) (q0 := 0) rfl rfl) rfl rfl (Nat.le_of_ble_eq_true rfl) dX9_contentLength_66 ⟨show 0 + 0 ≤ 0 by omega, show 0 + 0 ≤ 0 by omega⟩ [0, 1] [] rfl rfl (by decide) (by decide) (by decide) (fun r_ w_ H locs hp_ hP hD hS => ?_)
              obtain ⟨rfl, rfl⟩ := hp_
              have hP : va_P (gD g) vwCl [(mm, .inr (7, v0 :: v1 :: v2 :: v3 :: v4 :: v5 :: v6 :: v7 :: v8 :: v9 :: v10 :: v11 :: v12 :: v13 :: v14 :: v15 :: v16 :: .ref ah_ :: v18 :: v19 :: v20 :: v21 :: v22 :: v23 :: v24 :: .int (nI (m_lengths + 1)) :: v26 :: .int (nI m_bodyLeft) :: .int (nI m_badLength) :: .int (nI m_greatLength) :: v30 :: v31 :: v32 :: v33 :: v34 :: v35 :: v36 :: v37 :: v38 :: [])), (ah_, .inl (gB g, 4096, .inl fh))] H := hP
              have hD : va_D A [(mm, .inr (7, v0 :: v1 :: v2 :: v3 :: v4 :: v5 :: v6 :: v7 :: v8 :: v9 :: v10 :: v11 :: v12 :: v13 :: v14 :: v15 :: v16 :: .ref ah_ :: v18 :: v19 :: v20 :: v21 :: v22 :: v23 :: v24 :: .int (nI (m_lengths + 1)) :: v26 :: .int (nI m_bodyLeft) :: .int (nI m_badLength) :: .int (nI m_greatLength) :: v30 :: v31 :: v32 :: v33 :: v34 :: v35 :: v36 :: v37 :: v38 :: [])), (ah_, .inl (gB g, 4096, .inl fh))] := hD
              refine W.eq (g2 := F0 m 69 ls [.int (f i &&& 255), .int (nI (10 * w))]) rfl ?_
              have hu8 := u8_lt (f i)
              refine q_top (v := nI (u8 (f i))) (u8_eq _) ?_
              refine q_iadd (v := nI (10 * w + (u8 (f i)))) hx hb dX9_contentLength_69 (nI_add (10 * w) (u8 (f i))) ?_
              refine lv_bipush (v := nI 48) hx hb dX9_contentLength_70 (by decide) ?_
              refine q_isub (v := nI (10 * w + u8 (f i)) - nI 48) hx hb dX9_contentLength_72 (rfl) ?_
              refine lv_istore_n (lv' := [(3, .int (nI (10 * w + u8 (f i)) - nI 48)), (4, .int (nI 0)), (0, .ref mm), (1, .int (nI a0)), (2, .int (nI e0)), (5, .int (nI i))]) hx hb dX9_contentLength_73 rfl hl (by decide) rfl (fun ls hl => ?_)
              refine lv_iinc (v := nI (i + 1)) (lv' := [(5, .int (nI (i + 1))), (3, .int (nI (10 * w + u8 (f i)) - nI 48)), (4, .int (nI 0)), (0, .ref mm), (1, .int (nI a0)), (2, .int (nI e0))]) hx hb dX9_contentLength_74 hl (k := 5) rfl (nI_inc i 1) (by decide) rfl (fun ls hl => ?_)
              refine lv_goto (tgt := 37) hx hb dX9_contentLength_77 (by decide) ?_
              refine lv_iload hx hb dX9_contentLength_37 (lv_at hl 0 rfl) ?_
              refine lv_iload_n hx hb dX9_contentLength_39 rfl (lv_at hl 5 rfl) ?_
              refine lv_icmp_ge (tgt := 80) hx hb dX9_contentLength_40 (by decide) (fun c40 => ?_) (fun c40 => ?_)
              · skip
                have c40 : e0 ≤ i + 1 := (nI_leI (a := e0) (b := i + 1) (by omega) (by omega)).mp c40
                refine lv_iload hx hb dX9_contentLength_80 (lv_at hl 2 rfl) ?_
                refine lv_if_ne (tgt := 93) hx hb dX9_contentLength_82 (by decide) (fun c82 => absurd (by decide) c82) (fun _ => ?_)
                refine lv_aload_n hx hb dX9_contentLength_85 rfl (lv_at hl 3 rfl) ?_
                refine lv_iconst (v := nI 1) hx hb dX9_contentLength_86 (by decide) ?_
                refine va_put (D := gD g) (ci := 7) (v := .int (nI 1)) (ty := .boolean) (C := RX9) (T := TX9) (N := 39) hx hb hts hinX9 tyX9 tyX9_ok nmX9 hown hK hP hD hS 0 rfl rfl 28 (by decide) hf142 (fun _ h9 => h9) rfl (by decide +kernel) rfl rfl (Nat.le_of_ble_eq_true rfl) dX9_contentLength_87 (fun H locs hP hD hS => ?_)
                have hP : va_P (gD g) vwCl [(mm, .inr (7, v0 :: v1 :: v2 :: v3 :: v4 :: v5 :: v6 :: v7 :: v8 :: v9 :: v10 :: v11 :: v12 :: v13 :: v14 :: v15 :: v16 :: .ref ah_ :: v18 :: v19 :: v20 :: v21 :: v22 :: v23 :: v24 :: .int (nI (m_lengths + 1)) :: v26 :: .int (nI m_bodyLeft) :: .int (nI 1) :: .int (nI m_greatLength) :: v30 :: v31 :: v32 :: v33 :: v34 :: v35 :: v36 :: v37 :: v38 :: [])), (ah_, .inl (gB g, 4096, .inl fh))] H := hP
                have hD : va_D A [(mm, .inr (7, v0 :: v1 :: v2 :: v3 :: v4 :: v5 :: v6 :: v7 :: v8 :: v9 :: v10 :: v11 :: v12 :: v13 :: v14 :: v15 :: v16 :: .ref ah_ :: v18 :: v19 :: v20 :: v21 :: v22 :: v23 :: v24 :: .int (nI (m_lengths + 1)) :: v26 :: .int (nI m_bodyLeft) :: .int (nI 1) :: .int (nI m_greatLength) :: v30 :: v31 :: v32 :: v33 :: v34 :: v35 :: v36 :: v37 :: v38 :: [])), (ah_, .inl (gB g, 4096, .inl fh))] := hD
                refine lv_goto (tgt := 112) hx hb dX9_contentLength_90 (by decide) ?_
                refine ct_vret (w := [(mm, .inr (7, v0 :: v1 :: v2 :: v3 :: v4 :: v5 :: v6 :: v7 :: v8 :: v9 :: v10 :: v11 :: v12 :: v13 :: v14 :: v15 :: v16 :: .ref ah_ :: v18 :: v19 :: v20 :: v21 :: v22 :: v23 :: v24 :: .int (nI (m_lengths + 1)) :: v26 :: .int (nI m_bodyLeft) :: .int (nI 1) :: .int (nI m_greatLength) :: v30 :: v31 :: v32 :: v33 :: v34 :: v35 :: v36 :: v37 :: v38 :: [])), (ah_, .inl (gB g, 4096, .inl fh))]) hx hb hr hlocks hQ hAe hK (hP.sub [0, 1] rfl) (hD.sub [0, 1] (by decide) rfl) hS (by omega) (by omega) dX9_contentLength_112 ?_
                refine Or.inl (?_)
                exact ⟨rfl, rfl, by first | exact numF_0 (by omega) | (obtain ⟨m, h1, h2⟩ := hE; obtain ⟨m, rfl⟩ : ∃ k, m = k + 1 := ⟨m - 1, by omega⟩; exact numF_1 hr9 (h2.trans (nmL_3 (by omega) hF_54)))⟩
              · skip
                have c40 : ¬ (e0 ≤ i + 1) := fun z => c40 ((nI_leI (a := e0) (b := i + 1) (by omega) (by omega)).mpr z)
                refine lv_iload hx hb dX9_contentLength_43 (lv_at hl 2 rfl) ?_
                refine lv_if_eq (tgt := 80) hx hb dX9_contentLength_45 (by decide) (fun _ => ?_) (fun c45 => absurd (by decide) c45)
                refine lv_iload hx hb dX9_contentLength_80 (lv_at hl 2 rfl) ?_
                refine lv_if_ne (tgt := 93) hx hb dX9_contentLength_82 (by decide) (fun c82 => absurd (by decide) c82) (fun _ => ?_)
                refine lv_aload_n hx hb dX9_contentLength_85 rfl (lv_at hl 3 rfl) ?_
                refine lv_iconst (v := nI 1) hx hb dX9_contentLength_86 (by decide) ?_
                refine va_put (D := gD g) (ci := 7) (v := .int (nI 1)) (ty := .boolean) (C := RX9) (T := TX9) (N := 39) hx hb hts hinX9 tyX9 tyX9_ok nmX9 hown hK hP hD hS 0 rfl rfl 28 (by decide) hf142 (fun _ h9 => h9) rfl (by decide +kernel) rfl rfl (Nat.le_of_ble_eq_true rfl) dX9_contentLength_87 (fun H locs hP hD hS => ?_)
                have hP : va_P (gD g) vwCl [(mm, .inr (7, v0 :: v1 :: v2 :: v3 :: v4 :: v5 :: v6 :: v7 :: v8 :: v9 :: v10 :: v11 :: v12 :: v13 :: v14 :: v15 :: v16 :: .ref ah_ :: v18 :: v19 :: v20 :: v21 :: v22 :: v23 :: v24 :: .int (nI (m_lengths + 1)) :: v26 :: .int (nI m_bodyLeft) :: .int (nI 1) :: .int (nI m_greatLength) :: v30 :: v31 :: v32 :: v33 :: v34 :: v35 :: v36 :: v37 :: v38 :: [])), (ah_, .inl (gB g, 4096, .inl fh))] H := hP
                have hD : va_D A [(mm, .inr (7, v0 :: v1 :: v2 :: v3 :: v4 :: v5 :: v6 :: v7 :: v8 :: v9 :: v10 :: v11 :: v12 :: v13 :: v14 :: v15 :: v16 :: .ref ah_ :: v18 :: v19 :: v20 :: v21 :: v22 :: v23 :: v24 :: .int (nI (m_lengths + 1)) :: v26 :: .int (nI m_bodyLeft) :: .int (nI 1) :: .int (nI m_greatLength) :: v30 :: v31 :: v32 :: v33 :: v34 :: v35 :: v36 :: v37 :: v38 :: [])), (ah_, .inl (gB g, 4096, .inl fh))] := hD
                refine lv_goto (tgt := 112) hx hb dX9_contentLength_90 (by decide) ?_
                refine ct_vret (w := [(mm, .inr (7, v0 :: v1 :: v2 :: v3 :: v4 :: v5 :: v6 :: v7 :: v8 :: v9 :: v10 :: v11 :: v12 :: v13 :: v14 :: v15 :: v16 :: .ref ah_ :: v18 :: v19 :: v20 :: v21 :: v22 :: v23 :: v24 :: .int (nI (m_lengths + 1)) :: v26 :: .int (nI m_bodyLeft) :: .int (nI 1) :: .int (nI m_greatLength) :: v30 :: v31 :: v32 :: v33 :: v34 :: v35 :: v36 :: v37 :: v38 :: [])), (ah_, .inl (gB g, 4096, .inl fh))]) hx hb hr hlocks hQ hAe hK (hP.sub [0, 1] rfl) (hD.sub [0, 1] (by decide) rfl) hS (by omega) (by omega) dX9_contentLength_112 ?_
                refine Or.inl (?_)
                exact ⟨rfl, rfl, by first | exact numF_0 (by omega) | (obtain ⟨m, h1, h2⟩ := hE; obtain ⟨m, rfl⟩ : ∃ k, m = k + 1 := ⟨m - 1, by omega⟩; exact numF_1 hr9 (h2.trans (nmL_3 (by omega) hF_54)))⟩
      exact K37 ((e0 - a0) + 1) a0 0 (by omega) (by omega) (by omega) (by rw [Nat.sub_self]; decide) (by exact ⟨e0 + 1, by omega, rfl⟩) (Nat.lt_succ_self _) _ _ _ (hP.sub [0, 1] rfl) (hD.sub [0, 1] (by decide) rfl) hS (lv_sub hl [3, 4, 5, 2, 1, 0] rfl)

set_option maxHeartbeats 4000000 in
set_option maxRecDepth 100000 in
theorem c_mWords (l : Launch) (g : GT) (mm : Nat) (v0 : Value) (v1 : Value) (v2 : Value) (v3 : Value) (v4 : Value) (v5 : Value) (v6 : Value) (v7 : Value) (v8 : Value) (v9 : Value) (v10 : Value) (v11 : Value) (v12 : Value) (v13 : Value) (v14 : Value) (v15 : Value) (v16 : Value) (ah_ : Nat) (v18 : Value) (v19 : Value) (v20 : Value) (v21 : Value) (m_close : Nat) (m_keep : Nat) (v24 : Value) (v25 : Value) (v26 : Value) (v27 : Value) (v28 : Value) (v29 : Value) (v30 : Value) (v31 : Value) (v32 : Value) (v33 : Value) (v34 : Value) (v35 : Value) (v36 : Value) (v37 : Value) (v38 : Value) (fh : Nat → Int32) (f : Nat → Int32) (hn : Nat) (a0 : Nat) (e0 : Nat) (hhn : hn ≤ 4096) (hM : ∀ j, j < hn → fh j = f j) (he0 : e0 ≤ hn) (ha0 : a0 ≤ e0) (hb1 : m_close ≤ 1) (hb2 : m_keep ≤ 1) : CT l g yX9_words wsX9_words ({ frames := 5, cells := 0, slots := 0, locals := 109 } : Room) [.ref mm, .int (nI a0), .int (nI e0)] [(mm, .inr (7, v0 :: v1 :: v2 :: v3 :: v4 :: v5 :: v6 :: v7 :: v8 :: v9 :: v10 :: v11 :: v12 :: v13 :: v14 :: v15 :: v16 :: .ref ah_ :: v18 :: v19 :: v20 :: v21 :: .int (nI m_close) :: .int (nI m_keep) :: v24 :: v25 :: v26 :: v27 :: v28 :: v29 :: v30 :: v31 :: v32 :: v33 :: v34 :: v35 :: v36 :: v37 :: v38 :: [])), (ah_, .inl (gB g, 4096, .inl fh))] (fun r w => (∃ (c1 : Nat) (k1 : Nat), r = none ∧ w = [(mm, .inr (7, v0 :: v1 :: v2 :: v3 :: v4 :: v5 :: v6 :: v7 :: v8 :: v9 :: v10 :: v11 :: v12 :: v13 :: v14 :: v15 :: v16 :: .ref ah_ :: v18 :: v19 :: v20 :: v21 :: .int (nI c1) :: .int (nI k1) :: v24 :: v25 :: v26 :: v27 :: v28 :: v29 :: v30 :: v31 :: v32 :: v33 :: v34 :: v35 :: v36 :: v37 :: v38 :: [])), (ah_, .inl (gB g, 4096, .inl fh))] ∧ ((c1, k1) = wdL f e0 (e0 + 2) a0 a0 m_close m_keep) ∧ (c1 ≤ 1 ∧ k1 ≤ 1))) (0) (0) := by
  refine ct_of (cc := cX9_words) (maxL := 5) (ret := none) (by decide) rfl (Nat.le_of_ble_eq_true rfl) ?_
  intro p e s m args below meth c A Q hx hb hr hml hown hts hlocks hnam hAe hQ hA hG hK hP hD hS ls hl
  have hl : lv_has ls 5 [(0, .ref mm), (1, .int (nI a0)), (2, .int (nI e0))] := hl
  have hown : s.vm.findClass RX9 = some m.cls := hown
  have hinX9 : ∀ w ∈ u_ws RX9 TX9 39, w ∈ wsX9_words := by decide +kernel
  have hf124 := hts (.fieldLink RX9 124 "RequestReaderModel" "close" "Z") (by decide +kernel)
  have hf127 := hts (.fieldLink RX9 127 "RequestReaderModel" "keep" "Z") (by decide +kernel)
  refine lv_iload_n hx hb dX9_words_0 rfl (lv_at hl 1 rfl) ?_
  refine lv_istore_n (lv' := [(3, .int (nI a0)), (0, .ref mm), (1, .int (nI a0)), (2, .int (nI e0))]) hx hb dX9_words_1 rfl hl (by decide) rfl (fun ls hl => ?_)
  refine lv_iload_n hx hb dX9_words_2 rfl (lv_at hl 2 rfl) ?_
  refine lv_istore (lv' := [(4, .int (nI a0)), (3, .int (nI a0)), (0, .ref mm), (1, .int (nI a0)), (2, .int (nI e0))]) hx hb dX9_words_3 hl (by decide) rfl (fun ls hl => ?_)
  have K5 : ∀ (N_ : Nat) (i : Nat) (w0 : Nat) (c1 : Nat) (k1 : Nat), (i ≤ e0 + 1) → (a0 ≤ i) → (w0 ≤ i) → (c1 ≤ 1) → (k1 ≤ 1) → (∃ m, e0 + 1 < i + m ∧ wdL f e0 (e0 + 2) a0 a0 m_close m_keep = wdL f e0 m i w0 c1 k1) → (e0 + 1 - i) < N_ → ∀ (H : Heap) (locs : List Loc) (ls : Array Slot), va_P (gD g) vwCl [(mm, .inr (7, v0 :: v1 :: v2 :: v3 :: v4 :: v5 :: v6 :: v7 :: v8 :: v9 :: v10 :: v11 :: v12 :: v13 :: v14 :: v15 :: v16 :: .ref ah_ :: v18 :: v19 :: v20 :: v21 :: .int (nI c1) :: .int (nI k1) :: v24 :: v25 :: v26 :: v27 :: v28 :: v29 :: v30 :: v31 :: v32 :: v33 :: v34 :: v35 :: v36 :: v37 :: v38 :: [])), (ah_, .inl (gB g, 4096, .inl fh))] H → va_D A [(mm, .inr (7, v0 :: v1 :: v2 :: v3 :: v4 :: v5 :: v6 :: v7 :: v8 :: v9 :: v10 :: v11 :: v12 :: v13 :: v14 :: v15 :: v16 :: .ref ah_ :: v18 :: v19 :: v20 :: v21 :: .int (nI c1) :: .int (nI k1) :: v24 :: v25 :: v26 :: v27 :: v28 :: v29 :: v30 :: v31 :: v32 :: v33 :: v34 :: v35 :: v36 :: v37 :: v38 :: [])), (ah_, .inl (gB g, 4096, .inl fh))] → va_S A s.heap H locs → lv_has ls 5 [(0, .ref mm), (1, .int (nI a0)), (2, .int (nI e0)), (3, .int (nI w0)), (4, .int (nI i))] → W p l e ({ frames := 5, cells := 0, slots := 0, locals := 109 } : Room) s m args below meth c H locs (0) (0) Q (F0 m 5 ls []) := by
    intro N_
    induction N_ with
    | zero => intro i w0 c1 k1 hi hi0 hw hc1 hk1 hE hm_; exact absurd hm_ (Nat.not_lt_zero _)
    | succ N_ ih_K5 =>
      intro i w0 c1 k1 hi hi0 hw hc1 hk1 hE hm_ H locs ls hP hD hS hl
      refine lv_iload hx hb dX9_words_5 (lv_at hl 4 rfl) ?_
      refine lv_iload_n hx hb dX9_words_7 rfl (lv_at hl 2 rfl) ?_
      refine lv_icmp_gt (tgt := 85) hx hb dX9_words_8 (by decide) (fun c8 => ?_) (fun c8 => ?_)
      · skip
        have c8 : e0 < i := (nI_ltI (a := e0) (b := i) (by omega) (by omega)).mp c8
        refine ct_vret (w := [(mm, .inr (7, v0 :: v1 :: v2 :: v3 :: v4 :: v5 :: v6 :: v7 :: v8 :: v9 :: v10 :: v11 :: v12 :: v13 :: v14 :: v15 :: v16 :: .ref ah_ :: v18 :: v19 :: v20 :: v21 :: .int (nI c1) :: .int (nI k1) :: v24 :: v25 :: v26 :: v27 :: v28 :: v29 :: v30 :: v31 :: v32 :: v33 :: v34 :: v35 :: v36 :: v37 :: v38 :: [])), (ah_, .inl (gB g, 4096, .inl fh))]) hx hb hr hlocks hQ hAe hK (hP.sub [0, 1] rfl) (hD.sub [0, 1] (by decide) rfl) hS (by omega) (by omega) dX9_words_85 ?_
        exact ⟨c1, k1, rfl, rfl, by (obtain ⟨m, h1, h2⟩ := hE; exact (h2.trans (wdL_0 (by omega))).symm), by omega⟩
      · skip
        have c8 : ¬ (e0 < i) := fun z => c8 ((nI_ltI (a := e0) (b := i) (by omega) (by omega)).mpr z)
        refine lv_iload hx hb dX9_words_11 (lv_at hl 4 rfl) ?_
        refine lv_iload_n hx hb dX9_words_13 rfl (lv_at hl 2 rfl) ?_
        refine lv_icmp_eq (tgt := 40) hx hb dX9_words_14 (by decide) (fun c14 => ?_) (fun c14 => ?_)
        · skip
          have c14 : i = e0 := (nI_eq (a := i) (b := e0) (by omega) (by omega)).mp c14
          refine lv_aload_n hx hb dX9_words_40 rfl (lv_at hl 0 rfl) ?_
          refine lv_iload_n hx hb dX9_words_41 rfl (lv_at hl 3 rfl) ?_
          refine lv_iload hx hb dX9_words_42 (lv_at hl 4 rfl) ?_
          refine va_ldcS hx hb hown ((hG.1 44 (by decide)).2.2.2.2) dX9_words_44 ?_
          refine ct_callV (wr := []) hx hb hml hown hts hK hP hD hS hA hG hl.1 (c_saysSm l g mm ((v0 : Value)) ((v1 : Value)) ((v2 : Value)) ((v3 : Value)) ((v4 : Value)) ((v5 : Value)) ((v6 : Value)) ((v7 : Value)) ((v8 : Value)) ((v9 : Value)) ((v10 : Value)) ((v11 : Value)) ((v12 : Value)) ((v13 : Value)) ((v14 : Value)) ((v15 : Value)) ((v16 : Value)) ah_ ((v18 : Value)) ((v19 : Value)) ((v20 : Value)) ((v21 : Value)) ((.int (nI c1) : Value)) ((.int (nI k1) : Value)) ((v24 : Value)) ((v25 : Value)) ((v26 : Value)) ((v27 : Value)) ((v28 : Value)) ((v29 : Value)) ((v30 : Value)) ((v31 : Value)) ((v32 : Value)) ((v33 : Value)) ((v34 : Value)) ((v35 : Value)) ((v36 : Value)) ((v37 : Value)) ((v38 : Value)) fh f hn w0 i 44 12 (by omega) (by assumption) (by omega) (by omega) (by first | assumption | decide) (by first | assumption | rfl)) (cwV 3 hts gX9_words_X9_saysSmall rfl rfl rfl (by decide +kernel) ⟨Nat.le_of_ble_eq_true rfl, Nat.le_of_ble_eq_true rfl⟩) (va_recv hK hP (ci := 7) (q0 := 0) rfl rfl) rfl rfl (Nat.le_of_ble_eq_true rfl) dX9_words_46 ⟨show 0 + 0 ≤ 0 by omega, show 0 + 0 ≤ 0 by omega⟩ [0, 1] [] rfl rfl (by decide) (by decide) (by decide) (fun r_ w_ H locs hp_ hP hD hS => ?_)
          rcases hp_ with ⟨rfl, rfl, hT_46⟩ | ⟨rfl, rfl, hF_46⟩
          · skip
            have hP : va_P (gD g) vwCl [(mm, .inr (7, v0 :: v1 :: v2 :: v3 :: v4 :: v5 :: v6 :: v7 :: v8 :: v9 :: v10 :: v11 :: v12 :: v13 :: v14 :: v15 :: v16 :: .ref ah_ :: v18 :: v19 :: v20 :: v21 :: .int (nI c1) :: .int (nI k1) :: v24 :: v25 :: v26 :: v27 :: v28 :: v29 :: v30 :: v31 :: v32 :: v33 :: v34 :: v35 :: v36 :: v37 :: v38 :: [])), (ah_, .inl (gB g, 4096, .inl fh))] H := hP
            have hD : va_D A [(mm, .inr (7, v0 :: v1 :: v2 :: v3 :: v4 :: v5 :: v6 :: v7 :: v8 :: v9 :: v10 :: v11 :: v12 :: v13 :: v14 :: v15 :: v16 :: .ref ah_ :: v18 :: v19 :: v20 :: v21 :: .int (nI c1) :: .int (nI k1) :: v24 :: v25 :: v26 :: v27 :: v28 :: v29 :: v30 :: v31 :: v32 :: v33 :: v34 :: v35 :: v36 :: v37 :: v38 :: [])), (ah_, .inl (gB g, 4096, .inl fh))] := hD
            have hT_46 : pWord f w0 i 12 := hT_46
            refine W.eq (g2 := F0 m 49 ls [.int (nI 1)]) rfl ?_
            refine lv_if_eq (tgt := 57) hx hb dX9_words_49 (by decide) (fun c49 => absurd c49 (by decide)) (fun _ => ?_)
            refine lv_aload_n hx hb dX9_words_52 rfl (lv_at hl 0 rfl) ?_
            refine lv_iconst (v := nI 1) hx hb dX9_words_53 (by decide) ?_
            refine va_put (D := gD g) (ci := 7) (v := .int (nI 1)) (ty := .boolean) (C := RX9) (T := TX9) (N := 39) hx hb hts hinX9 tyX9 tyX9_ok nmX9 hown hK hP hD hS 0 rfl rfl 22 (by decide) hf124 (fun _ h9 => h9) rfl (by decide +kernel) rfl rfl (Nat.le_of_ble_eq_true rfl) dX9_words_54 (fun H locs hP hD hS => ?_)
            have hP : va_P (gD g) vwCl [(mm, .inr (7, v0 :: v1 :: v2 :: v3 :: v4 :: v5 :: v6 :: v7 :: v8 :: v9 :: v10 :: v11 :: v12 :: v13 :: v14 :: v15 :: v16 :: .ref ah_ :: v18 :: v19 :: v20 :: v21 :: .int (nI 1) :: .int (nI k1) :: v24 :: v25 :: v26 :: v27 :: v28 :: v29 :: v30 :: v31 :: v32 :: v33 :: v34 :: v35 :: v36 :: v37 :: v38 :: [])), (ah_, .inl (gB g, 4096, .inl fh))] H := hP
            have hD : va_D A [(mm, .inr (7, v0 :: v1 :: v2 :: v3 :: v4 :: v5 :: v6 :: v7 :: v8 :: v9 :: v10 :: v11 :: v12 :: v13 :: v14 :: v15 :: v16 :: .ref ah_ :: v18 :: v19 :: v20 :: v21 :: .int (nI 1) :: .int (nI k1) :: v24 :: v25 :: v26 :: v27 :: v28 :: v29 :: v30 :: v31 :: v32 :: v33 :: v34 :: v35 :: v36 :: v37 :: v38 :: [])), (ah_, .inl (gB g, 4096, .inl fh))] := hD
            refine lv_aload_n hx hb dX9_words_57 rfl (lv_at hl 0 rfl) ?_
            refine lv_iload_n hx hb dX9_words_58 rfl (lv_at hl 3 rfl) ?_
            refine lv_iload hx hb dX9_words_59 (lv_at hl 4 rfl) ?_
            refine va_ldcS hx hb hown ((hG.1 45 (by decide)).2.2.2.2) dX9_words_61 ?_
            refine ct_callV (wr := []) hx hb hml hown hts hK hP hD hS hA hG hl.1 (c_saysSm l g mm ((v0 : Value)) ((v1 : Value)) ((v2 : Value)) ((v3 : Value)) ((v4 : Value)) ((v5 : Value)) ((v6 : Value)) ((v7 : Value)) ((v8 : Value)) ((v9 : Value)) ((v10 : Value)) ((v11 : Value)) ((v12 : Value)) ((v13 : Value)) ((v14 : Value)) ((v15 : Value)) ((v16 : Value)) ah_ ((v18 : Value)) ((v19 : Value)) ((v20 : Value)) ((v21 : Value)) ((.int (nI 1) : Value)) ((.int (nI k1) : Value)) ((v24 : Value)) ((v25 : Value)) ((v26 : Value)) ((v27 : Value)) ((v28 : Value)) ((v29 : Value)) ((v30 : Value)) ((v31 : Value)) ((v32 : Value)) ((v33 : Value)) ((v34 : Value)) ((v35 : Value)) ((v36 : Value)) ((v37 : Value)) ((v38 : Value)) fh f hn w0 i 45 13 (by omega) (by assumption) (by omega) (by omega) (by first | assumption | decide) (by first | assumption | rfl)) (cwV 3 hts gX9_words_X9_saysSmall rfl rfl rfl (by decide +kernel) ⟨Nat.le_of_ble_eq_true rfl, Nat.le_of_ble_eq_true rfl⟩) (va_recv hK hP (ci := 7) (q0 := 0) rfl rfl) rfl rfl (Nat.le_of_ble_eq_true rfl) dX9_words_63 ⟨show 0 + 0 ≤ 0 by omega, show 0 + 0 ≤ 0 by omega⟩ [0, 1] [] rfl rfl (by decide) (by decide) (by decide) (fun r_ w_ H locs hp_ hP hD hS => ?_)
            rcases hp_ with ⟨rfl, rfl, hT_63⟩ | ⟨rfl, rfl, hF_63⟩
            · skip
              have hP : va_P (gD g) vwCl [(mm, .inr (7, v0 :: v1 :: v2 :: v3 :: v4 :: v5 :: v6 :: v7 :: v8 :: v9 :: v10 :: v11 :: v12 :: v13 :: v14 :: v15 :: v16 :: .ref ah_ :: v18 :: v19 :: v20 :: v21 :: .int (nI 1) :: .int (nI k1) :: v24 :: v25 :: v26 :: v27 :: v28 :: v29 :: v30 :: v31 :: v32 :: v33 :: v34 :: v35 :: v36 :: v37 :: v38 :: [])), (ah_, .inl (gB g, 4096, .inl fh))] H := hP
              have hD : va_D A [(mm, .inr (7, v0 :: v1 :: v2 :: v3 :: v4 :: v5 :: v6 :: v7 :: v8 :: v9 :: v10 :: v11 :: v12 :: v13 :: v14 :: v15 :: v16 :: .ref ah_ :: v18 :: v19 :: v20 :: v21 :: .int (nI 1) :: .int (nI k1) :: v24 :: v25 :: v26 :: v27 :: v28 :: v29 :: v30 :: v31 :: v32 :: v33 :: v34 :: v35 :: v36 :: v37 :: v38 :: [])), (ah_, .inl (gB g, 4096, .inl fh))] := hD
              have hT_63 : pWord f w0 i 13 := hT_63
              refine W.eq (g2 := F0 m 66 ls [.int (nI 1)]) rfl ?_
              refine lv_if_eq (tgt := 74) hx hb dX9_words_66 (by decide) (fun c66 => absurd c66 (by decide)) (fun _ => ?_)
              refine lv_aload_n hx hb dX9_words_69 rfl (lv_at hl 0 rfl) ?_
              refine lv_iconst (v := nI 1) hx hb dX9_words_70 (by decide) ?_
              refine va_put (D := gD g) (ci := 7) (v := .int (nI 1)) (ty := .boolean) (C := RX9) (T := TX9) (N := 39) hx hb hts hinX9 tyX9 tyX9_ok nmX9 hown hK hP hD hS 0 rfl rfl 23 (by decide) hf127 (fun _ h9 => h9) rfl (by decide +kernel) rfl rfl (Nat.le_of_ble_eq_true rfl) dX9_words_71 (fun H locs hP hD hS => ?_)
              have hP : va_P (gD g) vwCl [(mm, .inr (7, v0 :: v1 :: v2 :: v3 :: v4 :: v5 :: v6 :: v7 :: v8 :: v9 :: v10 :: v11 :: v12 :: v13 :: v14 :: v15 :: v16 :: .ref ah_ :: v18 :: v19 :: v20 :: v21 :: .int (nI 1) :: .int (nI 1) :: v24 :: v25 :: v26 :: v27 :: v28 :: v29 :: v30 :: v31 :: v32 :: v33 :: v34 :: v35 :: v36 :: v37 :: v38 :: [])), (ah_, .inl (gB g, 4096, .inl fh))] H := hP
              have hD : va_D A [(mm, .inr (7, v0 :: v1 :: v2 :: v3 :: v4 :: v5 :: v6 :: v7 :: v8 :: v9 :: v10 :: v11 :: v12 :: v13 :: v14 :: v15 :: v16 :: .ref ah_ :: v18 :: v19 :: v20 :: v21 :: .int (nI 1) :: .int (nI 1) :: v24 :: v25 :: v26 :: v27 :: v28 :: v29 :: v30 :: v31 :: v32 :: v33 :: v34 :: v35 :: v36 :: v37 :: v38 :: [])), (ah_, .inl (gB g, 4096, .inl fh))] := hD
              refine lv_iload hx hb dX9_words_74 (lv_at hl 4 rfl) ?_
              refine lv_iconst (v := nI 1) hx hb dX9_words_76 (by decide) ?_
              refine q_iadd (v := nI (i + 1)) hx hb dX9_words_77 (nI_add i 1) ?_
              refine lv_istore_n (lv' := [(3, .int (nI (i + 1))), (0, .ref mm), (1, .int (nI a0)), (2, .int (nI e0)), (4, .int (nI i))]) hx hb dX9_words_78 rfl hl (by decide) rfl (fun ls hl => ?_)
              refine lv_iinc (v := nI (i + 1)) (lv' := [(4, .int (nI (i + 1))), (3, .int (nI (i + 1))), (0, .ref mm), (1, .int (nI a0)), (2, .int (nI e0))]) hx hb dX9_words_79 hl (k := 4) rfl (nI_inc i 1) (by decide) rfl (fun ls hl => ?_)
              refine lv_goto (tgt := 5) hx hb dX9_words_82 (by decide) ?_
              exact ih_K5 (i + 1) (i + 1) 1 1 (by omega) (by omega) (by omega) (by omega) (by omega) (by (obtain ⟨m, h1, h2⟩ := hE; obtain ⟨m, rfl⟩ : ∃ k, m = k + 1 := ⟨m - 1, by omega⟩; first | exact ⟨m, by omega, h2.trans (wdL_2 (by omega) (fun z => z.elim c14 (fun z => z.elim c25 hF_34)))⟩ | exact ⟨m, by omega, h2.trans (wdL_1 (by omega) (by first | exact Or.inl c14 | exact Or.inr (Or.inl c25) | exact Or.inr (Or.inr hT_34)) (by first | exact iteC_p hT_46 | exact iteC_n hF_46) (by first | exact iteC_p hT_63 | exact iteC_n hF_63))⟩)) (by omega) _ _ _ (hP.sub [0, 1] rfl) (hD.sub [0, 1] (by decide) rfl) hS (lv_sub hl [2, 3, 4, 1, 0] rfl)
            · skip
              have hP : va_P (gD g) vwCl [(mm, .inr (7, v0 :: v1 :: v2 :: v3 :: v4 :: v5 :: v6 :: v7 :: v8 :: v9 :: v10 :: v11 :: v12 :: v13 :: v14 :: v15 :: v16 :: .ref ah_ :: v18 :: v19 :: v20 :: v21 :: .int (nI 1) :: .int (nI k1) :: v24 :: v25 :: v26 :: v27 :: v28 :: v29 :: v30 :: v31 :: v32 :: v33 :: v34 :: v35 :: v36 :: v37 :: v38 :: [])), (ah_, .inl (gB g, 4096, .inl fh))] H := hP
              have hD : va_D A [(mm, .inr (7, v0 :: v1 :: v2 :: v3 :: v4 :: v5 :: v6 :: v7 :: v8 :: v9 :: v10 :: v11 :: v12 :: v13 :: v14 :: v15 :: v16 :: .ref ah_ :: v18 :: v19 :: v20 :: v21 :: .int (nI 1) :: .int (nI k1) :: v24 :: v25 :: v26 :: v27 :: v28 :: v29 :: v30 :: v31 :: v32 :: v33 :: v34 :: v35 :: v36 :: v37 :: v38 :: [])), (ah_, .inl (gB g, 4096, .inl fh))] := hD
              have hF_63 : ¬ (pWord f w0 i 13) := hF_63
              refine W.eq (g2 := F0 m 66 ls [.int (nI 0)]) rfl ?_
              refine lv_if_eq (tgt := 74) hx hb dX9_words_66 (by decide) (fun _ => ?_) (fun c66 => absurd (by decide) c66)
              refine lv_iload hx hb dX9_words_74 (lv_at hl 4 rfl) ?_
              refine lv_iconst (v := nI 1) hx hb dX9_words_76 (by decide) ?_
              refine q_iadd (v := nI (i + 1)) hx hb dX9_words_77 (nI_add i 1) ?_
              refine lv_istore_n (lv' := [(3, .int (nI (i + 1))), (0, .ref mm), (1, .int (nI a0)), (2, .int (nI e0)), (4, .int (nI i))]) hx hb dX9_words_78 rfl hl (by decide) rfl (fun ls hl => ?_)
              refine lv_iinc (v := nI (i + 1)) (lv' := [(4, .int (nI (i + 1))), (3, .int (nI (i + 1))), (0, .ref mm), (1, .int (nI a0)), (2, .int (nI e0))]) hx hb dX9_words_79 hl (k := 4) rfl (nI_inc i 1) (by decide) rfl (fun ls hl => ?_)
              refine lv_goto (tgt := 5) hx hb dX9_words_82 (by decide) ?_
              exact ih_K5 (i + 1) (i + 1) 1 k1 (by omega) (by omega) (by omega) (by omega) (by omega) (by (obtain ⟨m, h1, h2⟩ := hE; obtain ⟨m, rfl⟩ : ∃ k, m = k + 1 := ⟨m - 1, by omega⟩; first | exact ⟨m, by omega, h2.trans (wdL_2 (by omega) (fun z => z.elim c14 (fun z => z.elim c25 hF_34)))⟩ | exact ⟨m, by omega, h2.trans (wdL_1 (by omega) (by first | exact Or.inl c14 | exact Or.inr (Or.inl c25) | exact Or.inr (Or.inr hT_34)) (by first | exact iteC_p hT_46 | exact iteC_n hF_46) (by first | exact iteC_p hT_63 | exact iteC_n hF_63))⟩)) (by omega) _ _ _ (hP.sub [0, 1] rfl) (hD.sub [0, 1] (by decide) rfl) hS (lv_sub hl [2, 3, 4, 1, 0] rfl)
          · skip
            have hP : va_P (gD g) vwCl [(mm, .inr (7, v0 :: v1 :: v2 :: v3 :: v4 :: v5 :: v6 :: v7 :: v8 :: v9 :: v10 :: v11 :: v12 :: v13 :: v14 :: v15 :: v16 :: .ref ah_ :: v18 :: v19 :: v20 :: v21 :: .int (nI c1) :: .int (nI k1) :: v24 :: v25 :: v26 :: v27 :: v28 :: v29 :: v30 :: v31 :: v32 :: v33 :: v34 :: v35 :: v36 :: v37 :: v38 :: [])), (ah_, .inl (gB g, 4096, .inl fh))] H := hP
            have hD : va_D A [(mm, .inr (7, v0 :: v1 :: v2 :: v3 :: v4 :: v5 :: v6 :: v7 :: v8 :: v9 :: v10 :: v11 :: v12 :: v13 :: v14 :: v15 :: v16 :: .ref ah_ :: v18 :: v19 :: v20 :: v21 :: .int (nI c1) :: .int (nI k1) :: v24 :: v25 :: v26 :: v27 :: v28 :: v29 :: v30 :: v31 :: v32 :: v33 :: v34 :: v35 :: v36 :: v37 :: v38 :: [])), (ah_, .inl (gB g, 4096, .inl fh))] := hD
            have hF_46 : ¬ (pWord f w0 i 12) := hF_46
            refine W.eq (g2 := F0 m 49 ls [.int (nI 0)]) rfl ?_
            refine lv_if_eq (tgt := 57) hx hb dX9_words_49 (by decide) (fun _ => ?_) (fun c49 => absurd (by decide) c49)
            refine lv_aload_n hx hb dX9_words_57 rfl (lv_at hl 0 rfl) ?_
            refine lv_iload_n hx hb dX9_words_58 rfl (lv_at hl 3 rfl) ?_
            refine lv_iload hx hb dX9_words_59 (lv_at hl 4 rfl) ?_
            refine va_ldcS hx hb hown ((hG.1 45 (by decide)).2.2.2.2) dX9_words_61 ?_
            refine ct_callV (wr := []) hx hb hml hown hts hK hP hD hS hA hG hl.1 (c_saysSm l g mm ((v0 : Value)) ((v1 : Value)) ((v2 : Value)) ((v3 : Value)) ((v4 : Value)) ((v5 : Value)) ((v6 : Value)) ((v7 : Value)) ((v8 : Value)) ((v9 : Value)) ((v10 : Value)) ((v11 : Value)) ((v12 : Value)) ((v13 : Value)) ((v14 : Value)) ((v15 : Value)) ((v16 : Value)) ah_ ((v18 : Value)) ((v19 : Value)) ((v20 : Value)) ((v21 : Value)) ((.int (nI c1) : Value)) ((.int (nI k1) : Value)) ((v24 : Value)) ((v25 : Value)) ((v26 : Value)) ((v27 : Value)) ((v28 : Value)) ((v29 : Value)) ((v30 : Value)) ((v31 : Value)) ((v32 : Value)) ((v33 : Value)) ((v34 : Value)) ((v35 : Value)) ((v36 : Value)) ((v37 : Value)) ((v38 : Value)) fh f hn w0 i 45 13 (by omega) (by assumption) (by omega) (by omega) (by first | assumption | decide) (by first | assumption | rfl)) (cwV 3 hts gX9_words_X9_saysSmall rfl rfl rfl (by decide +kernel) ⟨Nat.le_of_ble_eq_true rfl, Nat.le_of_ble_eq_true rfl⟩) (va_recv hK hP (ci := 7) (q0 := 0) rfl rfl) rfl rfl (Nat.le_of_ble_eq_true rfl) dX9_words_63 ⟨show 0 + 0 ≤ 0 by omega, show 0 + 0 ≤ 0 by omega⟩ [0, 1] [] rfl rfl (by decide) (by decide) (by decide) (fun r_ w_ H locs hp_ hP hD hS => ?_)
            rcases hp_ with ⟨rfl, rfl, hT_63⟩ | ⟨rfl, rfl, hF_63⟩
            · skip
              have hP : va_P (gD g) vwCl [(mm, .inr (7, v0 :: v1 :: v2 :: v3 :: v4 :: v5 :: v6 :: v7 :: v8 :: v9 :: v10 :: v11 :: v12 :: v13 :: v14 :: v15 :: v16 :: .ref ah_ :: v18 :: v19 :: v20 :: v21 :: .int (nI c1) :: .int (nI k1) :: v24 :: v25 :: v26 :: v27 :: v28 :: v29 :: v30 :: v31 :: v32 :: v33 :: v34 :: v35 :: v36 :: v37 :: v38 :: [])), (ah_, .inl (gB g, 4096, .inl fh))] H := hP
              have hD : va_D A [(mm, .inr (7, v0 :: v1 :: v2 :: v3 :: v4 :: v5 :: v6 :: v7 :: v8 :: v9 :: v10 :: v11 :: v12 :: v13 :: v14 :: v15 :: v16 :: .ref ah_ :: v18 :: v19 :: v20 :: v21 :: .int (nI c1) :: .int (nI k1) :: v24 :: v25 :: v26 :: v27 :: v28 :: v29 :: v30 :: v31 :: v32 :: v33 :: v34 :: v35 :: v36 :: v37 :: v38 :: [])), (ah_, .inl (gB g, 4096, .inl fh))] := hD
              have hT_63 : pWord f w0 i 13 := hT_63
              refine W.eq (g2 := F0 m 66 ls [.int (nI 1)]) rfl ?_
              refine lv_if_eq (tgt := 74) hx hb dX9_words_66 (by decide) (fun c66 => absurd c66 (by decide)) (fun _ => ?_)
              refine lv_aload_n hx hb dX9_words_69 rfl (lv_at hl 0 rfl) ?_
              refine lv_iconst (v := nI 1) hx hb dX9_words_70 (by decide) ?_
              refine va_put (D := gD g) (ci := 7) (v := .int (nI 1)) (ty := .boolean) (C := RX9) (T := TX9) (N := 39) hx hb hts hinX9 tyX9 tyX9_ok nmX9 hown hK hP hD hS 0 rfl rfl 23 (by decide) hf127 (fun _ h9 => h9) rfl (by decide +kernel) rfl rfl (Nat.le_of_ble_eq_true rfl) dX9_words_71 (fun H locs hP hD hS => ?_)
              have hP : va_P (gD g) vwCl [(mm, .inr (7, v0 :: v1 :: v2 :: v3 :: v4 :: v5 :: v6 :: v7 :: v8 :: v9 :: v10 :: v11 :: v12 :: v13 :: v14 :: v15 :: v16 :: .ref ah_ :: v18 :: v19 :: v20 :: v21 :: .int (nI c1) :: .int (nI 1) :: v24 :: v25 :: v26 :: v27 :: v28 :: v29 :: v30 :: v31 :: v32 :: v33 :: v34 :: v35 :: v36 :: v37 :: v38 :: [])), (ah_, .inl (gB g, 4096, .inl fh))] H := hP
              have hD : va_D A [(mm, .inr (7, v0 :: v1 :: v2 :: v3 :: v4 :: v5 :: v6 :: v7 :: v8 :: v9 :: v10 :: v11 :: v12 :: v13 :: v14 :: v15 :: v16 :: .ref ah_ :: v18 :: v19 :: v20 :: v21 :: .int (nI c1) :: .int (nI 1) :: v24 :: v25 :: v26 :: v27 :: v28 :: v29 :: v30 :: v31 :: v32 :: v33 :: v34 :: v35 :: v36 :: v37 :: v38 :: [])), (ah_, .inl (gB g, 4096, .inl fh))] := hD
              refine lv_iload hx hb dX9_words_74 (lv_at hl 4 rfl) ?_
              refine lv_iconst (v := nI 1) hx hb dX9_words_76 (by decide) ?_
              refine q_iadd (v := nI (i + 1)) hx hb dX9_words_77 (nI_add i 1) ?_
              refine lv_istore_n (lv' := [(3, .int (nI (i + 1))), (0, .ref mm), (1, .int (nI a0)), (2, .int (nI e0)), (4, .int (nI i))]) hx hb dX9_words_78 rfl hl (by decide) rfl (fun ls hl => ?_)
              refine lv_iinc (v := nI (i + 1)) (lv' := [(4, .int (nI (i + 1))), (3, .int (nI (i + 1))), (0, .ref mm), (1, .int (nI a0)), (2, .int (nI e0))]) hx hb dX9_words_79 hl (k := 4) rfl (nI_inc i 1) (by decide) rfl (fun ls hl => ?_)
              refine lv_goto (tgt := 5) hx hb dX9_words_82 (by decide) ?_
              exact ih_K5 (i + 1) (i + 1) c1 1 (by omega) (by omega) (by omega) (by omega) (by omega) (by (obtain ⟨m, h1, h2⟩ := hE; obtain ⟨m, rfl⟩ : ∃ k, m = k + 1 := ⟨m - 1, by omega⟩; first | exact ⟨m, by omega, h2.trans (wdL_2 (by omega) (fun z => z.elim c14 (fun z => z.elim c25 hF_34)))⟩ | exact ⟨m, by omega, h2.trans (wdL_1 (by omega) (by first | exact Or.inl c14 | exact Or.inr (Or.inl c25) | exact Or.inr (Or.inr hT_34)) (by first | exact iteC_p hT_46 | exact iteC_n hF_46) (by first | exact iteC_p hT_63 | exact iteC_n hF_63))⟩)) (by omega) _ _ _ (hP.sub [0, 1] rfl) (hD.sub [0, 1] (by decide) rfl) hS (lv_sub hl [2, 3, 4, 1, 0] rfl)
            · skip
              have hP : va_P (gD g) vwCl [(mm, .inr (7, v0 :: v1 :: v2 :: v3 :: v4 :: v5 :: v6 :: v7 :: v8 :: v9 :: v10 :: v11 :: v12 :: v13 :: v14 :: v15 :: v16 :: .ref ah_ :: v18 :: v19 :: v20 :: v21 :: .int (nI c1) :: .int (nI k1) :: v24 :: v25 :: v26 :: v27 :: v28 :: v29 :: v30 :: v31 :: v32 :: v33 :: v34 :: v35 :: v36 :: v37 :: v38 :: [])), (ah_, .inl (gB g, 4096, .inl fh))] H := hP
              have hD : va_D A [(mm, .inr (7, v0 :: v1 :: v2 :: v3 :: v4 :: v5 :: v6 :: v7 :: v8 :: v9 :: v10 :: v11 :: v12 :: v13 :: v14 :: v15 :: v16 :: .ref ah_ :: v18 :: v19 :: v20 :: v21 :: .int (nI c1) :: .int (nI k1) :: v24 :: v25 :: v26 :: v27 :: v28 :: v29 :: v30 :: v31 :: v32 :: v33 :: v34 :: v35 :: v36 :: v37 :: v38 :: [])), (ah_, .inl (gB g, 4096, .inl fh))] := hD
              have hF_63 : ¬ (pWord f w0 i 13) := hF_63
              refine W.eq (g2 := F0 m 66 ls [.int (nI 0)]) rfl ?_
              refine lv_if_eq (tgt := 74) hx hb dX9_words_66 (by decide) (fun _ => ?_) (fun c66 => absurd (by decide) c66)
              refine lv_iload hx hb dX9_words_74 (lv_at hl 4 rfl) ?_
              refine lv_iconst (v := nI 1) hx hb dX9_words_76 (by decide) ?_
              refine q_iadd (v := nI (i + 1)) hx hb dX9_words_77 (nI_add i 1) ?_
              refine lv_istore_n (lv' := [(3, .int (nI (i + 1))), (0, .ref mm), (1, .int (nI a0)), (2, .int (nI e0)), (4, .int (nI i))]) hx hb dX9_words_78 rfl hl (by decide) rfl (fun ls hl => ?_)
              refine lv_iinc (v := nI (i + 1)) (lv' := [(4, .int (nI (i + 1))), (3, .int (nI (i + 1))), (0, .ref mm), (1, .int (nI a0)), (2, .int (nI e0))]) hx hb dX9_words_79 hl (k := 4) rfl (nI_inc i 1) (by decide) rfl (fun ls hl => ?_)
              refine lv_goto (tgt := 5) hx hb dX9_words_82 (by decide) ?_
              exact ih_K5 (i + 1) (i + 1) c1 k1 (by omega) (by omega) (by omega) (by omega) (by omega) (by (obtain ⟨m, h1, h2⟩ := hE; obtain ⟨m, rfl⟩ : ∃ k, m = k + 1 := ⟨m - 1, by omega⟩; first | exact ⟨m, by omega, h2.trans (wdL_2 (by omega) (fun z => z.elim c14 (fun z => z.elim c25 hF_34)))⟩ | exact ⟨m, by omega, h2.trans (wdL_1 (by omega) (by first | exact Or.inl c14 | exact Or.inr (Or.inl c25) | exact Or.inr (Or.inr hT_34)) (by first | exact iteC_p hT_46 | exact iteC_n hF_46) (by first | exact iteC_p hT_63 | exact iteC_n hF_63))⟩)) (by omega) _ _ _ (hP.sub [0, 1] rfl) (hD.sub [0, 1] (by decide) rfl) hS (lv_sub hl [2, 3, 4, 1, 0] rfl)
        · skip
          have c14 : ¬ (i = e0) := fun z => c14 ((nI_eq (a := i) (b := e0) (by omega) (by omega)).mpr z)
          refine lv_aload_n hx hb dX9_words_17 rfl (lv_at hl 0 rfl) ?_
          refine lv_iload hx hb dX9_words_18 (lv_at hl 4 rfl) ?_
          refine ct_callV (wr := []) hx hb hml hown hts hK hP hD hS hA hG hl.1 (c_headAt l g mm ((v0 : Value)) ((v1 : Value)) ((v2 : Value)) ((v3 : Value)) ((v4 : Value)) ((v5 : Value)) ((v6 : Value)) ((v7 : Value)) ((v8 : Value)) ((v9 : Value)) ((v10 : Value)) ((v11 : Value)) ((v12 : Value)) ((v13 : Value)) ((v14 : Value)) ((v15 : Value)) ((v16 : Value)) ah_ ((v18 : Value)) ((v19 : Value)) ((v20 : Value)) ((v21 : Value)) ((.int (nI c1) : Value)) ((.int (nI k1) : Value)) ((v24 : Value)) ((v25 : Value)) ((v26 : Value)) ((v27 : Value)) ((v28 : Value)) ((v29 : Value)) ((v30 : Value)) ((v31 : Value)) ((v32 : Value)) ((v33 : Value)) ((v34 : Value)) ((v35 : Value)) ((v36 : Value)) ((v37 : Value)) ((v38 : Value)) fh f hn i (by omega) (by assumption) (by omega)) (cwV 1 hts gX9_words_X9_headAt rfl rfl rfl (by decide +kernel) ⟨Nat.le_of_ble_eq_true rfl, Nat.le_of_ble_eq_true rfl⟩) (va_recv hK hP (ci := 7) (q0 := 0) rfl rfl) rfl rfl (Nat.le_of_ble_eq_true rfl) dX9_words_20 ⟨show 0 + 0 ≤ 0 by omega, show 0 + 0 ≤ 0 by omega⟩ [0, 1] [] rfl rfl (by decide) (by decide) (by decide) (fun r_ w_ H locs hp_ hP hD hS => ?_)
          obtain ⟨rfl, rfl⟩ := hp_
          have hP : va_P (gD g) vwCl [(mm, .inr (7, v0 :: v1 :: v2 :: v3 :: v4 :: v5 :: v6 :: v7 :: v8 :: v9 :: v10 :: v11 :: v12 :: v13 :: v14 :: v15 :: v16 :: .ref ah_ :: v18 :: v19 :: v20 :: v21 :: .int (nI c1) :: .int (nI k1) :: v24 :: v25 :: v26 :: v27 :: v28 :: v29 :: v30 :: v31 :: v32 :: v33 :: v34 :: v35 :: v36 :: v37 :: v38 :: [])), (ah_, .inl (gB g, 4096, .inl fh))] H := hP
          have hD : va_D A [(mm, .inr (7, v0 :: v1 :: v2 :: v3 :: v4 :: v5 :: v6 :: v7 :: v8 :: v9 :: v10 :: v11 :: v12 :: v13 :: v14 :: v15 :: v16 :: .ref ah_ :: v18 :: v19 :: v20 :: v21 :: .int (nI c1) :: .int (nI k1) :: v24 :: v25 :: v26 :: v27 :: v28 :: v29 :: v30 :: v31 :: v32 :: v33 :: v34 :: v35 :: v36 :: v37 :: v38 :: [])), (ah_, .inl (gB g, 4096, .inl fh))] := hD
          refine W.eq (g2 := F0 m 23 ls [.int (f i &&& 255)]) rfl ?_
          refine lv_bipush (v := nI 44) hx hb dX9_words_23 (by decide) ?_
          refine lv_icmp_eq (tgt := 40) hx hb dX9_words_25 (by decide) (fun c25 => ?_) (fun c25 => ?_)
          · skip
            refine lv_aload_n hx hb dX9_words_40 rfl (lv_at hl 0 rfl) ?_
            refine lv_iload_n hx hb dX9_words_41 rfl (lv_at hl 3 rfl) ?_
            refine lv_iload hx hb dX9_words_42 (lv_at hl 4 rfl) ?_
            refine va_ldcS hx hb hown ((hG.1 44 (by decide)).2.2.2.2) dX9_words_44 ?_
            refine ct_callV (wr := []) hx hb hml hown hts hK hP hD hS hA hG hl.1 (c_saysSm l g mm ((v0 : Value)) ((v1 : Value)) ((v2 : Value)) ((v3 : Value)) ((v4 : Value)) ((v5 : Value)) ((v6 : Value)) ((v7 : Value)) ((v8 : Value)) ((v9 : Value)) ((v10 : Value)) ((v11 : Value)) ((v12 : Value)) ((v13 : Value)) ((v14 : Value)) ((v15 : Value)) ((v16 : Value)) ah_ ((v18 : Value)) ((v19 : Value)) ((v20 : Value)) ((v21 : Value)) ((.int (nI c1) : Value)) ((.int (nI k1) : Value)) ((v24 : Value)) ((v25 : Value)) ((v26 : Value)) ((v27 : Value)) ((v28 : Value)) ((v29 : Value)) ((v30 : Value)) ((v31 : Value)) ((v32 : Value)) ((v33 : Value)) ((v34 : Value)) ((v35 : Value)) ((v36 : Value)) ((v37 : Value)) ((v38 : Value)) fh f hn w0 i 44 12 (by omega) (by assumption) (by omega) (by omega) (by first | assumption | decide) (by first | assumption | rfl)) (cwV 3 hts gX9_words_X9_saysSmall rfl rfl rfl (by decide +kernel) ⟨Nat.le_of_ble_eq_true rfl, Nat.le_of_ble_eq_true rfl⟩) (va_recv hK hP (ci := 7) (q0 := 0) rfl rfl) rfl rfl (Nat.le_of_ble_eq_true rfl) dX9_words_46 ⟨show 0 + 0 ≤ 0 by omega, show 0 + 0 ≤ 0 by omega⟩ [0, 1] [] rfl rfl (by decide) (by decide) (by decide) (fun r_ w_ H locs hp_ hP hD hS => ?_)
            rcases hp_ with ⟨rfl, rfl, hT_46⟩ | ⟨rfl, rfl, hF_46⟩
            · skip
              have hP : va_P (gD g) vwCl [(mm, .inr (7, v0 :: v1 :: v2 :: v3 :: v4 :: v5 :: v6 :: v7 :: v8 :: v9 :: v10 :: v11 :: v12 :: v13 :: v14 :: v15 :: v16 :: .ref ah_ :: v18 :: v19 :: v20 :: v21 :: .int (nI c1) :: .int (nI k1) :: v24 :: v25 :: v26 :: v27 :: v28 :: v29 :: v30 :: v31 :: v32 :: v33 :: v34 :: v35 :: v36 :: v37 :: v38 :: [])), (ah_, .inl (gB g, 4096, .inl fh))] H := hP
              have hD : va_D A [(mm, .inr (7, v0 :: v1 :: v2 :: v3 :: v4 :: v5 :: v6 :: v7 :: v8 :: v9 :: v10 :: v11 :: v12 :: v13 :: v14 :: v15 :: v16 :: .ref ah_ :: v18 :: v19 :: v20 :: v21 :: .int (nI c1) :: .int (nI k1) :: v24 :: v25 :: v26 :: v27 :: v28 :: v29 :: v30 :: v31 :: v32 :: v33 :: v34 :: v35 :: v36 :: v37 :: v38 :: [])), (ah_, .inl (gB g, 4096, .inl fh))] := hD
              have hT_46 : pWord f w0 i 12 := hT_46
              refine W.eq (g2 := F0 m 49 ls [.int (nI 1)]) rfl ?_
              refine lv_if_eq (tgt := 57) hx hb dX9_words_49 (by decide) (fun c49 => absurd c49 (by decide)) (fun _ => ?_)
              refine lv_aload_n hx hb dX9_words_52 rfl (lv_at hl 0 rfl) ?_
              refine lv_iconst (v := nI 1) hx hb dX9_words_53 (by decide) ?_
              refine va_put (D := gD g) (ci := 7) (v := .int (nI 1)) (ty := .boolean) (C := RX9) (T := TX9) (N := 39) hx hb hts hinX9 tyX9 tyX9_ok nmX9 hown hK hP hD hS 0 rfl rfl 22 (by decide) hf124 (fun _ h9 => h9) rfl (by decide +kernel) rfl rfl (Nat.le_of_ble_eq_true rfl) dX9_words_54 (fun H locs hP hD hS => ?_)
              have hP : va_P (gD g) vwCl [(mm, .inr (7, v0 :: v1 :: v2 :: v3 :: v4 :: v5 :: v6 :: v7 :: v8 :: v9 :: v10 :: v11 :: v12 :: v13 :: v14 :: v15 :: v16 :: .ref ah_ :: v18 :: v19 :: v20 :: v21 :: .int (nI 1) :: .int (nI k1) :: v24 :: v25 :: v26 :: v27 :: v28 :: v29 :: v30 :: v31 :: v32 :: v33 :: v34 :: v35 :: v36 :: v37 :: v38 :: [])), (ah_, .inl (gB g, 4096, .inl fh))] H := hP
              have hD : va_D A [(mm, .inr (7, v0 :: v1 :: v2 :: v3 :: v4 :: v5 :: v6 :: v7 :: v8 :: v9 :: v10 :: v11 :: v12 :: v13 :: v14 :: v15 :: v16 :: .ref ah_ :: v18 :: v19 :: v20 :: v21 :: .int (nI 1) :: .int (nI k1) :: v24 :: v25 :: v26 :: v27 :: v28 :: v29 :: v30 :: v31 :: v32 :: v33 :: v34 :: v35 :: v36 :: v37 :: v38 :: [])), (ah_, .inl (gB g, 4096, .inl fh))] := hD
              refine lv_aload_n hx hb dX9_words_57 rfl (lv_at hl 0 rfl) ?_
              refine lv_iload_n hx hb dX9_words_58 rfl (lv_at hl 3 rfl) ?_
              refine lv_iload hx hb dX9_words_59 (lv_at hl 4 rfl) ?_
              refine va_ldcS hx hb hown ((hG.1 45 (by decide)).2.2.2.2) dX9_words_61 ?_
              refine ct_callV (wr := []) hx hb hml hown hts hK hP hD hS hA hG hl.1 (c_saysSm l g mm ((v0 : Value)) ((v1 : Value)) ((v2 : Value)) ((v3 : Value)) ((v4 : Value)) ((v5 : Value)) ((v6 : Value)) ((v7 : Value)) ((v8 : Value)) ((v9 : Value)) ((v10 : Value)) ((v11 : Value)) ((v12 : Value)) ((v13 : Value)) ((v14 : Value)) ((v15 : Value)) ((v16 : Value)) ah_ ((v18 : Value)) ((v19 : Value)) ((v20 : Value)) ((v21 : Value)) ((.int (nI 1) : Value)) ((.int (nI k1) : Value)) ((v24 : Value)) ((v25 : Value)) ((v26 : Value)) ((v27 : Value)) ((v28 : Value)) ((v29 : Value)) ((v30 : Value)) ((v31 : Value)) ((v32 : Value)) ((v33 : Value)) ((v34 : Value)) ((v35 : Value)) ((v36 : Value)) ((v37 : Value)) ((v38 : Value)) fh f hn w0 i 45 13 (by omega) (by assumption) (by omega) (by omega) (by first | assumption | decide) (by first | assumption | rfl)) (cwV 3 hts gX9_words_X9_saysSmall rfl rfl rfl (by decide +kernel) ⟨Nat.le_of_ble_eq_true rfl, Nat.le_of_ble_eq_true rfl⟩) (va_recv hK hP (ci := 7) (q0 := 0) rfl rfl) rfl rfl (Nat.le_of_ble_eq_true rfl) dX9_words_63 ⟨show 0 + 0 ≤ 0 by omega, show 0 + 0 ≤ 0 by omega⟩ [0, 1] [] rfl rfl (by decide) (by decide) (by decide) (fun r_ w_ H locs hp_ hP hD hS => ?_)
              rcases hp_ with ⟨rfl, rfl, hT_63⟩ | ⟨rfl, rfl, hF_63⟩
              · skip
                have hP : va_P (gD g) vwCl [(mm, .inr (7, v0 :: v1 :: v2 :: v3 :: v4 :: v5 :: v6 :: v7 :: v8 :: v9 :: v10 :: v11 :: v12 :: v13 :: v14 :: v15 :: v16 :: .ref ah_ :: v18 :: v19 :: v20 :: v21 :: .int (nI 1) :: .int (nI k1) :: v24 :: v25 :: v26 :: v27 :: v28 :: v29 :: v30 :: v31 :: v32 :: v33 :: v34 :: v35 :: v36 :: v37 :: v38 :: [])), (ah_, .inl (gB g, 4096, .inl fh))] H := hP
                have hD : va_D A [(mm, .inr (7, v0 :: v1 :: v2 :: v3 :: v4 :: v5 :: v6 :: v7 :: v8 :: v9 :: v10 :: v11 :: v12 :: v13 :: v14 :: v15 :: v16 :: .ref ah_ :: v18 :: v19 :: v20 :: v21 :: .int (nI 1) :: .int (nI k1) :: v24 :: v25 :: v26 :: v27 :: v28 :: v29 :: v30 :: v31 :: v32 :: v33 :: v34 :: v35 :: v36 :: v37 :: v38 :: [])), (ah_, .inl (gB g, 4096, .inl fh))] := hD
                have hT_63 : pWord f w0 i 13 := hT_63
                refine W.eq (g2 := F0 m 66 ls [.int (nI 1)]) rfl ?_
                refine lv_if_eq (tgt := 74) hx hb dX9_words_66 (by decide) (fun c66 => absurd c66 (by decide)) (fun _ => ?_)
                refine lv_aload_n hx hb dX9_words_69 rfl (lv_at hl 0 rfl) ?_
                refine lv_iconst (v := nI 1) hx hb dX9_words_70 (by decide) ?_
                refine va_put (D := gD g) (ci := 7) (v := .int (nI 1)) (ty := .boolean) (C := RX9) (T := TX9) (N := 39) hx hb hts hinX9 tyX9 tyX9_ok nmX9 hown hK hP hD hS 0 rfl rfl 23 (by decide) hf127 (fun _ h9 => h9) rfl (by decide +kernel) rfl rfl (Nat.le_of_ble_eq_true rfl) dX9_words_71 (fun H locs hP hD hS => ?_)
                have hP : va_P (gD g) vwCl [(mm, .inr (7, v0 :: v1 :: v2 :: v3 :: v4 :: v5 :: v6 :: v7 :: v8 :: v9 :: v10 :: v11 :: v12 :: v13 :: v14 :: v15 :: v16 :: .ref ah_ :: v18 :: v19 :: v20 :: v21 :: .int (nI 1) :: .int (nI 1) :: v24 :: v25 :: v26 :: v27 :: v28 :: v29 :: v30 :: v31 :: v32 :: v33 :: v34 :: v35 :: v36 :: v37 :: v38 :: [])), (ah_, .inl (gB g, 4096, .inl fh))] H := hP
                have hD : va_D A [(mm, .inr (7, v0 :: v1 :: v2 :: v3 :: v4 :: v5 :: v6 :: v7 :: v8 :: v9 :: v10 :: v11 :: v12 :: v13 :: v14 :: v15 :: v16 :: .ref ah_ :: v18 :: v19 :: v20 :: v21 :: .int (nI 1) :: .int (nI 1) :: v24 :: v25 :: v26 :: v27 :: v28 :: v29 :: v30 :: v31 :: v32 :: v33 :: v34 :: v35 :: v36 :: v37 :: v38 :: [])), (ah_, .inl (gB g, 4096, .inl fh))] := hD
                refine lv_iload hx hb dX9_words_74 (lv_at hl 4 rfl) ?_
                refine lv_iconst (v := nI 1) hx hb dX9_words_76 (by decide) ?_
                refine q_iadd (v := nI (i + 1)) hx hb dX9_words_77 (nI_add i 1) ?_
                refine lv_istore_n (lv' := [(3, .int (nI (i + 1))), (0, .ref mm), (1, .int (nI a0)), (2, .int (nI e0)), (4, .int (nI i))]) hx hb dX9_words_78 rfl hl (by decide) rfl (fun ls hl => ?_)
                refine lv_iinc (v := nI (i + 1)) (lv' := [(4, .int (nI (i + 1))), (3, .int (nI (i + 1))), (0, .ref mm), (1, .int (nI a0)), (2, .int (nI e0))]) hx hb dX9_words_79 hl (k := 4) rfl (nI_inc i 1) (by decide) rfl (fun ls hl => ?_)
                refine lv_goto (tgt := 5) hx hb dX9_words_82 (by decide) ?_
                exact ih_K5 (i + 1) (i + 1) 1 1 (by omega) (by omega) (by omega) (by omega) (by omega) (by (obtain ⟨m, h1, h2⟩ := hE; obtain ⟨m, rfl⟩ : ∃ k, m = k + 1 := ⟨m - 1, by omega⟩; first | exact ⟨m, by omega, h2.trans (wdL_2 (by omega) (fun z => z.elim c14 (fun z => z.elim c25 hF_34)))⟩ | exact ⟨m, by omega, h2.trans (wdL_1 (by omega) (by first | exact Or.inl c14 | exact Or.inr (Or.inl c25) | exact Or.inr (Or.inr hT_34)) (by first | exact iteC_p hT_46 | exact iteC_n hF_46) (by first | exact iteC_p hT_63 | exact iteC_n hF_63))⟩)) (by omega) _ _ _ (hP.sub [0, 1] rfl) (hD.sub [0, 1] (by decide) rfl) hS (lv_sub hl [2, 3, 4, 1, 0] rfl)
              · skip
                have hP : va_P (gD g) vwCl [(mm, .inr (7, v0 :: v1 :: v2 :: v3 :: v4 :: v5 :: v6 :: v7 :: v8 :: v9 :: v10 :: v11 :: v12 :: v13 :: v14 :: v15 :: v16 :: .ref ah_ :: v18 :: v19 :: v20 :: v21 :: .int (nI 1) :: .int (nI k1) :: v24 :: v25 :: v26 :: v27 :: v28 :: v29 :: v30 :: v31 :: v32 :: v33 :: v34 :: v35 :: v36 :: v37 :: v38 :: [])), (ah_, .inl (gB g, 4096, .inl fh))] H := hP
                have hD : va_D A [(mm, .inr (7, v0 :: v1 :: v2 :: v3 :: v4 :: v5 :: v6 :: v7 :: v8 :: v9 :: v10 :: v11 :: v12 :: v13 :: v14 :: v15 :: v16 :: .ref ah_ :: v18 :: v19 :: v20 :: v21 :: .int (nI 1) :: .int (nI k1) :: v24 :: v25 :: v26 :: v27 :: v28 :: v29 :: v30 :: v31 :: v32 :: v33 :: v34 :: v35 :: v36 :: v37 :: v38 :: [])), (ah_, .inl (gB g, 4096, .inl fh))] := hD
                have hF_63 : ¬ (pWord f w0 i 13) := hF_63
                refine W.eq (g2 := F0 m 66 ls [.int (nI 0)]) rfl ?_
                refine lv_if_eq (tgt := 74) hx hb dX9_words_66 (by decide) (fun _ => ?_) (fun c66 => absurd (by decide) c66)
                refine lv_iload hx hb dX9_words_74 (lv_at hl 4 rfl) ?_
                refine lv_iconst (v := nI 1) hx hb dX9_words_76 (by decide) ?_
                refine q_iadd (v := nI (i + 1)) hx hb dX9_words_77 (nI_add i 1) ?_
                refine lv_istore_n (lv' := [(3, .int (nI (i + 1))), (0, .ref mm), (1, .int (nI a0)), (2, .int (nI e0)), (4, .int (nI i))]) hx hb dX9_words_78 rfl hl (by decide) rfl (fun ls hl => ?_)
                refine lv_iinc (v := nI (i + 1)) (lv' := [(4, .int (nI (i + 1))), (3, .int (nI (i + 1))), (0, .ref mm), (1, .int (nI a0)), (2, .int (nI e0))]) hx hb dX9_words_79 hl (k := 4) rfl (nI_inc i 1) (by decide) rfl (fun ls hl => ?_)
                refine lv_goto (tgt := 5) hx hb dX9_words_82 (by decide) ?_
                exact ih_K5 (i + 1) (i + 1) 1 k1 (by omega) (by omega) (by omega) (by omega) (by omega) (by (obtain ⟨m, h1, h2⟩ := hE; obtain ⟨m, rfl⟩ : ∃ k, m = k + 1 := ⟨m - 1, by omega⟩; first | exact ⟨m, by omega, h2.trans (wdL_2 (by omega) (fun z => z.elim c14 (fun z => z.elim c25 hF_34)))⟩ | exact ⟨m, by omega, h2.trans (wdL_1 (by omega) (by first | exact Or.inl c14 | exact Or.inr (Or.inl c25) | exact Or.inr (Or.inr hT_34)) (by first | exact iteC_p hT_46 | exact iteC_n hF_46) (by first | exact iteC_p hT_63 | exact iteC_n hF_63))⟩)) (by omega) _ _ _ (hP.sub [0, 1] rfl) (hD.sub [0, 1] (by decide) rfl) hS (lv_sub hl [2, 3, 4, 1, 0] rfl)
            · skip
              have hP : va_P (gD g) vwCl [(mm, .inr (7, v0 :: v1 :: v2 :: v3 :: v4 :: v5 :: v6 :: v7 :: v8 :: v9 :: v10 :: v11 :: v12 :: v13 :: v14 :: v15 :: v16 :: .ref ah_ :: v18 :: v19 :: v20 :: v21 :: .int (nI c1) :: .int (nI k1) :: v24 :: v25 :: v26 :: v27 :: v28 :: v29 :: v30 :: v31 :: v32 :: v33 :: v34 :: v35 :: v36 :: v37 :: v38 :: [])), (ah_, .inl (gB g, 4096, .inl fh))] H := hP
              have hD : va_D A [(mm, .inr (7, v0 :: v1 :: v2 :: v3 :: v4 :: v5 :: v6 :: v7 :: v8 :: v9 :: v10 :: v11 :: v12 :: v13 :: v14 :: v15 :: v16 :: .ref ah_ :: v18 :: v19 :: v20 :: v21 :: .int (nI c1) :: .int (nI k1) :: v24 :: v25 :: v26 :: v27 :: v28 :: v29 :: v30 :: v31 :: v32 :: v33 :: v34 :: v35 :: v36 :: v37 :: v38 :: [])), (ah_, .inl (gB g, 4096, .inl fh))] := hD
              have hF_46 : ¬ (pWord f w0 i 12) := hF_46
              refine W.eq (g2 := F0 m 49 ls [.int (nI 0)]) rfl ?_
              refine lv_if_eq (tgt := 57) hx hb dX9_words_49 (by decide) (fun _ => ?_) (fun c49 => absurd (by decide) c49)
              refine lv_aload_n hx hb dX9_words_57 rfl (lv_at hl 0 rfl) ?_
              refine lv_iload_n hx hb dX9_words_58 rfl (lv_at hl 3 rfl) ?_
              refine lv_iload hx hb dX9_words_59 (lv_at hl 4 rfl) ?_
              refine va_ldcS hx hb hown ((hG.1 45 (by decide)).2.2.2.2) dX9_words_61 ?_
              refine ct_callV (wr := []) hx hb hml hown hts hK hP hD hS hA hG hl.1 (c_saysSm l g mm ((v0 : Value)) ((v1 : Value)) ((v2 : Value)) ((v3 : Value)) ((v4 : Value)) ((v5 : Value)) ((v6 : Value)) ((v7 : Value)) ((v8 : Value)) ((v9 : Value)) ((v10 : Value)) ((v11 : Value)) ((v12 : Value)) ((v13 : Value)) ((v14 : Value)) ((v15 : Value)) ((v16 : Value)) ah_ ((v18 : Value)) ((v19 : Value)) ((v20 : Value)) ((v21 : Value)) ((.int (nI c1) : Value)) ((.int (nI k1) : Value)) ((v24 : Value)) ((v25 : Value)) ((v26 : Value)) ((v27 : Value)) ((v28 : Value)) ((v29 : Value)) ((v30 : Value)) ((v31 : Value)) ((v32 : Value)) ((v33 : Value)) ((v34 : Value)) ((v35 : Value)) ((v36 : Value)) ((v37 : Value)) ((v38 : Value)) fh f hn w0 i 45 13 (by omega) (by assumption) (by omega) (by omega) (by first | assumption | decide) (by first | assumption | rfl)) (cwV 3 hts gX9_words_X9_saysSmall rfl rfl rfl (by decide +kernel) ⟨Nat.le_of_ble_eq_true rfl, Nat.le_of_ble_eq_true rfl⟩) (va_recv hK hP (ci := 7) (q0 := 0) rfl rfl) rfl rfl (Nat.le_of_ble_eq_true rfl) dX9_words_63 ⟨show 0 + 0 ≤ 0 by omega, show 0 + 0 ≤ 0 by omega⟩ [0, 1] [] rfl rfl (by decide) (by decide) (by decide) (fun r_ w_ H locs hp_ hP hD hS => ?_)
              rcases hp_ with ⟨rfl, rfl, hT_63⟩ | ⟨rfl, rfl, hF_63⟩
              · skip
                have hP : va_P (gD g) vwCl [(mm, .inr (7, v0 :: v1 :: v2 :: v3 :: v4 :: v5 :: v6 :: v7 :: v8 :: v9 :: v10 :: v11 :: v12 :: v13 :: v14 :: v15 :: v16 :: .ref ah_ :: v18 :: v19 :: v20 :: v21 :: .int (nI c1) :: .int (nI k1) :: v24 :: v25 :: v26 :: v27 :: v28 :: v29 :: v30 :: v31 :: v32 :: v33 :: v34 :: v35 :: v36 :: v37 :: v38 :: [])), (ah_, .inl (gB g, 4096, .inl fh))] H := hP
                have hD : va_D A [(mm, .inr (7, v0 :: v1 :: v2 :: v3 :: v4 :: v5 :: v6 :: v7 :: v8 :: v9 :: v10 :: v11 :: v12 :: v13 :: v14 :: v15 :: v16 :: .ref ah_ :: v18 :: v19 :: v20 :: v21 :: .int (nI c1) :: .int (nI k1) :: v24 :: v25 :: v26 :: v27 :: v28 :: v29 :: v30 :: v31 :: v32 :: v33 :: v34 :: v35 :: v36 :: v37 :: v38 :: [])), (ah_, .inl (gB g, 4096, .inl fh))] := hD
                have hT_63 : pWord f w0 i 13 := hT_63
                refine W.eq (g2 := F0 m 66 ls [.int (nI 1)]) rfl ?_
                refine lv_if_eq (tgt := 74) hx hb dX9_words_66 (by decide) (fun c66 => absurd c66 (by decide)) (fun _ => ?_)
                refine lv_aload_n hx hb dX9_words_69 rfl (lv_at hl 0 rfl) ?_
                refine lv_iconst (v := nI 1) hx hb dX9_words_70 (by decide) ?_
                refine va_put (D := gD g) (ci := 7) (v := .int (nI 1)) (ty := .boolean) (C := RX9) (T := TX9) (N := 39) hx hb hts hinX9 tyX9 tyX9_ok nmX9 hown hK hP hD hS 0 rfl rfl 23 (by decide) hf127 (fun _ h9 => h9) rfl (by decide +kernel) rfl rfl (Nat.le_of_ble_eq_true rfl) dX9_words_71 (fun H locs hP hD hS => ?_)
                have hP : va_P (gD g) vwCl [(mm, .inr (7, v0 :: v1 :: v2 :: v3 :: v4 :: v5 :: v6 :: v7 :: v8 :: v9 :: v10 :: v11 :: v12 :: v13 :: v14 :: v15 :: v16 :: .ref ah_ :: v18 :: v19 :: v20 :: v21 :: .int (nI c1) :: .int (nI 1) :: v24 :: v25 :: v26 :: v27 :: v28 :: v29 :: v30 :: v31 :: v32 :: v33 :: v34 :: v35 :: v36 :: v37 :: v38 :: [])), (ah_, .inl (gB g, 4096, .inl fh))] H := hP
                have hD : va_D A [(mm, .inr (7, v0 :: v1 :: v2 :: v3 :: v4 :: v5 :: v6 :: v7 :: v8 :: v9 :: v10 :: v11 :: v12 :: v13 :: v14 :: v15 :: v16 :: .ref ah_ :: v18 :: v19 :: v20 :: v21 :: .int (nI c1) :: .int (nI 1) :: v24 :: v25 :: v26 :: v27 :: v28 :: v29 :: v30 :: v31 :: v32 :: v33 :: v34 :: v35 :: v36 :: v37 :: v38 :: [])), (ah_, .inl (gB g, 4096, .inl fh))] := hD
                refine lv_iload hx hb dX9_words_74 (lv_at hl 4 rfl) ?_
                refine lv_iconst (v := nI 1) hx hb dX9_words_76 (by decide) ?_
                refine q_iadd (v := nI (i + 1)) hx hb dX9_words_77 (nI_add i 1) ?_
                refine lv_istore_n (lv' := [(3, .int (nI (i + 1))), (0, .ref mm), (1, .int (nI a0)), (2, .int (nI e0)), (4, .int (nI i))]) hx hb dX9_words_78 rfl hl (by decide) rfl (fun ls hl => ?_)
                refine lv_iinc (v := nI (i + 1)) (lv' := [(4, .int (nI (i + 1))), (3, .int (nI (i + 1))), (0, .ref mm), (1, .int (nI a0)), (2, .int (nI e0))]) hx hb dX9_words_79 hl (k := 4) rfl (nI_inc i 1) (by decide) rfl (fun ls hl => ?_)
                refine lv_goto (tgt := 5) hx hb dX9_words_82 (by decide) ?_
                exact ih_K5 (i + 1) (i + 1) c1 1 (by omega) (by omega) (by omega) (by omega) (by omega) (by (obtain ⟨m, h1, h2⟩ := hE; obtain ⟨m, rfl⟩ : ∃ k, m = k + 1 := ⟨m - 1, by omega⟩; first | exact ⟨m, by omega, h2.trans (wdL_2 (by omega) (fun z => z.elim c14 (fun z => z.elim c25 hF_34)))⟩ | exact ⟨m, by omega, h2.trans (wdL_1 (by omega) (by first | exact Or.inl c14 | exact Or.inr (Or.inl c25) | exact Or.inr (Or.inr hT_34)) (by first | exact iteC_p hT_46 | exact iteC_n hF_46) (by first | exact iteC_p hT_63 | exact iteC_n hF_63))⟩)) (by omega) _ _ _ (hP.sub [0, 1] rfl) (hD.sub [0, 1] (by decide) rfl) hS (lv_sub hl [2, 3, 4, 1, 0] rfl)
              · skip
                have hP : va_P (gD g) vwCl [(mm, .inr (7, v0 :: v1 :: v2 :: v3 :: v4 :: v5 :: v6 :: v7 :: v8 :: v9 :: v10 :: v11 :: v12 :: v13 :: v14 :: v15 :: v16 :: .ref ah_ :: v18 :: v19 :: v20 :: v21 :: .int (nI c1) :: .int (nI k1) :: v24 :: v25 :: v26 :: v27 :: v28 :: v29 :: v30 :: v31 :: v32 :: v33 :: v34 :: v35 :: v36 :: v37 :: v38 :: [])), (ah_, .inl (gB g, 4096, .inl fh))] H := hP
                have hD : va_D A [(mm, .inr (7, v0 :: v1 :: v2 :: v3 :: v4 :: v5 :: v6 :: v7 :: v8 :: v9 :: v10 :: v11 :: v12 :: v13 :: v14 :: v15 :: v16 :: .ref ah_ :: v18 :: v19 :: v20 :: v21 :: .int (nI c1) :: .int (nI k1) :: v24 :: v25 :: v26 :: v27 :: v28 :: v29 :: v30 :: v31 :: v32 :: v33 :: v34 :: v35 :: v36 :: v37 :: v38 :: [])), (ah_, .inl (gB g, 4096, .inl fh))] := hD
                have hF_63 : ¬ (pWord f w0 i 13) := hF_63
                refine W.eq (g2 := F0 m 66 ls [.int (nI 0)]) rfl ?_
                refine lv_if_eq (tgt := 74) hx hb dX9_words_66 (by decide) (fun _ => ?_) (fun c66 => absurd (by decide) c66)
                refine lv_iload hx hb dX9_words_74 (lv_at hl 4 rfl) ?_
                refine lv_iconst (v := nI 1) hx hb dX9_words_76 (by decide) ?_
                refine q_iadd (v := nI (i + 1)) hx hb dX9_words_77 (nI_add i 1) ?_
                refine lv_istore_n (lv' := [(3, .int (nI (i + 1))), (0, .ref mm), (1, .int (nI a0)), (2, .int (nI e0)), (4, .int (nI i))]) hx hb dX9_words_78 rfl hl (by decide) rfl (fun ls hl => ?_)
                refine lv_iinc (v := nI (i + 1)) (lv' := [(4, .int (nI (i + 1))), (3, .int (nI (i + 1))), (0, .ref mm), (1, .int (nI a0)), (2, .int (nI e0))]) hx hb dX9_words_79 hl (k := 4) rfl (nI_inc i 1) (by decide) rfl (fun ls hl => ?_)
                refine lv_goto (tgt := 5) hx hb dX9_words_82 (by decide) ?_
                exact ih_K5 (i + 1) (i + 1) c1 k1 (by omega) (by omega) (by omega) (by omega) (by omega) (by (obtain ⟨m, h1, h2⟩ := hE; obtain ⟨m, rfl⟩ : ∃ k, m = k + 1 := ⟨m - 1, by omega⟩; first | exact ⟨m, by omega, h2.trans (wdL_2 (by omega) (fun z => z.elim c14 (fun z => z.elim c25 hF_34)))⟩ | exact ⟨m, by omega, h2.trans (wdL_1 (by omega) (by first | exact Or.inl c14 | exact Or.inr (Or.inl c25) | exact Or.inr (Or.inr hT_34)) (by first | exact iteC_p hT_46 | exact iteC_n hF_46) (by first | exact iteC_p hT_63 | exact iteC_n hF_63))⟩)) (by omega) _ _ _ (hP.sub [0, 1] rfl) (hD.sub [0, 1] (by decide) rfl) hS (lv_sub hl [2, 3, 4, 1, 0] rfl)
          · skip
            refine lv_aload_n hx hb dX9_words_28 rfl (lv_at hl 0 rfl) ?_
            refine lv_iload hx hb dX9_words_29 (lv_at hl 4 rfl) ?_
            refine ct_callV (wr := []) hx hb hml hown hts hK hP hD hS hA hG hl.1 (c_headAt l g mm ((v0 : Value)) ((v1 : Value)) ((v2 : Value)) ((v3 : Value)) ((v4 : Value)) ((v5 : Value)) ((v6 : Value)) ((v7 : Value)) ((v8 : Value)) ((v9 : Value)) ((v10 : Value)) ((v11 : Value)) ((v12 : Value)) ((v13 : Value)) ((v14 : Value)) ((v15 : Value)) ((v16 : Value)) ah_ ((v18 : Value)) ((v19 : Value)) ((v20 : Value)) ((v21 : Value)) ((.int (nI c1) : Value)) ((.int (nI k1) : Value)) ((v24 : Value)) ((v25 : Value)) ((v26 : Value)) ((v27 : Value)) ((v28 : Value)) ((v29 : Value)) ((v30 : Value)) ((v31 : Value)) ((v32 : Value)) ((v33 : Value)) ((v34 : Value)) ((v35 : Value)) ((v36 : Value)) ((v37 : Value)) ((v38 : Value)) fh f hn i (by omega) (by assumption) (by omega)) (cwV 1 hts gX9_words_X9_headAt rfl rfl rfl (by decide +kernel) ⟨Nat.le_of_ble_eq_true rfl, Nat.le_of_ble_eq_true rfl⟩) (va_recv hK hP (ci := 7) (q0 := 0) rfl rfl) rfl rfl (Nat.le_of_ble_eq_true rfl) dX9_words_31 ⟨show 0 + 0 ≤ 0 by omega, show 0 + 0 ≤ 0 by omega⟩ [0, 1] [] rfl rfl (by decide) (by decide) (by decide) (fun r_ w_ H locs hp_ hP hD hS => ?_)
            obtain ⟨rfl, rfl⟩ := hp_
            have hP : va_P (gD g) vwCl [(mm, .inr (7, v0 :: v1 :: v2 :: v3 :: v4 :: v5 :: v6 :: v7 :: v8 :: v9 :: v10 :: v11 :: v12 :: v13 :: v14 :: v15 :: v16 :: .ref ah_ :: v18 :: v19 :: v20 :: v21 :: .int (nI c1) :: .int (nI k1) :: v24 :: v25 :: v26 :: v27 :: v28 :: v29 :: v30 :: v31 :: v32 :: v33 :: v34 :: v35 :: v36 :: v37 :: v38 :: [])), (ah_, .inl (gB g, 4096, .inl fh))] H := hP
            have hD : va_D A [(mm, .inr (7, v0 :: v1 :: v2 :: v3 :: v4 :: v5 :: v6 :: v7 :: v8 :: v9 :: v10 :: v11 :: v12 :: v13 :: v14 :: v15 :: v16 :: .ref ah_ :: v18 :: v19 :: v20 :: v21 :: .int (nI c1) :: .int (nI k1) :: v24 :: v25 :: v26 :: v27 :: v28 :: v29 :: v30 :: v31 :: v32 :: v33 :: v34 :: v35 :: v36 :: v37 :: v38 :: [])), (ah_, .inl (gB g, 4096, .inl fh))] := hD
            refine W.eq (g2 := F0 m 34 ls [.int (f i &&& 255)]) rfl ?_
            refine ct_callS (wr := [(mm, .inr (7, v0 :: v1 :: v2 :: v3 :: v4 :: v5 :: v6 :: v7 :: v8 :: v9 :: v10 :: v11 :: v12 :: v13 :: v14 :: v15 :: v16 :: .ref ah_ :: v18 :: v19 :: v20 :: v21 :: .int (nI c1) :: .int (nI k1) :: v24 :: v25 :: v26 :: v27 :: v28 :: v29 :: v30 :: v31 :: v32 :: v33 :: v34 :: v35 :: v36 :: v37 :: v38 :: [])), (ah_, .inl (gB g, 4096, .inl fh))]) hx hb hml hown hts hK hP hD hS hA hG hl.1 (c_mBlank l g (f i &&& 255) ) (va_cwS 1 hts gX9_words_X9_isBlank rfl rfl rfl (by decide +kernel) ⟨Nat.le_of_ble_eq_true rfl, Nat.le_of_ble_eq_true rfl⟩) rfl rfl (Nat.le_of_ble_eq_true rfl) dX9_words_34 ⟨show 0 + 0 ≤ 0 by omega, show 0 + 0 ≤ 0 by omega⟩ [] [0, 1] rfl rfl (by decide) (by decide) (by decide) (fun r_ w_ H locs hp_ hP hD hS => ?_)
            rcases hp_ with ⟨rfl, rfl, hT_34⟩ | ⟨rfl, rfl, hF_34⟩
            · skip
              have hP : va_P (gD g) vwCl [(mm, .inr (7, v0 :: v1 :: v2 :: v3 :: v4 :: v5 :: v6 :: v7 :: v8 :: v9 :: v10 :: v11 :: v12 :: v13 :: v14 :: v15 :: v16 :: .ref ah_ :: v18 :: v19 :: v20 :: v21 :: .int (nI c1) :: .int (nI k1) :: v24 :: v25 :: v26 :: v27 :: v28 :: v29 :: v30 :: v31 :: v32 :: v33 :: v34 :: v35 :: v36 :: v37 :: v38 :: [])), (ah_, .inl (gB g, 4096, .inl fh))] H := hP
              have hD : va_D A [(mm, .inr (7, v0 :: v1 :: v2 :: v3 :: v4 :: v5 :: v6 :: v7 :: v8 :: v9 :: v10 :: v11 :: v12 :: v13 :: v14 :: v15 :: v16 :: .ref ah_ :: v18 :: v19 :: v20 :: v21 :: .int (nI c1) :: .int (nI k1) :: v24 :: v25 :: v26 :: v27 :: v28 :: v29 :: v30 :: v31 :: v32 :: v33 :: v34 :: v35 :: v36 :: v37 :: v38 :: [])), (ah_, .inl (gB g, 4096, .inl fh))] := hD
              have hT_34 : pSpace (f i &&& 255) := hT_34
              refine W.eq (g2 := F0 m 37 ls [.int (nI 1)]) rfl ?_
              refine lv_if_eq (tgt := 79) hx hb dX9_words_37 (by decide) (fun c37 => absurd c37 (by decide)) (fun _ => ?_)
              refine lv_aload_n hx hb dX9_words_40 rfl (lv_at hl 0 rfl) ?_
              refine lv_iload_n hx hb dX9_words_41 rfl (lv_at hl 3 rfl) ?_
              refine lv_iload hx hb dX9_words_42 (lv_at hl 4 rfl) ?_
              refine va_ldcS hx hb hown ((hG.1 44 (by decide)).2.2.2.2) dX9_words_44 ?_
              refine ct_callV (wr := []) hx hb hml hown hts hK hP hD hS hA hG hl.1 (c_saysSm l g mm ((v0 : Value)) ((v1 : Value)) ((v2 : Value)) ((v3 : Value)) ((v4 : Value)) ((v5 : Value)) ((v6 : Value)) ((v7 : Value)) ((v8 : Value)) ((v9 : Value)) ((v10 : Value)) ((v11 : Value)) ((v12 : Value)) ((v13 : Value)) ((v14 : Value)) ((v15 : Value)) ((v16 : Value)) ah_ ((v18 : Value)) ((v19 : Value)) ((v20 : Value)) ((v21 : Value)) ((.int (nI c1) : Value)) ((.int (nI k1) : Value)) ((v24 : Value)) ((v25 : Value)) ((v26 : Value)) ((v27 : Value)) ((v28 : Value)) ((v29 : Value)) ((v30 : Value)) ((v31 : Value)) ((v32 : Value)) ((v33 : Value)) ((v34 : Value)) ((v35 : Value)) ((v36 : Value)) ((v37 : Value)) ((v38 : Value)) fh f hn w0 i 44 12 (by omega) (by assumption) (by omega) (by omega) (by first | assumption | decide) (by first | assumption | rfl)) (cwV 3 hts gX9_words_X9_saysSmall rfl rfl rfl (by decide +kernel) ⟨Nat.le_of_ble_eq_true rfl, Nat.le_of_ble_eq_true rfl⟩) (va_recv hK hP (ci := 7) (q0 := 0) rfl rfl) rfl rfl (Nat.le_of_ble_eq_true rfl) dX9_words_46 ⟨show 0 + 0 ≤ 0 by omega, show 0 + 0 ≤ 0 by omega⟩ [0, 1] [] rfl rfl (by decide) (by decide) (by decide) (fun r_ w_ H locs hp_ hP hD hS => ?_)
              rcases hp_ with ⟨rfl, rfl, hT_46⟩ | ⟨rfl, rfl, hF_46⟩
              · skip
                have hP : va_P (gD g) vwCl [(mm, .inr (7, v0 :: v1 :: v2 :: v3 :: v4 :: v5 :: v6 :: v7 :: v8 :: v9 :: v10 :: v11 :: v12 :: v13 :: v14 :: v15 :: v16 :: .ref ah_ :: v18 :: v19 :: v20 :: v21 :: .int (nI c1) :: .int (nI k1) :: v24 :: v25 :: v26 :: v27 :: v28 :: v29 :: v30 :: v31 :: v32 :: v33 :: v34 :: v35 :: v36 :: v37 :: v38 :: [])), (ah_, .inl (gB g, 4096, .inl fh))] H := hP
                have hD : va_D A [(mm, .inr (7, v0 :: v1 :: v2 :: v3 :: v4 :: v5 :: v6 :: v7 :: v8 :: v9 :: v10 :: v11 :: v12 :: v13 :: v14 :: v15 :: v16 :: .ref ah_ :: v18 :: v19 :: v20 :: v21 :: .int (nI c1) :: .int (nI k1) :: v24 :: v25 :: v26 :: v27 :: v28 :: v29 :: v30 :: v31 :: v32 :: v33 :: v34 :: v35 :: v36 :: v37 :: v38 :: [])), (ah_, .inl (gB g, 4096, .inl fh))] := hD
                have hT_46 : pWord f w0 i 12 := hT_46
                refine W.eq (g2 := F0 m 49 ls [.int (nI 1)]) rfl ?_
                refine lv_if_eq (tgt := 57) hx hb dX9_words_49 (by decide) (fun c49 => absurd c49 (by decide)) (fun _ => ?_)
                refine lv_aload_n hx hb dX9_words_52 rfl (lv_at hl 0 rfl) ?_
                refine lv_iconst (v := nI 1) hx hb dX9_words_53 (by decide) ?_
                refine va_put (D := gD g) (ci := 7) (v := .int (nI 1)) (ty := .boolean) (C := RX9) (T := TX9) (N := 39) hx hb hts hinX9 tyX9 tyX9_ok nmX9 hown hK hP hD hS 0 rfl rfl 22 (by decide) hf124 (fun _ h9 => h9) rfl (by decide +kernel) rfl rfl (Nat.le_of_ble_eq_true rfl) dX9_words_54 (fun H locs hP hD hS => ?_)
                have hP : va_P (gD g) vwCl [(mm, .inr (7, v0 :: v1 :: v2 :: v3 :: v4 :: v5 :: v6 :: v7 :: v8 :: v9 :: v10 :: v11 :: v12 :: v13 :: v14 :: v15 :: v16 :: .ref ah_ :: v18 :: v19 :: v20 :: v21 :: .int (nI 1) :: .int (nI k1) :: v24 :: v25 :: v26 :: v27 :: v28 :: v29 :: v30 :: v31 :: v32 :: v33 :: v34 :: v35 :: v36 :: v37 :: v38 :: [])), (ah_, .inl (gB g, 4096, .inl fh))] H := hP
                have hD : va_D A [(mm, .inr (7, v0 :: v1 :: v2 :: v3 :: v4 :: v5 :: v6 :: v7 :: v8 :: v9 :: v10 :: v11 :: v12 :: v13 :: v14 :: v15 :: v16 :: .ref ah_ :: v18 :: v19 :: v20 :: v21 :: .int (nI 1) :: .int (nI k1) :: v24 :: v25 :: v26 :: v27 :: v28 :: v29 :: v30 :: v31 :: v32 :: v33 :: v34 :: v35 :: v36 :: v37 :: v38 :: [])), (ah_, .inl (gB g, 4096, .inl fh))] := hD
                refine lv_aload_n hx hb dX9_words_57 rfl (lv_at hl 0 rfl) ?_
                refine lv_iload_n hx hb dX9_words_58 rfl (lv_at hl 3 rfl) ?_
                refine lv_iload hx hb dX9_words_59 (lv_at hl 4 rfl) ?_
                refine va_ldcS hx hb hown ((hG.1 45 (by decide)).2.2.2.2) dX9_words_61 ?_
                refine ct_callV (wr := []) hx hb hml hown hts hK hP hD hS hA hG hl.1 (c_saysSm l g mm ((v0 : Value)) ((v1 : Value)) ((v2 : Value)) ((v3 : Value)) ((v4 : Value)) ((v5 : Value)) ((v6 : Value)) ((v7 : Value)) ((v8 : Value)) ((v9 : Value)) ((v10 : Value)) ((v11 : Value)) ((v12 : Value)) ((v13 : Value)) ((v14 : Value)) ((v15 : Value)) ((v16 : Value)) ah_ ((v18 : Value)) ((v19 : Value)) ((v20 : Value)) ((v21 : Value)) ((.int (nI 1) : Value)) ((.int (nI k1) : Value)) ((v24 : Value)) ((v25 : Value)) ((v26 : Value)) ((v27 : Value)) ((v28 : Value)) ((v29 : Value)) ((v30 : Value)) ((v31 : Value)) ((v32 : Value)) ((v33 : Value)) ((v34 : Value)) ((v35 : Value)) ((v36 : Value)) ((v37 : Value)) ((v38 : Value)) fh f hn w0 i 45 13 (by omega) (by assumption) (by omega) (by omega) (by first | assumption | decide) (by first | assumption | rfl)) (cwV 3 hts gX9_words_X9_saysSmall rfl rfl rfl (by decide +kernel) ⟨Nat.le_of_ble_eq_true rfl, Nat.le_of_ble_eq_true rfl⟩) (va_recv hK hP (ci := 7) (q0 := 0) rfl rfl) rfl rfl (Nat.le_of_ble_eq_true rfl) dX9_words_63 ⟨show 0 + 0 ≤ 0 by omega, show 0 + 0 ≤ 0 by omega⟩ [0, 1] [] rfl rfl (by decide) (by decide) (by decide) (fun r_ w_ H locs hp_ hP hD hS => ?_)
                rcases hp_ with ⟨rfl, rfl, hT_63⟩ | ⟨rfl, rfl, hF_63⟩
                · skip
                  have hP : va_P (gD g) vwCl [(mm, .inr (7, v0 :: v1 :: v2 :: v3 :: v4 :: v5 :: v6 :: v7 :: v8 :: v9 :: v10 :: v11 :: v12 :: v13 :: v14 :: v15 :: v16 :: .ref ah_ :: v18 :: v19 :: v20 :: v21 :: .int (nI 1) :: .int (nI k1) :: v24 :: v25 :: v26 :: v27 :: v28 :: v29 :: v30 :: v31 :: v32 :: v33 :: v34 :: v35 :: v36 :: v37 :: v38 :: [])), (ah_, .inl (gB g, 4096, .inl fh))] H := hP
                  have hD : va_D A [(mm, .inr (7, v0 :: v1 :: v2 :: v3 :: v4 :: v5 :: v6 :: v7 :: v8 :: v9 :: v10 :: v11 :: v12 :: v13 :: v14 :: v15 :: v16 :: .ref ah_ :: v18 :: v19 :: v20 :: v21 :: .int (nI 1) :: .int (nI k1) :: v24 :: v25 :: v26 :: v27 :: v28 :: v29 :: v30 :: v31 :: v32 :: v33 :: v34 :: v35 :: v36 :: v37 :: v38 :: [])), (ah_, .inl (gB g, 4096, .inl fh))] := hD
                  have hT_63 : pWord f w0 i 13 := hT_63
                  refine W.eq (g2 := F0 m 66 ls [.int (nI 1)]) rfl ?_
                  refine lv_if_eq (tgt := 74) hx hb dX9_words_66 (by decide) (fun c66 => absurd c66 (by decide)) (fun _ => ?_)
                  refine lv_aload_n hx hb dX9_words_69 rfl (lv_at hl 0 rfl) ?_
                  refine lv_iconst (v := nI 1) hx hb dX9_words_70 (by decide) ?_
                  refine va_put (D := gD g) (ci := 7) (v := .int (nI 1)) (ty := .boolean) (C := RX9) (T := TX9) (N := 39) hx hb hts hinX9 tyX9 tyX9_ok nmX9 hown hK hP hD hS 0 rfl rfl 23 (by decide) hf127 (fun _ h9 => h9) rfl (by decide +kernel) rfl rfl (Nat.le_of_ble_eq_true rfl) dX9_words_71 (fun H locs hP hD hS => ?_)
                  have hP : va_P (gD g) vwCl [(mm, .inr (7, v0 :: v1 :: v2 :: v3 :: v4 :: v5 :: v6 :: v7 :: v8 :: v9 :: v10 :: v11 :: v12 :: v13 :: v14 :: v15 :: v16 :: .ref ah_ :: v18 :: v19 :: v20 :: v21 :: .int (nI 1) :: .int (nI 1) :: v24 :: v25 :: v26 :: v27 :: v28 :: v29 :: v30 :: v31 :: v32 :: v33 :: v34 :: v35 :: v36 :: v37 :: v38 :: [])), (ah_, .inl (gB g, 4096, .inl fh))] H := hP
                  have hD : va_D A [(mm, .inr (7, v0 :: v1 :: v2 :: v3 :: v4 :: v5 :: v6 :: v7 :: v8 :: v9 :: v10 :: v11 :: v12 :: v13 :: v14 :: v15 :: v16 :: .ref ah_ :: v18 :: v19 :: v20 :: v21 :: .int (nI 1) :: .int (nI 1) :: v24 :: v25 :: v26 :: v27 :: v28 :: v29 :: v30 :: v31 :: v32 :: v33 :: v34 :: v35 :: v36 :: v37 :: v38 :: [])), (ah_, .inl (gB g, 4096, .inl fh))] := hD
                  refine lv_iload hx hb dX9_words_74 (lv_at hl 4 rfl) ?_
                  refine lv_iconst (v := nI 1) hx hb dX9_words_76 (by decide) ?_
                  refine q_iadd (v := nI (i + 1)) hx hb dX9_words_77 (nI_add i 1) ?_
                  refine lv_istore_n (lv' := [(3, .int (nI (i + 1))), (0, .ref mm), (1, .int (nI a0)), (2, .int (nI e0)), (4, .int (nI i))]) hx hb dX9_words_78 rfl hl (by decide) rfl (fun ls hl => ?_)
                  refine lv_iinc (v := nI (i + 1)) (lv' := [(4, .int (nI (i + 1))), (3, .int (nI (i + 1))), (0, .ref mm), (1, .int (nI a0)), (2, .int (nI e0))]) hx hb dX9_words_79 hl (k := 4) rfl (nI_inc i 1) (by decide) rfl (fun ls hl => ?_)
                  refine lv_goto (tgt := 5) hx hb dX9_words_82 (by decide) ?_
                  exact ih_K5 (i + 1) (i + 1) 1 1 (by omega) (by omega) (by omega) (by omega) (by omega) (by (obtain ⟨m, h1, h2⟩ := hE; obtain ⟨m, rfl⟩ : ∃ k, m = k + 1 := ⟨m - 1, by omega⟩; first | exact ⟨m, by omega, h2.trans (wdL_2 (by omega) (fun z => z.elim c14 (fun z => z.elim c25 hF_34)))⟩ | exact ⟨m, by omega, h2.trans (wdL_1 (by omega) (by first | exact Or.inl c14 | exact Or.inr (Or.inl c25) | exact Or.inr (Or.inr hT_34)) (by first | exact iteC_p hT_46 | exact iteC_n hF_46) (by first | exact iteC_p hT_63 | exact iteC_n hF_63))⟩)) (by omega) _ _ _ (hP.sub [0, 1] rfl) (hD.sub [0, 1] (by decide) rfl) hS (lv_sub hl [2, 3, 4, 1, 0] rfl)
                · skip
                  have hP : va_P (gD g) vwCl [(mm, .inr (7, v0 :: v1 :: v2 :: v3 :: v4 :: v5 :: v6 :: v7 :: v8 :: v9 :: v10 :: v11 :: v12 :: v13 :: v14 :: v15 :: v16 :: .ref ah_ :: v18 :: v19 :: v20 :: v21 :: .int (nI 1) :: .int (nI k1) :: v24 :: v25 :: v26 :: v27 :: v28 :: v29 :: v30 :: v31 :: v32 :: v33 :: v34 :: v35 :: v36 :: v37 :: v38 :: [])), (ah_, .inl (gB g, 4096, .inl fh))] H := hP
                  have hD : va_D A [(mm, .inr (7, v0 :: v1 :: v2 :: v3 :: v4 :: v5 :: v6 :: v7 :: v8 :: v9 :: v10 :: v11 :: v12 :: v13 :: v14 :: v15 :: v16 :: .ref ah_ :: v18 :: v19 :: v20 :: v21 :: .int (nI 1) :: .int (nI k1) :: v24 :: v25 :: v26 :: v27 :: v28 :: v29 :: v30 :: v31 :: v32 :: v33 :: v34 :: v35 :: v36 :: v37 :: v38 :: [])), (ah_, .inl (gB g, 4096, .inl fh))] := hD
                  have hF_63 : ¬ (pWord f w0 i 13) := hF_63
                  refine W.eq (g2 := F0 m 66 ls [.int (nI 0)]) rfl ?_
                  refine lv_if_eq (tgt := 74) hx hb dX9_words_66 (by decide) (fun _ => ?_) (fun c66 => absurd (by decide) c66)
                  refine lv_iload hx hb dX9_words_74 (lv_at hl 4 rfl) ?_
                  refine lv_iconst (v := nI 1) hx hb dX9_words_76 (by decide) ?_
                  refine q_iadd (v := nI (i + 1)) hx hb dX9_words_77 (nI_add i 1) ?_
                  refine lv_istore_n (lv' := [(3, .int (nI (i + 1))), (0, .ref mm), (1, .int (nI a0)), (2, .int (nI e0)), (4, .int (nI i))]) hx hb dX9_words_78 rfl hl (by decide) rfl (fun ls hl => ?_)
                  refine lv_iinc (v := nI (i + 1)) (lv' := [(4, .int (nI (i + 1))), (3, .int (nI (i + 1))), (0, .ref mm), (1, .int (nI a0)), (2, .int (nI e0))]) hx hb dX9_words_79 hl (k := 4) rfl (nI_inc i 1) (by decide) rfl (fun ls hl => ?_)
                  refine lv_goto (tgt := 5) hx hb dX9_words_82 (by decide) ?_
                  exact ih_K5 (i + 1) (i + 1) 1 k1 (by omega) (by omega) (by omega) (by omega) (by omega) (by (obtain ⟨m, h1, h2⟩ := hE; obtain ⟨m, rfl⟩ : ∃ k, m = k + 1 := ⟨m - 1, by omega⟩; first | exact ⟨m, by omega, h2.trans (wdL_2 (by omega) (fun z => z.elim c14 (fun z => z.elim c25 hF_34)))⟩ | exact ⟨m, by omega, h2.trans (wdL_1 (by omega) (by first | exact Or.inl c14 | exact Or.inr (Or.inl c25) | exact Or.inr (Or.inr hT_34)) (by first | exact iteC_p hT_46 | exact iteC_n hF_46) (by first | exact iteC_p hT_63 | exact iteC_n hF_63))⟩)) (by omega) _ _ _ (hP.sub [0, 1] rfl) (hD.sub [0, 1] (by decide) rfl) hS (lv_sub hl [2, 3, 4, 1, 0] rfl)
              · skip
                have hP : va_P (gD g) vwCl [(mm, .inr (7, v0 :: v1 :: v2 :: v3 :: v4 :: v5 :: v6 :: v7 :: v8 :: v9 :: v10 :: v11 :: v12 :: v13 :: v14 :: v15 :: v16 :: .ref ah_ :: v18 :: v19 :: v20 :: v21 :: .int (nI c1) :: .int (nI k1) :: v24 :: v25 :: v26 :: v27 :: v28 :: v29 :: v30 :: v31 :: v32 :: v33 :: v34 :: v35 :: v36 :: v37 :: v38 :: [])), (ah_, .inl (gB g, 4096, .inl fh))] H := hP
                have hD : va_D A [(mm, .inr (7, v0 :: v1 :: v2 :: v3 :: v4 :: v5 :: v6 :: v7 :: v8 :: v9 :: v10 :: v11 :: v12 :: v13 :: v14 :: v15 :: v16 :: .ref ah_ :: v18 :: v19 :: v20 :: v21 :: .int (nI c1) :: .int (nI k1) :: v24 :: v25 :: v26 :: v27 :: v28 :: v29 :: v30 :: v31 :: v32 :: v33 :: v34 :: v35 :: v36 :: v37 :: v38 :: [])), (ah_, .inl (gB g, 4096, .inl fh))] := hD
                have hF_46 : ¬ (pWord f w0 i 12) := hF_46
                refine W.eq (g2 := F0 m 49 ls [.int (nI 0)]) rfl ?_
                refine lv_if_eq (tgt := 57) hx hb dX9_words_49 (by decide) (fun _ => ?_) (fun c49 => absurd (by decide) c49)
                refine lv_aload_n hx hb dX9_words_57 rfl (lv_at hl 0 rfl) ?_
                refine lv_iload_n hx hb dX9_words_58 rfl (lv_at hl 3 rfl) ?_
                refine lv_iload hx hb dX9_words_59 (lv_at hl 4 rfl) ?_
                refine va_ldcS hx hb hown ((hG.1 45 (by decide)).2.2.2.2) dX9_words_61 ?_
                refine ct_callV (wr := []) hx hb hml hown hts hK hP hD hS hA hG hl.1 (c_saysSm l g mm ((v0 : Value)) ((v1 : Value)) ((v2 : Value)) ((v3 : Value)) ((v4 : Value)) ((v5 : Value)) ((v6 : Value)) ((v7 : Value)) ((v8 : Value)) ((v9 : Value)) ((v10 : Value)) ((v11 : Value)) ((v12 : Value)) ((v13 : Value)) ((v14 : Value)) ((v15 : Value)) ((v16 : Value)) ah_ ((v18 : Value)) ((v19 : Value)) ((v20 : Value)) ((v21 : Value)) ((.int (nI c1) : Value)) ((.int (nI k1) : Value)) ((v24 : Value)) ((v25 : Value)) ((v26 : Value)) ((v27 : Value)) ((v28 : Value)) ((v29 : Value)) ((v30 : Value)) ((v31 : Value)) ((v32 : Value)) ((v33 : Value)) ((v34 : Value)) ((v35 : Value)) ((v36 : Value)) ((v37 : Value)) ((v38 : Value)) fh f hn w0 i 45 13 (by omega) (by assumption) (by omega) (by omega) (by first | assumption | decide) (by first | assumption | rfl)) (cwV 3 hts gX9_words_X9_saysSmall rfl rfl rfl (by decide +kernel) ⟨Nat.le_of_ble_eq_true rfl, Nat.le_of_ble_eq_true rfl⟩) (va_recv hK hP (ci := 7) (q0 := 0) rfl rfl) rfl rfl (Nat.le_of_ble_eq_true rfl) dX9_words_63 ⟨show 0 + 0 ≤ 0 by omega, show 0 + 0 ≤ 0 by omega⟩ [0, 1] [] rfl rfl (by decide) (by decide) (by decide) (fun r_ w_ H locs hp_ hP hD hS => ?_)
                rcases hp_ with ⟨rfl, rfl, hT_63⟩ | ⟨rfl, rfl, hF_63⟩
                · skip
                  have hP : va_P (gD g) vwCl [(mm, .inr (7, v0 :: v1 :: v2 :: v3 :: v4 :: v5 :: v6 :: v7 :: v8 :: v9 :: v10 :: v11 :: v12 :: v13 :: v14 :: v15 :: v16 :: .ref ah_ :: v18 :: v19 :: v20 :: v21 :: .int (nI c1) :: .int (nI k1) :: v24 :: v25 :: v26 :: v27 :: v28 :: v29 :: v30 :: v31 :: v32 :: v33 :: v34 :: v35 :: v36 :: v37 :: v38 :: [])), (ah_, .inl (gB g, 4096, .inl fh))] H := hP
                  have hD : va_D A [(mm, .inr (7, v0 :: v1 :: v2 :: v3 :: v4 :: v5 :: v6 :: v7 :: v8 :: v9 :: v10 :: v11 :: v12 :: v13 :: v14 :: v15 :: v16 :: .ref ah_ :: v18 :: v19 :: v20 :: v21 :: .int (nI c1) :: .int (nI k1) :: v24 :: v25 :: v26 :: v27 :: v28 :: v29 :: v30 :: v31 :: v32 :: v33 :: v34 :: v35 :: v36 :: v37 :: v38 :: [])), (ah_, .inl (gB g, 4096, .inl fh))] := hD
                  have hT_63 : pWord f w0 i 13 := hT_63
                  refine W.eq (g2 := F0 m 66 ls [.int (nI 1)]) rfl ?_
                  refine lv_if_eq (tgt := 74) hx hb dX9_words_66 (by decide) (fun c66 => absurd c66 (by decide)) (fun _ => ?_)
                  refine lv_aload_n hx hb dX9_words_69 rfl (lv_at hl 0 rfl) ?_
                  refine lv_iconst (v := nI 1) hx hb dX9_words_70 (by decide) ?_
                  refine va_put (D := gD g) (ci := 7) (v := .int (nI 1)) (ty := .boolean) (C := RX9) (T := TX9) (N := 39) hx hb hts hinX9 tyX9 tyX9_ok nmX9 hown hK hP hD hS 0 rfl rfl 23 (by decide) hf127 (fun _ h9 => h9) rfl (by decide +kernel) rfl rfl (Nat.le_of_ble_eq_true rfl) dX9_words_71 (fun H locs hP hD hS => ?_)
                  have hP : va_P (gD g) vwCl [(mm, .inr (7, v0 :: v1 :: v2 :: v3 :: v4 :: v5 :: v6 :: v7 :: v8 :: v9 :: v10 :: v11 :: v12 :: v13 :: v14 :: v15 :: v16 :: .ref ah_ :: v18 :: v19 :: v20 :: v21 :: .int (nI c1) :: .int (nI 1) :: v24 :: v25 :: v26 :: v27 :: v28 :: v29 :: v30 :: v31 :: v32 :: v33 :: v34 :: v35 :: v36 :: v37 :: v38 :: [])), (ah_, .inl (gB g, 4096, .inl fh))] H := hP
                  have hD : va_D A [(mm, .inr (7, v0 :: v1 :: v2 :: v3 :: v4 :: v5 :: v6 :: v7 :: v8 :: v9 :: v10 :: v11 :: v12 :: v13 :: v14 :: v15 :: v16 :: .ref ah_ :: v18 :: v19 :: v20 :: v21 :: .int (nI c1) :: .int (nI 1) :: v24 :: v25 :: v26 :: v27 :: v28 :: v29 :: v30 :: v31 :: v32 :: v33 :: v34 :: v35 :: v36 :: v37 :: v38 :: [])), (ah_, .inl (gB g, 4096, .inl fh))] := hD
                  refine lv_iload hx hb dX9_words_74 (lv_at hl 4 rfl) ?_
                  refine lv_iconst (v := nI 1) hx hb dX9_words_76 (by decide) ?_
                  refine q_iadd (v := nI (i + 1)) hx hb dX9_words_77 (nI_add i 1) ?_
                  refine lv_istore_n (lv' := [(3, .int (nI (i + 1))), (0, .ref mm), (1, .int (nI a0)), (2, .int (nI e0)), (4, .int (nI i))]) hx hb dX9_words_78 rfl hl (by decide) rfl (fun ls hl => ?_)
                  refine lv_iinc (v := nI (i + 1)) (lv' := [(4, .int (nI (i + 1))), (3, .int (nI (i + 1))), (0, .ref mm), (1, .int (nI a0)), (2, .int (nI e0))]) hx hb dX9_words_79 hl (k := 4) rfl (nI_inc i 1) (by decide) rfl (fun ls hl => ?_)
                  refine lv_goto (tgt := 5) hx hb dX9_words_82 (by decide) ?_
                  exact ih_K5 (i + 1) (i + 1) c1 1 (by omega) (by omega) (by omega) (by omega) (by omega) (by (obtain ⟨m, h1, h2⟩ := hE; obtain ⟨m, rfl⟩ : ∃ k, m = k + 1 := ⟨m - 1, by omega⟩; first | exact ⟨m, by omega, h2.trans (wdL_2 (by omega) (fun z => z.elim c14 (fun z => z.elim c25 hF_34)))⟩ | exact ⟨m, by omega, h2.trans (wdL_1 (by omega) (by first | exact Or.inl c14 | exact Or.inr (Or.inl c25) | exact Or.inr (Or.inr hT_34)) (by first | exact iteC_p hT_46 | exact iteC_n hF_46) (by first | exact iteC_p hT_63 | exact iteC_n hF_63))⟩)) (by omega) _ _ _ (hP.sub [0, 1] rfl) (hD.sub [0, 1] (by decide) rfl) hS (lv_sub hl [2, 3, 4, 1, 0] rfl)
                · skip
                  have hP : va_P (gD g) vwCl [(mm, .inr (7, v0 :: v1 :: v2 :: v3 :: v4 :: v5 :: v6 :: v7 :: v8 :: v9 :: v10 :: v11 :: v12 :: v13 :: v14 :: v15 :: v16 :: .ref ah_ :: v18 :: v19 :: v20 :: v21 :: .int (nI c1) :: .int (nI k1) :: v24 :: v25 :: v26 :: v27 :: v28 :: v29 :: v30 :: v31 :: v32 :: v33 :: v34 :: v35 :: v36 :: v37 :: v38 :: [])), (ah_, .inl (gB g, 4096, .inl fh))] H := hP
                  have hD : va_D A [(mm, .inr (7, v0 :: v1 :: v2 :: v3 :: v4 :: v5 :: v6 :: v7 :: v8 :: v9 :: v10 :: v11 :: v12 :: v13 :: v14 :: v15 :: v16 :: .ref ah_ :: v18 :: v19 :: v20 :: v21 :: .int (nI c1) :: .int (nI k1) :: v24 :: v25 :: v26 :: v27 :: v28 :: v29 :: v30 :: v31 :: v32 :: v33 :: v34 :: v35 :: v36 :: v37 :: v38 :: [])), (ah_, .inl (gB g, 4096, .inl fh))] := hD
                  have hF_63 : ¬ (pWord f w0 i 13) := hF_63
                  refine W.eq (g2 := F0 m 66 ls [.int (nI 0)]) rfl ?_
                  refine lv_if_eq (tgt := 74) hx hb dX9_words_66 (by decide) (fun _ => ?_) (fun c66 => absurd (by decide) c66)
                  refine lv_iload hx hb dX9_words_74 (lv_at hl 4 rfl) ?_
                  refine lv_iconst (v := nI 1) hx hb dX9_words_76 (by decide) ?_
                  refine q_iadd (v := nI (i + 1)) hx hb dX9_words_77 (nI_add i 1) ?_
                  refine lv_istore_n (lv' := [(3, .int (nI (i + 1))), (0, .ref mm), (1, .int (nI a0)), (2, .int (nI e0)), (4, .int (nI i))]) hx hb dX9_words_78 rfl hl (by decide) rfl (fun ls hl => ?_)
                  refine lv_iinc (v := nI (i + 1)) (lv' := [(4, .int (nI (i + 1))), (3, .int (nI (i + 1))), (0, .ref mm), (1, .int (nI a0)), (2, .int (nI e0))]) hx hb dX9_words_79 hl (k := 4) rfl (nI_inc i 1) (by decide) rfl (fun ls hl => ?_)
                  refine lv_goto (tgt := 5) hx hb dX9_words_82 (by decide) ?_
                  exact ih_K5 (i + 1) (i + 1) c1 k1 (by omega) (by omega) (by omega) (by omega) (by omega) (by (obtain ⟨m, h1, h2⟩ := hE; obtain ⟨m, rfl⟩ : ∃ k, m = k + 1 := ⟨m - 1, by omega⟩; first | exact ⟨m, by omega, h2.trans (wdL_2 (by omega) (fun z => z.elim c14 (fun z => z.elim c25 hF_34)))⟩ | exact ⟨m, by omega, h2.trans (wdL_1 (by omega) (by first | exact Or.inl c14 | exact Or.inr (Or.inl c25) | exact Or.inr (Or.inr hT_34)) (by first | exact iteC_p hT_46 | exact iteC_n hF_46) (by first | exact iteC_p hT_63 | exact iteC_n hF_63))⟩)) (by omega) _ _ _ (hP.sub [0, 1] rfl) (hD.sub [0, 1] (by decide) rfl) hS (lv_sub hl [2, 3, 4, 1, 0] rfl)
            · skip
              have hP : va_P (gD g) vwCl [(mm, .inr (7, v0 :: v1 :: v2 :: v3 :: v4 :: v5 :: v6 :: v7 :: v8 :: v9 :: v10 :: v11 :: v12 :: v13 :: v14 :: v15 :: v16 :: .ref ah_ :: v18 :: v19 :: v20 :: v21 :: .int (nI c1) :: .int (nI k1) :: v24 :: v25 :: v26 :: v27 :: v28 :: v29 :: v30 :: v31 :: v32 :: v33 :: v34 :: v35 :: v36 :: v37 :: v38 :: [])), (ah_, .inl (gB g, 4096, .inl fh))] H := hP
              have hD : va_D A [(mm, .inr (7, v0 :: v1 :: v2 :: v3 :: v4 :: v5 :: v6 :: v7 :: v8 :: v9 :: v10 :: v11 :: v12 :: v13 :: v14 :: v15 :: v16 :: .ref ah_ :: v18 :: v19 :: v20 :: v21 :: .int (nI c1) :: .int (nI k1) :: v24 :: v25 :: v26 :: v27 :: v28 :: v29 :: v30 :: v31 :: v32 :: v33 :: v34 :: v35 :: v36 :: v37 :: v38 :: [])), (ah_, .inl (gB g, 4096, .inl fh))] := hD
              have hF_34 : ¬ (pSpace (f i &&& 255)) := hF_34
              refine W.eq (g2 := F0 m 37 ls [.int (nI 0)]) rfl ?_
              refine lv_if_eq (tgt := 79) hx hb dX9_words_37 (by decide) (fun _ => ?_) (fun c37 => absurd (by decide) c37)
              refine lv_iinc (v := nI (i + 1)) (lv' := [(4, .int (nI (i + 1))), (0, .ref mm), (1, .int (nI a0)), (2, .int (nI e0)), (3, .int (nI w0))]) hx hb dX9_words_79 hl (k := 4) rfl (nI_inc i 1) (by decide) rfl (fun ls hl => ?_)
              refine lv_goto (tgt := 5) hx hb dX9_words_82 (by decide) ?_
              exact ih_K5 (i + 1) w0 c1 k1 (by omega) (by omega) (by omega) (by omega) (by omega) (by (obtain ⟨m, h1, h2⟩ := hE; obtain ⟨m, rfl⟩ : ∃ k, m = k + 1 := ⟨m - 1, by omega⟩; first | exact ⟨m, by omega, h2.trans (wdL_2 (by omega) (fun z => z.elim c14 (fun z => z.elim c25 hF_34)))⟩ | exact ⟨m, by omega, h2.trans (wdL_1 (by omega) (by first | exact Or.inl c14 | exact Or.inr (Or.inl c25) | exact Or.inr (Or.inr hT_34)) (by first | exact iteC_p hT_46 | exact iteC_n hF_46) (by first | exact iteC_p hT_63 | exact iteC_n hF_63))⟩)) (by omega) _ _ _ (hP.sub [0, 1] rfl) (hD.sub [0, 1] (by decide) rfl) hS (lv_sub hl [1, 2, 3, 4, 0] rfl)
  exact K5 ((e0 + 1 - a0) + 1) a0 a0 m_close m_keep (by omega) (by omega) (by omega) (by omega) (by omega) (by exact ⟨e0 + 2, by omega, rfl⟩) (Nat.lt_succ_self _) _ _ _ (hP.sub [0, 1] rfl) (hD.sub [0, 1] (by decide) rfl) hS (lv_sub hl [2, 3, 4, 1, 0] rfl)
