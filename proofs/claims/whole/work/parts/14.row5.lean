theorem vis_nat {x : Int32} (h : pVis x) : ∃ n, n < 127 ∧ x = nI n := by
  obtain ⟨j, hj, rfl⟩ := nI_of (x := x) (fun z => h.1 (Int32.lt_trans z (by decide)))
  refine ⟨j, ?_, rfl⟩
  rcases Nat.lt_or_ge j 127 with z | z
  · exact z
  · exact absurd (nI_lt (a := 126) (b := j) (by omega) hj) h.2
theorem i2cN {n : Nat} (h : n < 65536) : ((nI n).toUInt32 % 65536).toInt32 = nI n := by
  rw [pk_char, pk_tn (by omega), Nat.mod_eq_of_lt h]
abbrev pValue (x : Int32) : Prop := x = nI 9 ∨ (¬ x < nI 32 ∧ x ≤ nI 126) ∨ ¬ x < nI 128
abbrev pNameC (x : Int32) : Prop := pGreat x ∨ pDigit x ∨ (¬ x < nI 97 ∧ x ≤ nI 122) ∨ (pVis x ∧ ∃ j, j < slen 6 ∧ sbyt 6 j &&& 255 = x)
def hexV (x : Int32) : Int32 := if pDigit x then x - nI 48 else if ¬ x < nI 97 ∧ ¬ nI 102 < x then x - nI 97 + nI 10 else if ¬ x < nI 65 ∧ ¬ nI 70 < x then x - nI 65 + nI 10 else -1
def nibU (v : Int32) (s : Nat) : Nat := (ush v s).toBitVec.toNat % 2 ^ 4
theorem nibU_lt (v : Int32) (s : Nat) : nibU v s < 16 := Nat.mod_lt _ (by decide)
def mkC (v : Int32) (i : Nat) : Int32 := if i = 0 ∨ 9 ≤ i then nI 34 else sbyt 15 (nibU v (4 * (8 - i))) &&& 255

theorem gc_le {lim n n1 a b c : Nat} (e : n1 = cpN lim n a) (hab : a ≤ b) (hbc : b ≤ c) (hb : c ≤ lim) (h2 : c ≤ 2 * n) : gcN n a + gcN n1 b ≤ gcN n c := by
  rw [e, gcN_add hab (by omega) (by omega)]
  unfold gcN
  split <;> split <;> omega
theorem gs_le {lim n n1 a b c : Nat} (e : n1 = cpN lim n a) (hab : a ≤ b) (hbc : b ≤ c) (hb : c ≤ lim) (h2 : c ≤ 2 * n) : gsN lim n a + gsN lim n1 b ≤ gsN lim n c := by
  rw [e, gsN_add hab (by omega) (by omega)]
  unfold gsN
  split <;> split <;> omega
theorem gc_mono {n b c : Nat} (hbc : b ≤ c) : gcN n b ≤ gcN n c := by unfold gcN; split <;> split <;> omega
theorem gs_mono {lim n b c : Nat} (hbc : b ≤ c) (h2 : c ≤ 2 * n) (hb : c ≤ lim) : gsN lim n b ≤ gsN lim n c := by unfold gsN; split <;> split <;> omega

theorem sb_ne : ∀ k, k < 84 → ∀ j, j < slen k → ¬ sbyt k j &&& 255 = -1 := by decide +kernel

set_option maxHeartbeats 4000000 in
set_option maxRecDepth 100000 in
theorem c_addInt (l : Launch) (g : GT) (h : Nat) (q : Nat) (lim : Nat) (n : Nat) (sz : Nat) (f : Nat → Int32) (v : Int32) (hsn : sz ≤ n) (hnb : n < 2 ^ 30) (hnl : n ≤ lim) (hlb : lim < 2 ^ 27) (hfit : sb_Fit f) (h256 : 256 ≤ n) (hk : sz + 4 ≤ lim) : CT l g yX4_addInt wsX4_addInt ({ frames := 3, cells := gcN n (sz + 4), slots := gsN lim n (sz + 4), locals := 84 } : Room) [.ref h, .int v] [(h, .inr (3, [.int (nI lim), .ref q, .int (nI sz)])), (q, .inl (gB g, n, .inl f))] (fun r w => (∃ (q1 : Nat) (n1 : Nat) (f1 : Nat → Int32), r = none ∧ w = [(h, .inr (3, [.int (nI lim), .ref q1, .int (nI (sz + 4))])), (q1, .inl (gB g, n1, .inl f1))] ∧ (n1 = cpN lim n (sz + 4)) ∧ (∀ j, j < sz → f1 j = f j) ∧ (f1 sz = (ush v 24).toInt8.toInt32) ∧ (f1 (sz + 1) = (ush v 16).toInt8.toInt32) ∧ (f1 (sz + 2) = (ush v 8).toInt8.toInt32) ∧ (f1 (sz + 3) = v.toInt8.toInt32) ∧ (sb_Fit f1))) (gcN n (sz + 4)) (gsN lim n (sz + 4)) := by
  refine ct_of (cc := cX4_addInt) (maxL := 2) (ret := none) (by decide) rfl (Nat.le_of_ble_eq_true rfl) ?_
  intro p e s m args below meth c A Q hx hb hr hml hown hts hlocks hnam hAe hQ hA hG hK hP hD hS ls hl
  have hl : lv_has ls 2 [(0, .ref h), (1, .int v)] := hl
  have hown : s.vm.findClass RX4 = some m.cls := hown
  refine lv_aload_n hx hb dX4_addInt_0 rfl (lv_at hl 0 rfl) ?_
  refine lv_iload_n hx hb dX4_addInt_1 rfl (lv_at hl 1 rfl) ?_
  refine lv_bipush (v := nI 24) hx hb dX4_addInt_2 (by decide) ?_
  refine lv_iushr (v := ush v 24) hx hb dX4_addInt_4 (rfl) ?_
  refine ct_callV (wr := []) hx hb hml hown hts hK hP hD hS hA hG hl.1 (c_add l g h q lim n sz f (ush v 24) (by omega) (by omega) (by omega) (by omega) (by assumption) (by omega)) (cwV 1 hts gX4_addInt_X4_add rfl rfl rfl (by decide +kernel) ⟨Nat.le_of_ble_eq_true rfl, Nat.le_of_ble_eq_true rfl⟩) (va_recv hK hP (ci := 3) (q0 := 0) rfl rfl) rfl rfl (Nat.le_of_ble_eq_true rfl) dX4_addInt_5 ⟨show 0 + (gcN n (sz + 1)) ≤ gcN n (sz + 4) by first | omega | (rw [Nat.zero_add]; first | exact gc_mono (by omega) | exact gs_mono (by omega) (by omega) (by omega)) | (first | exact gc_le (by assumption) (by omega) (by omega) (by omega) (by omega) | exact gs_le (by assumption) (by omega) (by omega) (by omega) (by omega)), show 0 + (gsN lim n (sz + 1)) ≤ gsN lim n (sz + 4) by first | omega | (rw [Nat.zero_add]; first | exact gc_mono (by omega) | exact gs_mono (by omega) (by omega) (by omega)) | (first | exact gc_le (by assumption) (by omega) (by omega) (by omega) (by omega) | exact gs_le (by assumption) (by omega) (by omega) (by omega) (by omega))⟩ [0, 1] [] rfl rfl (by decide) (by decide) (by decide) (fun r_ w_ H locs hp_ hP hD hS => ?_)
  obtain ⟨q1_5, n1_5, f1_5, rfl, rfl, en_5, ef_5, ev_5, ft_5⟩ := hp_
  have hP : va_P (gD g) vwCl [(h, .inr (3, [.int (nI lim), .ref q1_5, .int (nI (sz + 1))])), (q1_5, .inl (gB g, n1_5, .inl f1_5))] H := hP
  have hD : va_D A [(h, .inr (3, [.int (nI lim), .ref q1_5, .int (nI (sz + 1))])), (q1_5, .inl (gB g, n1_5, .inl f1_5))] := hD
  have en_5 : n1_5 = cpN lim n (sz + 1) := en_5
  have ef_5 : ∀ j, j < sz → f1_5 j = f j := ef_5
  have ev_5 : f1_5 sz = (ush v 24).toInt8.toInt32 := ev_5
  have ft_5 : sb_Fit f1_5 := ft_5
  refine W.widen (k := gcN n (sz + 1)) (n := gsN lim n (sz + 1)) (by omega) (by omega) ?_
  refine W.eq (g2 := F0 m 8 ls []) rfl ?_
  have ha1 := le_cpN lim n (sz + 1)
  have hb1 := cpN_le (lim := lim) (n := n) (need := sz + 1) (by omega) (by omega)
  have hc1 := n_le_cpN (lim := lim) (n := n) (need := sz + 1) (by omega)
  refine lv_aload_n hx hb dX4_addInt_8 rfl (lv_at hl 0 rfl) ?_
  refine lv_iload_n hx hb dX4_addInt_9 rfl (lv_at hl 1 rfl) ?_
  refine lv_bipush (v := nI 16) hx hb dX4_addInt_10 (by decide) ?_
  refine lv_iushr (v := ush v 16) hx hb dX4_addInt_12 (rfl) ?_
  refine ct_callV (wr := []) hx hb hml hown hts hK hP hD hS hA hG hl.1 (c_add l g h q1_5 lim n1_5 (sz + 1) f1_5 (ush v 16) (by omega) (by omega) (by omega) (by omega) (by assumption) (by omega)) (cwV 1 hts gX4_addInt_X4_add rfl rfl rfl (by decide +kernel) ⟨Nat.le_of_ble_eq_true rfl, Nat.le_of_ble_eq_true rfl⟩) (va_recv hK hP (ci := 3) (q0 := 0) rfl rfl) rfl rfl (Nat.le_of_ble_eq_true rfl) dX4_addInt_13 ⟨show gcN n (sz + 1) + (gcN n1_5 ((sz + 1) + 1)) ≤ gcN n (sz + 4) by first | omega | (rw [Nat.zero_add]; first | exact gc_mono (by omega) | exact gs_mono (by omega) (by omega) (by omega)) | (first | exact gc_le (by assumption) (by omega) (by omega) (by omega) (by omega) | exact gs_le (by assumption) (by omega) (by omega) (by omega) (by omega)), show gsN lim n (sz + 1) + (gsN lim n1_5 ((sz + 1) + 1)) ≤ gsN lim n (sz + 4) by first | omega | (rw [Nat.zero_add]; first | exact gc_mono (by omega) | exact gs_mono (by omega) (by omega) (by omega)) | (first | exact gc_le (by assumption) (by omega) (by omega) (by omega) (by omega) | exact gs_le (by assumption) (by omega) (by omega) (by omega) (by omega))⟩ [0, 1] [] rfl rfl (by decide) (by decide) (by decide) (fun r_ w_ H locs hp_ hP hD hS => ?_)
  obtain ⟨q1_13, n1_13, f1_13, rfl, rfl, en_13, ef_13, ev_13, ft_13⟩ := hp_
  have hP : va_P (gD g) vwCl [(h, .inr (3, [.int (nI lim), .ref q1_13, .int (nI ((sz + 1) + 1))])), (q1_13, .inl (gB g, n1_13, .inl f1_13))] H := hP
  have hD : va_D A [(h, .inr (3, [.int (nI lim), .ref q1_13, .int (nI ((sz + 1) + 1))])), (q1_13, .inl (gB g, n1_13, .inl f1_13))] := hD
  have en_13 : n1_13 = cpN lim n1_5 ((sz + 1) + 1) := en_13
  have ef_13 : ∀ j, j < (sz + 1) → f1_13 j = f1_5 j := ef_13
  have ev_13 : f1_13 (sz + 1) = (ush v 16).toInt8.toInt32 := ev_13
  have ft_13 : sb_Fit f1_13 := ft_13
  refine W.widen (k := gcN n (sz + 1) + (gcN n1_5 ((sz + 1) + 1))) (n := gsN lim n (sz + 1) + (gsN lim n1_5 ((sz + 1) + 1))) (by omega) (by omega) ?_
  refine W.eq (g2 := F0 m 16 ls []) rfl ?_
  have en_13 : n1_13 = cpN lim n (sz + 2) := by rw [en_13, en_5]; exact cpN_cpN (by omega) (by omega) (by omega)
  refine W.widen (k := gcN n (sz + 2)) (n := gsN lim n (sz + 2)) (by rw [en_5]; exact Nat.le_of_eq (gcN_add (by omega) (by omega) (by omega))) (by rw [en_5]; exact Nat.le_of_eq (gsN_add (by omega) (by omega) (by omega))) ?_
  have ha2 := le_cpN lim n (sz + 2)
  have hb2 := cpN_le (lim := lim) (n := n) (need := sz + 2) (by omega) (by omega)
  have hc2 := n_le_cpN (lim := lim) (n := n) (need := sz + 2) (by omega)
  refine lv_aload_n hx hb dX4_addInt_16 rfl (lv_at hl 0 rfl) ?_
  refine lv_iload_n hx hb dX4_addInt_17 rfl (lv_at hl 1 rfl) ?_
  refine lv_bipush (v := nI 8) hx hb dX4_addInt_18 (by decide) ?_
  refine lv_iushr (v := ush v 8) hx hb dX4_addInt_20 (rfl) ?_
  refine ct_callV (wr := []) hx hb hml hown hts hK hP hD hS hA hG hl.1 (c_add l g h q1_13 lim n1_13 ((sz + 1) + 1) f1_13 (ush v 8) (by omega) (by omega) (by omega) (by omega) (by assumption) (by omega)) (cwV 1 hts gX4_addInt_X4_add rfl rfl rfl (by decide +kernel) ⟨Nat.le_of_ble_eq_true rfl, Nat.le_of_ble_eq_true rfl⟩) (va_recv hK hP (ci := 3) (q0 := 0) rfl rfl) rfl rfl (Nat.le_of_ble_eq_true rfl) dX4_addInt_21 ⟨show gcN n (sz + 2) + (gcN n1_13 (((sz + 1) + 1) + 1)) ≤ gcN n (sz + 4) by first | omega | (rw [Nat.zero_add]; first | exact gc_mono (by omega) | exact gs_mono (by omega) (by omega) (by omega)) | (first | exact gc_le (by assumption) (by omega) (by omega) (by omega) (by omega) | exact gs_le (by assumption) (by omega) (by omega) (by omega) (by omega)), show gsN lim n (sz + 2) + (gsN lim n1_13 (((sz + 1) + 1) + 1)) ≤ gsN lim n (sz + 4) by first | omega | (rw [Nat.zero_add]; first | exact gc_mono (by omega) | exact gs_mono (by omega) (by omega) (by omega)) | (first | exact gc_le (by assumption) (by omega) (by omega) (by omega) (by omega) | exact gs_le (by assumption) (by omega) (by omega) (by omega) (by omega))⟩ [0, 1] [] rfl rfl (by decide) (by decide) (by decide) (fun r_ w_ H locs hp_ hP hD hS => ?_)
  obtain ⟨q1_21, n1_21, f1_21, rfl, rfl, en_21, ef_21, ev_21, ft_21⟩ := hp_
  have hP : va_P (gD g) vwCl [(h, .inr (3, [.int (nI lim), .ref q1_21, .int (nI (((sz + 1) + 1) + 1))])), (q1_21, .inl (gB g, n1_21, .inl f1_21))] H := hP
  have hD : va_D A [(h, .inr (3, [.int (nI lim), .ref q1_21, .int (nI (((sz + 1) + 1) + 1))])), (q1_21, .inl (gB g, n1_21, .inl f1_21))] := hD
  have en_21 : n1_21 = cpN lim n1_13 (((sz + 1) + 1) + 1) := en_21
  have ef_21 : ∀ j, j < ((sz + 1) + 1) → f1_21 j = f1_13 j := ef_21
  have ev_21 : f1_21 ((sz + 1) + 1) = (ush v 8).toInt8.toInt32 := ev_21
  have ft_21 : sb_Fit f1_21 := ft_21
  refine W.widen (k := gcN n (sz + 2) + (gcN n1_13 (((sz + 1) + 1) + 1))) (n := gsN lim n (sz + 2) + (gsN lim n1_13 (((sz + 1) + 1) + 1))) (by omega) (by omega) ?_
  refine W.eq (g2 := F0 m 24 ls []) rfl ?_
  have en_21 : n1_21 = cpN lim n (sz + 3) := by rw [en_21, en_13]; exact cpN_cpN (by omega) (by omega) (by omega)
  refine W.widen (k := gcN n (sz + 3)) (n := gsN lim n (sz + 3)) (by rw [en_13]; exact Nat.le_of_eq (gcN_add (by omega) (by omega) (by omega))) (by rw [en_13]; exact Nat.le_of_eq (gsN_add (by omega) (by omega) (by omega))) ?_
  have ha3 := le_cpN lim n (sz + 3)
  have hb3 := cpN_le (lim := lim) (n := n) (need := sz + 3) (by omega) (by omega)
  have hc3 := n_le_cpN (lim := lim) (n := n) (need := sz + 3) (by omega)
  refine lv_aload_n hx hb dX4_addInt_24 rfl (lv_at hl 0 rfl) ?_
  refine lv_iload_n hx hb dX4_addInt_25 rfl (lv_at hl 1 rfl) ?_
  refine ct_callV (wr := []) hx hb hml hown hts hK hP hD hS hA hG hl.1 (c_add l g h q1_21 lim n1_21 (((sz + 1) + 1) + 1) f1_21 v (by omega) (by omega) (by omega) (by omega) (by assumption) (by omega)) (cwV 1 hts gX4_addInt_X4_add rfl rfl rfl (by decide +kernel) ⟨Nat.le_of_ble_eq_true rfl, Nat.le_of_ble_eq_true rfl⟩) (va_recv hK hP (ci := 3) (q0 := 0) rfl rfl) rfl rfl (Nat.le_of_ble_eq_true rfl) dX4_addInt_26 ⟨show gcN n (sz + 3) + (gcN n1_21 ((((sz + 1) + 1) + 1) + 1)) ≤ gcN n (sz + 4) by first | omega | (rw [Nat.zero_add]; first | exact gc_mono (by omega) | exact gs_mono (by omega) (by omega) (by omega)) | (first | exact gc_le (by assumption) (by omega) (by omega) (by omega) (by omega) | exact gs_le (by assumption) (by omega) (by omega) (by omega) (by omega)), show gsN lim n (sz + 3) + (gsN lim n1_21 ((((sz + 1) + 1) + 1) + 1)) ≤ gsN lim n (sz + 4) by first | omega | (rw [Nat.zero_add]; first | exact gc_mono (by omega) | exact gs_mono (by omega) (by omega) (by omega)) | (first | exact gc_le (by assumption) (by omega) (by omega) (by omega) (by omega) | exact gs_le (by assumption) (by omega) (by omega) (by omega) (by omega))⟩ [0, 1] [] rfl rfl (by decide) (by decide) (by decide) (fun r_ w_ H locs hp_ hP hD hS => ?_)
  obtain ⟨q1_26, n1_26, f1_26, rfl, rfl, en_26, ef_26, ev_26, ft_26⟩ := hp_
  have hP : va_P (gD g) vwCl [(h, .inr (3, [.int (nI lim), .ref q1_26, .int (nI ((((sz + 1) + 1) + 1) + 1))])), (q1_26, .inl (gB g, n1_26, .inl f1_26))] H := hP
  have hD : va_D A [(h, .inr (3, [.int (nI lim), .ref q1_26, .int (nI ((((sz + 1) + 1) + 1) + 1))])), (q1_26, .inl (gB g, n1_26, .inl f1_26))] := hD
  have en_26 : n1_26 = cpN lim n1_21 ((((sz + 1) + 1) + 1) + 1) := en_26
  have ef_26 : ∀ j, j < (((sz + 1) + 1) + 1) → f1_26 j = f1_21 j := ef_26
  have ev_26 : f1_26 (((sz + 1) + 1) + 1) = v.toInt8.toInt32 := ev_26
  have ft_26 : sb_Fit f1_26 := ft_26
  refine W.widen (k := gcN n (sz + 3) + (gcN n1_21 ((((sz + 1) + 1) + 1) + 1))) (n := gsN lim n (sz + 3) + (gsN lim n1_21 ((((sz + 1) + 1) + 1) + 1))) (by omega) (by omega) ?_
  refine W.eq (g2 := F0 m 29 ls []) rfl ?_
  have en_26 : n1_26 = cpN lim n (sz + 4) := by rw [en_26, en_21]; exact cpN_cpN (by omega) (by omega) (by omega)
  refine W.widen (k := gcN n (sz + 4)) (n := gsN lim n (sz + 4)) (by rw [en_21]; exact Nat.le_of_eq (gcN_add (by omega) (by omega) (by omega))) (by rw [en_21]; exact Nat.le_of_eq (gsN_add (by omega) (by omega) (by omega))) ?_
  have ha4 := le_cpN lim n (sz + 4)
  have hb4 := cpN_le (lim := lim) (n := n) (need := sz + 4) (by omega) (by omega)
  have hc4 := n_le_cpN (lim := lim) (n := n) (need := sz + 4) (by omega)
  refine ct_vret (w := [(h, .inr (3, [.int (nI lim), .ref q1_26, .int (nI ((((sz + 1) + 1) + 1) + 1))])), (q1_26, .inl (gB g, n1_26, .inl f1_26))]) hx hb hr hlocks hQ hAe hK (hP.sub [0, 1] rfl) (hD.sub [0, 1] (by decide) rfl) hS (by first | omega | (rw [Nat.zero_add]; first | exact gc_mono (by omega) | exact gs_mono (by omega) (by omega) (by omega)) | (first | exact gc_le (by assumption) (by omega) (by omega) (by omega) (by omega) | exact gs_le (by assumption) (by omega) (by omega) (by omega) (by omega))) (by first | omega | (rw [Nat.zero_add]; first | exact gc_mono (by omega) | exact gs_mono (by omega) (by omega) (by omega)) | (first | exact gc_le (by assumption) (by omega) (by omega) (by omega) (by omega) | exact gs_le (by assumption) (by omega) (by omega) (by omega) (by omega))) dX4_addInt_29 ?_
  exact ⟨q1_26, n1_26, f1_26, rfl, rfl, by assumption, by exact fun j hj => (ef_26 j (by omega)).trans ((ef_21 j (by omega)).trans ((ef_13 j (by omega)).trans (ef_5 j (by omega)))), by exact (ef_26 _ (by omega)).trans ((ef_21 _ (by omega)).trans ((ef_13 _ (by omega)).trans ev_5)), by exact (ef_26 _ (by omega)).trans ((ef_21 _ (by omega)).trans ev_13), by exact (ef_26 _ (by omega)).trans ev_21, by exact ev_26, by assumption⟩

set_option maxHeartbeats 4000000 in
set_option maxRecDepth 100000 in
theorem c_hasTextNeg (l : Launch) (g : GT) (h : Nat) (q : Nat) (lim : Nat) (n : Nat) (sz : Nat) (f : Nat → Int32) (k : Nat) (hsn : sz ≤ n) (hnb : n < 2 ^ 30) (hn9 : sz < 2 ^ 28) (hk : k < 84) (hlt : sz < slen k) : CT l g yX4_hasText wsX4_hasText ({ frames := 4, cells := 0, slots := 0, locals := 85 } : Room) [.ref h, .int (nI sz - nI (slen k)), .int (nI sz), .ref (gK g k)] [(h, .inr (3, [.int (nI lim), .ref q, .int (nI sz)])), (q, .inl (gB g, n, .inl f))] (fun r w => (r = some (.int (nI 0)) ∧ w = [(h, .inr (3, [.int (nI lim), .ref q, .int (nI sz)])), (q, .inl (gB g, n, .inl f))])) (0) (0) := by
  refine ct_of (cc := cX4_hasText) (maxL := 6) (ret := (some .boolean)) (by decide) rfl (Nat.le_of_ble_eq_true rfl) ?_
  intro p e s m args below meth c A Q hx hb hr hml hown hts hlocks hnam hAe hQ hA hG hK hP hD hS ls hl
  have hl : lv_has ls 6 [(0, .ref h), (1, .int (nI sz - nI (slen k))), (2, .int (nI sz)), (3, .ref (gK g k))] := hl
  have hown : s.vm.findClass RX4 = some m.cls := hown
  have hsl := slen_le k hk
  have hneg : nI sz - nI (slen k) < 0 := pk_sneg (by omega) hlt
  have e0 : nI sz - nI (slen k) + nI 0 = nI sz - nI (slen k) := Int32.add_zero _
  refine lv_iload_n hx hb dX4_hasText_0 rfl (lv_at hl 2 rfl) ?_
  refine lv_iload_n hx hb dX4_hasText_1 rfl (lv_at hl 1 rfl) ?_
  refine q_isub (v := nI (slen k)) hx hb dX4_hasText_2 (by rw [Int32.sub_eq_add_neg, Int32.neg_sub, Int32.sub_eq_add_neg, ← Int32.add_assoc, Int32.add_comm (nI sz), Int32.add_assoc, Int32.add_right_neg, Int32.add_zero]) ?_
  refine lv_aload_n hx hb dX4_hasText_3 rfl (lv_at hl 3 rfl) ?_
  refine ct_callV (wr := [(h, .inr (3, [.int (nI lim), .ref q, .int (nI sz)])), (q, .inl (gB g, n, .inl f))]) hx hb hml hown hts hK hP hD hS hA hG hl.1 (c_slen l g k (by first | assumption | decide)) (cwV 0 hts gX4_hasText_J0_length_8abf5 rfl rfl rfl (by decide +kernel) ⟨Nat.le_of_ble_eq_true rfl, Nat.le_of_ble_eq_true rfl⟩) (st_recv hG (k := k) (by assumption) hS) rfl rfl (Nat.le_of_ble_eq_true rfl) dX4_hasText_4 ⟨show 0 + 0 ≤ 0 by omega, show 0 + 0 ≤ 0 by omega⟩ [] [0, 1] rfl rfl (by decide) (by decide) (by decide) (fun r_ w_ H locs hp_ hP hD hS => ?_)
  obtain ⟨rfl, rfl⟩ := hp_
  have hP : va_P (gD g) vwCl [(h, .inr (3, [.int (nI lim), .ref q, .int (nI sz)])), (q, .inl (gB g, n, .inl f))] H := hP
  have hD : va_D A [(h, .inr (3, [.int (nI lim), .ref q, .int (nI sz)])), (q, .inl (gB g, n, .inl f))] := hD
  refine W.eq (g2 := F0 m 7 ls [.int (nI (slen k)), .int (nI (slen k))]) rfl ?_
  refine lv_icmp_ne (tgt := 14) hx hb dX4_hasText_7 (by decide) (fun c7 => ?_) (fun c7 => ?_)
  · skip
    have c7 : ¬ (slen k = slen k) := fun z => c7 ((nI_eq (a := slen k) (b := slen k) (by omega) (by omega)).mpr z)
    exact absurd rfl c7
  · skip
    have c7 : slen k = slen k := (nI_eq (a := slen k) (b := slen k) (by omega) (by omega)).mp c7
    refine lv_iconst (v := nI 1) hx hb dX4_hasText_10 (by decide) ?_
    refine lv_goto (tgt := 15) hx hb dX4_hasText_11 (by decide) ?_
    refine lv_istore (lv' := [(4, .int (nI 1)), (0, .ref h), (1, .int (nI sz - nI (slen k))), (2, .int (nI sz)), (3, .ref (gK g k))]) hx hb dX4_hasText_15 hl (by decide) rfl (fun ls hl => ?_)
    refine lv_iconst (v := nI 0) hx hb dX4_hasText_17 (by decide) ?_
    refine lv_istore (lv' := [(5, .int (nI 0)), (4, .int (nI 1)), (0, .ref h), (1, .int (nI sz - nI (slen k))), (2, .int (nI sz)), (3, .ref (gK g k))]) hx hb dX4_hasText_18 hl (by decide) rfl (fun ls hl => ?_)
    refine lv_iload hx hb dX4_hasText_20 (lv_at hl 1 rfl) ?_
    refine lv_if_eq (tgt := 64) hx hb dX4_hasText_22 (by decide) (fun c22 => absurd c22 (by decide)) (fun _ => ?_)
    refine lv_iload hx hb dX4_hasText_25 (lv_at hl 0 rfl) ?_
    refine lv_aload_n hx hb dX4_hasText_27 rfl (lv_at hl 5 rfl) ?_
    refine ct_callV (wr := [(h, .inr (3, [.int (nI lim), .ref q, .int (nI sz)])), (q, .inl (gB g, n, .inl f))]) hx hb hml hown hts hK hP hD hS hA hG hl.1 (c_slen l g k (by first | assumption | decide)) (cwV 0 hts gX4_hasText_J0_length_8abf5 rfl rfl rfl (by decide +kernel) ⟨Nat.le_of_ble_eq_true rfl, Nat.le_of_ble_eq_true rfl⟩) (st_recv hG (k := k) (by assumption) hS) rfl rfl (Nat.le_of_ble_eq_true rfl) dX4_hasText_28 ⟨show 0 + 0 ≤ 0 by omega, show 0 + 0 ≤ 0 by omega⟩ [] [0, 1] rfl rfl (by decide) (by decide) (by decide) (fun r_ w_ H locs hp_ hP hD hS => ?_)
    obtain ⟨rfl, rfl⟩ := hp_
    have hP : va_P (gD g) vwCl [(h, .inr (3, [.int (nI lim), .ref q, .int (nI sz)])), (q, .inl (gB g, n, .inl f))] H := hP
    have hD : va_D A [(h, .inr (3, [.int (nI lim), .ref q, .int (nI sz)])), (q, .inl (gB g, n, .inl f))] := hD
    refine W.eq (g2 := F0 m 31 ls [.int (nI (slen k)), .int (nI 0)]) rfl ?_
    refine lv_icmp_ge (tgt := 64) hx hb dX4_hasText_31 (by decide) (fun c31 => ?_) (fun c31 => ?_)
    · skip
      have c31 : slen k ≤ 0 := (nI_leI (a := slen k) (b := 0) (by omega) (by omega)).mp c31
      exact absurd c31 (by omega)
    · skip
      have c31 : ¬ (slen k ≤ 0) := fun z => c31 ((nI_leI (a := slen k) (b := 0) (by omega) (by omega)).mpr z)
      refine lv_aload_n hx hb dX4_hasText_34 rfl (lv_at hl 2 rfl) ?_
      refine lv_iload_n hx hb dX4_hasText_35 rfl (lv_at hl 3 rfl) ?_
      refine lv_iload hx hb dX4_hasText_36 (lv_at hl 0 rfl) ?_
      refine q_iadd (v := nI sz - nI (slen k)) hx hb dX4_hasText_38 (e0) ?_
      refine ct_callV (wr := []) hx hb hml hown hts hK hP hD hS hA hG hl.1 (c_getAny l g h q lim n sz f (nI sz - nI (slen k)) (by omega) (by omega)) (cwV 1 hts gX4_hasText_X4_get rfl rfl rfl (by decide +kernel) ⟨Nat.le_of_ble_eq_true rfl, Nat.le_of_ble_eq_true rfl⟩) (va_recv hK hP (ci := 3) (q0 := 0) rfl rfl) rfl rfl (Nat.le_of_ble_eq_true rfl) dX4_hasText_39 ⟨show 0 + 0 ≤ 0 by omega, show 0 + 0 ≤ 0 by omega⟩ [0, 1] [] rfl rfl (by decide) (by decide) (by decide) (fun r_ w_ H locs hp_ hP hD hS => ?_)
      rcases hp_ with ⟨rfl, rfl, hx1_39⟩ | ⟨j_39, rfl, rfl, hj_39, hj2_39⟩
      · skip
        have hP : va_P (gD g) vwCl [(h, .inr (3, [.int (nI lim), .ref q, .int (nI sz)])), (q, .inl (gB g, n, .inl f))] H := hP
        have hD : va_D A [(h, .inr (3, [.int (nI lim), .ref q, .int (nI sz)])), (q, .inl (gB g, n, .inl f))] := hD
        have hx1_39 : (nI sz - nI (slen k)) < 0 ∨ nI sz ≤ (nI sz - nI (slen k)) := hx1_39
        refine W.eq (g2 := F0 m 42 ls [.int (-1)]) rfl ?_
        refine lv_aload_n hx hb dX4_hasText_42 rfl (lv_at hl 5 rfl) ?_
        refine lv_iload hx hb dX4_hasText_43 (lv_at hl 0 rfl) ?_
        refine ct_callV (wr := [(h, .inr (3, [.int (nI lim), .ref q, .int (nI sz)])), (q, .inl (gB g, n, .inl f))]) hx hb hml hown hts hK hP hD hS hA hG hl.1 (c_charAt l g k 0 (by first | assumption | decide) (by omega)) (cwV 1 hts gX4_hasText_J0_charAt_5068e rfl rfl rfl (by decide +kernel) ⟨Nat.le_of_ble_eq_true rfl, Nat.le_of_ble_eq_true rfl⟩) (st_recv hG (k := k) (by assumption) hS) rfl rfl (Nat.le_of_ble_eq_true rfl) dX4_hasText_45 ⟨show 0 + 0 ≤ 0 by omega, show 0 + 0 ≤ 0 by omega⟩ [] [0, 1] rfl rfl (by decide) (by decide) (by decide) (fun r_ w_ H locs hp_ hP hD hS => ?_)
        obtain ⟨rfl, rfl⟩ := hp_
        have hP : va_P (gD g) vwCl [(h, .inr (3, [.int (nI lim), .ref q, .int (nI sz)])), (q, .inl (gB g, n, .inl f))] H := hP
        have hD : va_D A [(h, .inr (3, [.int (nI lim), .ref q, .int (nI sz)])), (q, .inl (gB g, n, .inl f))] := hD
        refine W.eq (g2 := F0 m 48 ls [.int (sbyt k 0 &&& 255), .int (-1)]) rfl ?_
        refine lv_icmp_ne (tgt := 55) hx hb dX4_hasText_48 (by decide) (fun c48 => ?_) (fun c48 => ?_)
        · skip
          skip
          refine lv_iconst (v := nI 0) hx hb dX4_hasText_55 (by decide) ?_
          refine lv_istore (lv' := [(4, .int (nI 0)), (5, .int (nI 0)), (0, .ref h), (1, .int (nI sz - nI (slen k))), (2, .int (nI sz)), (3, .ref (gK g k))]) hx hb dX4_hasText_56 hl (by decide) rfl (fun ls hl => ?_)
          refine lv_iinc (v := nI 1) (lv' := [(5, .int (nI 1)), (4, .int (nI 0)), (0, .ref h), (1, .int (nI sz - nI (slen k))), (2, .int (nI sz)), (3, .ref (gK g k))]) hx hb dX4_hasText_58 hl (k := 1) rfl (nI_inc 0 1) (by decide) rfl (fun ls hl => ?_)
          refine lv_goto (tgt := 20) hx hb dX4_hasText_61 (by decide) ?_
          refine lv_iload hx hb dX4_hasText_20 (lv_at hl 1 rfl) ?_
          refine lv_if_eq (tgt := 64) hx hb dX4_hasText_22 (by decide) (fun _ => ?_) (fun c22 => absurd (by decide) c22)
          refine lv_iload hx hb dX4_hasText_64 (lv_at hl 1 rfl) ?_
          refine ct_iret (w := [(h, .inr (3, [.int (nI lim), .ref q, .int (nI sz)])), (q, .inl (gB g, n, .inl f))]) hx hb hr rfl hlocks hQ hAe hK (hP.sub [0, 1] rfl) (hD.sub [0, 1] (by decide) rfl) hS (by omega) (by omega) dX4_hasText_66 ?_
          exact ⟨rfl, rfl⟩
        · skip
          exact absurd c48.symm (by first | exact sb_ne k hk _ (by omega) | (obtain ⟨z1, z2⟩ := And.intro hj_39 hneg; rw [z1] at z2; exact absurd z2 (nI_pos (by omega))))
      · skip
        have hP : va_P (gD g) vwCl [(h, .inr (3, [.int (nI lim), .ref q, .int (nI sz)])), (q, .inl (gB g, n, .inl f))] H := hP
        have hD : va_D A [(h, .inr (3, [.int (nI lim), .ref q, .int (nI sz)])), (q, .inl (gB g, n, .inl f))] := hD
        have hj_39 : (nI sz - nI (slen k)) = nI j_39 := hj_39
        have hj2_39 : j_39 < sz := hj2_39
        refine W.eq (g2 := F0 m 42 ls [.int (f j_39 &&& 255)]) rfl ?_
        refine lv_aload_n hx hb dX4_hasText_42 rfl (lv_at hl 5 rfl) ?_
        refine lv_iload hx hb dX4_hasText_43 (lv_at hl 0 rfl) ?_
        refine ct_callV (wr := [(h, .inr (3, [.int (nI lim), .ref q, .int (nI sz)])), (q, .inl (gB g, n, .inl f))]) hx hb hml hown hts hK hP hD hS hA hG hl.1 (c_charAt l g k 0 (by first | assumption | decide) (by omega)) (cwV 1 hts gX4_hasText_J0_charAt_5068e rfl rfl rfl (by decide +kernel) ⟨Nat.le_of_ble_eq_true rfl, Nat.le_of_ble_eq_true rfl⟩) (st_recv hG (k := k) (by assumption) hS) rfl rfl (Nat.le_of_ble_eq_true rfl) dX4_hasText_45 ⟨show 0 + 0 ≤ 0 by omega, show 0 + 0 ≤ 0 by omega⟩ [] [0, 1] rfl rfl (by decide) (by decide) (by decide) (fun r_ w_ H locs hp_ hP hD hS => ?_)
        obtain ⟨rfl, rfl⟩ := hp_
        have hP : va_P (gD g) vwCl [(h, .inr (3, [.int (nI lim), .ref q, .int (nI sz)])), (q, .inl (gB g, n, .inl f))] H := hP
        have hD : va_D A [(h, .inr (3, [.int (nI lim), .ref q, .int (nI sz)])), (q, .inl (gB g, n, .inl f))] := hD
        refine W.eq (g2 := F0 m 48 ls [.int (sbyt k 0 &&& 255), .int (f j_39 &&& 255)]) rfl ?_
        refine lv_icmp_ne (tgt := 55) hx hb dX4_hasText_48 (by decide) (fun c48 => ?_) (fun c48 => ?_)
        · skip
          skip
          refine lv_iconst (v := nI 0) hx hb dX4_hasText_55 (by decide) ?_
          refine lv_istore (lv' := [(4, .int (nI 0)), (5, .int (nI 0)), (0, .ref h), (1, .int (nI sz - nI (slen k))), (2, .int (nI sz)), (3, .ref (gK g k))]) hx hb dX4_hasText_56 hl (by decide) rfl (fun ls hl => ?_)
          refine lv_iinc (v := nI 1) (lv' := [(5, .int (nI 1)), (4, .int (nI 0)), (0, .ref h), (1, .int (nI sz - nI (slen k))), (2, .int (nI sz)), (3, .ref (gK g k))]) hx hb dX4_hasText_58 hl (k := 1) rfl (nI_inc 0 1) (by decide) rfl (fun ls hl => ?_)
          refine lv_goto (tgt := 20) hx hb dX4_hasText_61 (by decide) ?_
          refine lv_iload hx hb dX4_hasText_20 (lv_at hl 1 rfl) ?_
          refine lv_if_eq (tgt := 64) hx hb dX4_hasText_22 (by decide) (fun _ => ?_) (fun c22 => absurd (by decide) c22)
          refine lv_iload hx hb dX4_hasText_64 (lv_at hl 1 rfl) ?_
          refine ct_iret (w := [(h, .inr (3, [.int (nI lim), .ref q, .int (nI sz)])), (q, .inl (gB g, n, .inl f))]) hx hb hr rfl hlocks hQ hAe hK (hP.sub [0, 1] rfl) (hD.sub [0, 1] (by decide) rfl) hS (by omega) (by omega) dX4_hasText_66 ?_
          exact ⟨rfl, rfl⟩
        · skip
          exact absurd c48.symm (by first | exact sb_ne k hk _ (by omega) | (obtain ⟨z1, z2⟩ := And.intro hj_39 hneg; rw [z1] at z2; exact absurd z2 (nI_pos (by omega))))
