theorem slen_le : ∀ k, k < 84 → slen k ≤ 31 := by decide +kernel
set_option maxHeartbeats 4000000 in
set_option maxRecDepth 100000 in
theorem c_coder (l : Launch) (g : GT) (k : Nat) (hk : k < 84) : CT l g yJ0_coder_7d493 wsJ0_coder_7d493 ({ frames := 0, cells := 0, slots := 0, locals := 0 } : Room) [.ref (gK g k)] [] (fun r w => (r = some (.int (nI 0)) ∧ w = [])) (0) (0) := by
  refine ct_of (cc := cJ0_coder_7d493) (maxL := 1) (ret := (some .byte)) (by decide) rfl (Nat.le_of_ble_eq_true rfl) ?_
  intro p e s m args below meth c A Q hx hb hr hml hown hts hlocks hnam hAe hQ hA hG hK hP hD hS ls hl
  have hl : lv_has ls 1 [(0, .ref (gK g k))] := hl
  have hown : s.vm.findClass RJ0 = some m.cls := hown
  have hf15 := hts (.fieldLink RJ0 15 "java/lang/String" "coder" "B") (by decide +kernel)
  have hf38 := hts (.fieldLink RJ0 38 "java/lang/String" "COMPACT_STRINGS" "Z") (by decide +kernel)
  refine va_gets hx hb hG.2.1 hS hown hf38 (fun _ h9 => h9) dJ0_coder_7d493_0 ?_
  refine q_top (v := nI 1) (by decide) ?_
  refine lv_if_eq (tgt := 13) hx hb dJ0_coder_7d493_3 (by decide) (fun c3 => absurd c3 (by decide)) (fun _ => ?_)
  refine lv_aload_n hx hb dJ0_coder_7d493_6 rfl (lv_at hl 0 rfl) ?_
  refine vk_getf hx hb ((hG.1 k (by assumption)).2.1) hS hown hf15 (fun _ h9 => h9) dJ0_coder_7d493_7 ?_
  refine lv_goto (tgt := 14) hx hb dJ0_coder_7d493_10 (by decide) ?_
  refine ct_iret (w := []) hx hb hr rfl hlocks hQ hAe hK (hP.sub [] rfl) (hD.sub [] (by decide) rfl) hS (by omega) (by omega) dJ0_coder_7d493_14 ?_
  exact ⟨rfl, rfl⟩

set_option maxHeartbeats 4000000 in
set_option maxRecDepth 100000 in
theorem c_isLatin1 (l : Launch) (g : GT) (k : Nat) (hk : k < 84) : CT l g yJ0_isLatin1_aae02 wsJ0_isLatin1_aae02 ({ frames := 0, cells := 0, slots := 0, locals := 0 } : Room) [.ref (gK g k)] [] (fun r w => (r = some (.int (nI 1)) ∧ w = [])) (0) (0) := by
  refine ct_of (cc := cJ0_isLatin1_aae02) (maxL := 1) (ret := (some .boolean)) (by decide) rfl (Nat.le_of_ble_eq_true rfl) ?_
  intro p e s m args below meth c A Q hx hb hr hml hown hts hlocks hnam hAe hQ hA hG hK hP hD hS ls hl
  have hl : lv_has ls 1 [(0, .ref (gK g k))] := hl
  have hown : s.vm.findClass RJ0 = some m.cls := hown
  have hf15 := hts (.fieldLink RJ0 15 "java/lang/String" "coder" "B") (by decide +kernel)
  have hf38 := hts (.fieldLink RJ0 38 "java/lang/String" "COMPACT_STRINGS" "Z") (by decide +kernel)
  refine va_gets hx hb hG.2.1 hS hown hf38 (fun _ h9 => h9) dJ0_isLatin1_aae02_0 ?_
  refine q_top (v := nI 1) (by decide) ?_
  refine lv_if_eq (tgt := 17) hx hb dJ0_isLatin1_aae02_3 (by decide) (fun c3 => absurd c3 (by decide)) (fun _ => ?_)
  refine lv_aload_n hx hb dJ0_isLatin1_aae02_6 rfl (lv_at hl 0 rfl) ?_
  refine vk_getf hx hb ((hG.1 k (by assumption)).2.1) hS hown hf15 (fun _ h9 => h9) dJ0_isLatin1_aae02_7 ?_
  refine lv_if_ne (tgt := 17) hx hb dJ0_isLatin1_aae02_10 (by decide) (fun c10 => absurd (by decide) c10) (fun _ => ?_)
  refine lv_iconst (v := nI 1) hx hb dJ0_isLatin1_aae02_13 (by decide) ?_
  refine lv_goto (tgt := 18) hx hb dJ0_isLatin1_aae02_14 (by decide) ?_
  refine ct_iret (w := []) hx hb hr rfl hlocks hQ hAe hK (hP.sub [] rfl) (hD.sub [] (by decide) rfl) hS (by omega) (by omega) dJ0_isLatin1_aae02_18 ?_
  exact ⟨rfl, rfl⟩

set_option maxHeartbeats 4000000 in
set_option maxRecDepth 100000 in
theorem c_slen (l : Launch) (g : GT) (k : Nat) (hk : k < 84) : CT l g yJ0_length_8abf5 wsJ0_length_8abf5 ({ frames := 1, cells := 0, slots := 0, locals := 20 } : Room) [.ref (gK g k)] [] (fun r w => (r = some (.int (nI (slen k))) ∧ w = [])) (0) (0) := by
  refine ct_of (cc := cJ0_length_8abf5) (maxL := 1) (ret := (some .int)) (by decide) rfl (Nat.le_of_ble_eq_true rfl) ?_
  intro p e s m args below meth c A Q hx hb hr hml hown hts hlocks hnam hAe hQ hA hG hK hP hD hS ls hl
  have hl : lv_has ls 1 [(0, .ref (gK g k))] := hl
  have hown : s.vm.findClass RJ0 = some m.cls := hown
  have hf9 := hts (.fieldLink RJ0 9 "java/lang/String" "value" "[B") (by decide +kernel)
  refine lv_aload_n hx hb dJ0_length_8abf5_0 rfl (lv_at hl 0 rfl) ?_
  refine vk_getf hx hb ((hG.1 k (by assumption)).2.2.1) hS hown hf9 (fun _ h9 => h9) dJ0_length_8abf5_1 ?_
  refine va_tlen hx hb ((hG.1 k (by assumption)).2.2.2.1) hS (v := nI (slen k)) rfl dJ0_length_8abf5_4 ?_
  refine lv_aload_n hx hb dJ0_length_8abf5_5 rfl (lv_at hl 0 rfl) ?_
  refine ct_callV (wr := []) hx hb hml hown hts hK hP hD hS hA hG hl.1 (c_coder l g k (by first | assumption | decide)) (cwV 0 hts gJ0_length_8abf5_J0_coder_7d493 rfl rfl rfl (by decide +kernel) ⟨Nat.le_of_ble_eq_true rfl, Nat.le_of_ble_eq_true rfl⟩) (st_recv hG (k := k) (by assumption) hS) rfl rfl (Nat.le_of_ble_eq_true rfl) dJ0_length_8abf5_6 ⟨show 0 + 0 ≤ 0 by omega, show 0 + 0 ≤ 0 by omega⟩ [] [] rfl rfl (by decide) (by decide) (by decide) (fun r_ w_ H locs hp_ hP hD hS => ?_)
  obtain ⟨rfl, rfl⟩ := hp_
  have hP : va_P (gD g) vwCl [] H := hP
  have hD : va_D A [] := hD
  refine W.eq (g2 := F0 m 9 ls [.int (nI 0), .int (nI (slen k))]) rfl ?_
  refine q_ishr (v := nI (slen k)) hx hb dJ0_length_8abf5_9 (sb_shr0 _) ?_
  refine ct_iret (w := []) hx hb hr rfl hlocks hQ hAe hK (hP.sub [] rfl) (hD.sub [] (by decide) rfl) hS (by omega) (by omega) dJ0_length_8abf5_10 ?_
  exact ⟨rfl, rfl⟩

set_option maxHeartbeats 4000000 in
set_option maxRecDepth 100000 in
theorem c_pciN (l : Launch) (g : GT) (i : Nat) (n : Nat) (hi : i < n) (hn : n < 2 ^ 30) : CT l g yJ3_checkIndex_8e157 wsJ3_checkIndex_8e157 ({ frames := 0, cells := 0, slots := 0, locals := 0 } : Room) [.int (nI i), .int (nI n), .null] [] (fun r w => (r = some (.int (nI i)) ∧ w = [])) (0) (0) := by
  refine ct_of (cc := cJ3_checkIndex_8e157) (maxL := 3) (ret := (some .int)) (by decide) rfl (Nat.le_of_ble_eq_true rfl) ?_
  intro p e s m args below meth c A Q hx hb hr hml hown hts hlocks hnam hAe hQ hA hG hK hP hD hS ls hl
  have hl : lv_has ls 3 [(0, .int (nI i)), (1, .int (nI n)), (2, .null)] := hl
  have hown : s.vm.findClass RJ3 = some m.cls := hown
  refine lv_iload_n hx hb dJ3_checkIndex_8e157_0 rfl (lv_at hl 0 rfl) ?_
  refine lv_if_lt (tgt := 9) hx hb dJ3_checkIndex_8e157_1 (by decide) (fun c1 => ?_) (fun c1 => ?_)
  · skip
    have c1 : i < 0 := (nI_ltI (a := i) (b := 0) (by omega) (by omega)).mp c1
    exact absurd c1 (by omega)
  · skip
    have c1 : ¬ (i < 0) := fun z => c1 ((nI_ltI (a := i) (b := 0) (by omega) (by omega)).mpr z)
    refine lv_iload_n hx hb dJ3_checkIndex_8e157_4 rfl (lv_at hl 0 rfl) ?_
    refine lv_iload_n hx hb dJ3_checkIndex_8e157_5 rfl (lv_at hl 1 rfl) ?_
    refine lv_icmp_lt (tgt := 16) hx hb dJ3_checkIndex_8e157_6 (by decide) (fun c6 => ?_) (fun c6 => ?_)
    · skip
      have c6 : i < n := (nI_ltI (a := i) (b := n) (by omega) (by omega)).mp c6
      refine lv_iload_n hx hb dJ3_checkIndex_8e157_16 rfl (lv_at hl 0 rfl) ?_
      refine ct_iret (w := []) hx hb hr rfl hlocks hQ hAe hK (hP.sub [] rfl) (hD.sub [] (by decide) rfl) hS (by omega) (by omega) dJ3_checkIndex_8e157_17 ?_
      exact ⟨rfl, rfl⟩
    · skip
      have c6 : ¬ (i < n) := fun z => c6 ((nI_ltI (a := i) (b := n) (by omega) (by omega)).mpr z)
      exact absurd hi c6

set_option maxHeartbeats 4000000 in
set_option maxRecDepth 100000 in
theorem c_pciR (l : Launch) (g : GT) (i : Nat) (n : Nat) (t : Nat) (hi : i < n) (hn : n < 2 ^ 30) : CT l g yJ3_checkIndex_8e157 wsJ3_checkIndex_8e157 ({ frames := 0, cells := 0, slots := 0, locals := 0 } : Room) [.int (nI i), .int (nI n), .ref t] [] (fun r w => (r = some (.int (nI i)) ∧ w = [])) (0) (0) := by
  refine ct_of (cc := cJ3_checkIndex_8e157) (maxL := 3) (ret := (some .int)) (by decide) rfl (Nat.le_of_ble_eq_true rfl) ?_
  intro p e s m args below meth c A Q hx hb hr hml hown hts hlocks hnam hAe hQ hA hG hK hP hD hS ls hl
  have hl : lv_has ls 3 [(0, .int (nI i)), (1, .int (nI n)), (2, .ref t)] := hl
  have hown : s.vm.findClass RJ3 = some m.cls := hown
  refine lv_iload_n hx hb dJ3_checkIndex_8e157_0 rfl (lv_at hl 0 rfl) ?_
  refine lv_if_lt (tgt := 9) hx hb dJ3_checkIndex_8e157_1 (by decide) (fun c1 => ?_) (fun c1 => ?_)
  · skip
    have c1 : i < 0 := (nI_ltI (a := i) (b := 0) (by omega) (by omega)).mp c1
    exact absurd c1 (by omega)
  · skip
    have c1 : ¬ (i < 0) := fun z => c1 ((nI_ltI (a := i) (b := 0) (by omega) (by omega)).mpr z)
    refine lv_iload_n hx hb dJ3_checkIndex_8e157_4 rfl (lv_at hl 0 rfl) ?_
    refine lv_iload_n hx hb dJ3_checkIndex_8e157_5 rfl (lv_at hl 1 rfl) ?_
    refine lv_icmp_lt (tgt := 16) hx hb dJ3_checkIndex_8e157_6 (by decide) (fun c6 => ?_) (fun c6 => ?_)
    · skip
      have c6 : i < n := (nI_ltI (a := i) (b := n) (by omega) (by omega)).mp c6
      refine lv_iload_n hx hb dJ3_checkIndex_8e157_16 rfl (lv_at hl 0 rfl) ?_
      refine ct_iret (w := []) hx hb hr rfl hlocks hQ hAe hK (hP.sub [] rfl) (hD.sub [] (by decide) rfl) hS (by omega) (by omega) dJ3_checkIndex_8e157_17 ?_
      exact ⟨rfl, rfl⟩
    · skip
      have c6 : ¬ (i < n) := fun z => c6 ((nI_ltI (a := i) (b := n) (by omega) (by omega)).mpr z)
      exact absurd hi c6

set_option maxHeartbeats 4000000 in
set_option maxRecDepth 100000 in
theorem c_sci (l : Launch) (g : GT) (i : Nat) (n : Nat) (hi : i < n) (hn : n < 2 ^ 30) : CT l g yJ0_checkIndex_df160 wsJ0_checkIndex_df160 ({ frames := 1, cells := 0, slots := 0, locals := 22 } : Room) [.int (nI i), .int (nI n)] [] (fun r w => (r = none ∧ w = [])) (0) (0) := by
  refine ct_of (cc := cJ0_checkIndex_df160) (maxL := 2) (ret := none) (by decide) rfl (Nat.le_of_ble_eq_true rfl) ?_
  intro p e s m args below meth c A Q hx hb hr hml hown hts hlocks hnam hAe hQ hA hG hK hP hD hS ls hl
  have hl : lv_has ls 2 [(0, .int (nI i)), (1, .int (nI n))] := hl
  have hown : s.vm.findClass RJ0 = some m.cls := hown
  have hf1053 := hts (.fieldLink RJ0 1053 "jdk/internal/util/Preconditions" "SIOOBE_FORMATTER" "Ljava/util/function/BiFunction;") (by decide +kernel)
  refine lv_iload_n hx hb dJ0_checkIndex_df160_0 rfl (lv_at hl 0 rfl) ?_
  refine lv_iload_n hx hb dJ0_checkIndex_df160_1 rfl (lv_at hl 1 rfl) ?_
  rcases hG.2.2.1 with hZq | ⟨tq, hZq⟩
  · skip
    refine va_gets hx hb hZq hS hown hf1053 (fun _ h9 => h9) dJ0_checkIndex_df160_2 ?_
    refine ct_callS (wr := []) hx hb hml hown hts hK hP hD hS hA hG hl.1 (c_pciN l g i n (by omega) (by omega)) (va_cwS 3 hts gJ0_checkIndex_df160_J3_checkIndex_8e157 rfl rfl rfl (by decide +kernel) ⟨Nat.le_of_ble_eq_true rfl, Nat.le_of_ble_eq_true rfl⟩) rfl rfl (Nat.le_of_ble_eq_true rfl) dJ0_checkIndex_df160_5 ⟨show 0 + 0 ≤ 0 by omega, show 0 + 0 ≤ 0 by omega⟩ [] [] rfl rfl (by decide) (by decide) (by decide) (fun r_ w_ H locs hp_ hP hD hS => ?_)
    obtain ⟨rfl, rfl⟩ := hp_
    have hP : va_P (gD g) vwCl [] H := hP
    have hD : va_D A [] := hD
    refine W.eq (g2 := F0 m 8 ls [.int (nI i)]) rfl ?_
    refine lv_pop hx hb dJ0_checkIndex_df160_8 rfl ?_
    refine ct_vret (w := []) hx hb hr hlocks hQ hAe hK (hP.sub [] rfl) (hD.sub [] (by decide) rfl) hS (by omega) (by omega) dJ0_checkIndex_df160_9 ?_
    exact ⟨rfl, rfl⟩
  · skip
    refine va_gets hx hb hZq hS hown hf1053 (fun _ h9 => h9) dJ0_checkIndex_df160_2 ?_
    refine ct_callS (wr := []) hx hb hml hown hts hK hP hD hS hA hG hl.1 (c_pciR l g i n tq (by omega) (by omega)) (va_cwS 3 hts gJ0_checkIndex_df160_J3_checkIndex_8e157 rfl rfl rfl (by decide +kernel) ⟨Nat.le_of_ble_eq_true rfl, Nat.le_of_ble_eq_true rfl⟩) rfl rfl (Nat.le_of_ble_eq_true rfl) dJ0_checkIndex_df160_5 ⟨show 0 + 0 ≤ 0 by omega, show 0 + 0 ≤ 0 by omega⟩ [] [] rfl rfl (by decide) (by decide) (by decide) (fun r_ w_ H locs hp_ hP hD hS => ?_)
    obtain ⟨rfl, rfl⟩ := hp_
    have hP : va_P (gD g) vwCl [] H := hP
    have hD : va_D A [] := hD
    refine W.eq (g2 := F0 m 8 ls [.int (nI i)]) rfl ?_
    refine lv_pop hx hb dJ0_checkIndex_df160_8 rfl ?_
    refine ct_vret (w := []) hx hb hr hlocks hQ hAe hK (hP.sub [] rfl) (hD.sub [] (by decide) rfl) hS (by omega) (by omega) dJ0_checkIndex_df160_9 ?_
    exact ⟨rfl, rfl⟩

set_option maxHeartbeats 4000000 in
set_option maxRecDepth 100000 in
theorem c_lcharAt (l : Launch) (g : GT) (k : Nat) (i : Nat) (hk : k < 84) (hi : i < slen k) : CT l g yJ1_charAt_3b067 wsJ1_charAt_3b067 ({ frames := 2, cells := 0, slots := 0, locals := 43 } : Room) [.ref (gV g k), .int (nI i)] [] (fun r w => (r = some (.int (sbyt k i &&& 255)) ∧ w = [])) (0) (0) := by
  refine ct_of (cc := cJ1_charAt_3b067) (maxL := 2) (ret := (some .char)) (by decide) rfl (Nat.le_of_ble_eq_true rfl) ?_
  intro p e s m args below meth c A Q hx hb hr hml hown hts hlocks hnam hAe hQ hA hG hK hP hD hS ls hl
  have hl : lv_has ls 2 [(0, .ref (gV g k)), (1, .int (nI i))] := hl
  have hown : s.vm.findClass RJ1 = some m.cls := hown
  have hsl := slen_le k hk
  refine lv_iload_n hx hb dJ1_charAt_3b067_0 rfl (lv_at hl 1 rfl) ?_
  refine lv_aload_n hx hb dJ1_charAt_3b067_1 rfl (lv_at hl 0 rfl) ?_
  refine va_tlen hx hb ((hG.1 k (by assumption)).2.2.2.1) hS (v := nI (slen k)) rfl dJ1_charAt_3b067_2 ?_
  refine ct_callS (wr := []) hx hb hml hown hts hK hP hD hS hA hG hl.1 (c_sci l g i (slen k) (by omega) (by omega)) (va_cwS 2 hts gJ1_charAt_3b067_J0_checkIndex_df160 rfl rfl rfl (by decide +kernel) ⟨Nat.le_of_ble_eq_true rfl, Nat.le_of_ble_eq_true rfl⟩) rfl rfl (Nat.le_of_ble_eq_true rfl) dJ1_charAt_3b067_3 ⟨show 0 + 0 ≤ 0 by omega, show 0 + 0 ≤ 0 by omega⟩ [] [] rfl rfl (by decide) (by decide) (by decide) (fun r_ w_ H locs hp_ hP hD hS => ?_)
  obtain ⟨rfl, rfl⟩ := hp_
  have hP : va_P (gD g) vwCl [] H := hP
  have hD : va_D A [] := hD
  refine W.eq (g2 := F0 m 6 ls []) rfl ?_
  refine lv_aload_n hx hb dJ1_charAt_3b067_6 rfl (lv_at hl 0 rfl) ?_
  refine lv_iload_n hx hb dJ1_charAt_3b067_7 rfl (lv_at hl 1 rfl) ?_
  refine va_tb hx hb ((hG.1 k (by assumption)).2.2.2.1) hS (i := nI i) (by exact vp_in_nI (by omega) (by omega)) (v := .int (sbyt k i)) (by show Value.int (sbyt _ _) = _; rw [nI_clamp (by omega)]) dJ1_charAt_3b067_8 ?_
  refine lv_sipush (v := nI 255) hx hb dJ1_charAt_3b067_9 (by decide) ?_
  refine q_iand (v := (sbyt k i) &&& 255) hx hb dJ1_charAt_3b067_12 (rfl) ?_
  refine lv_i2c (v := sbyt k i &&& 255) hx hb dJ1_charAt_3b067_13 (sc_c2 _) ?_
  refine ct_iret (w := []) hx hb hr (by exact sc_nar _) hlocks hQ hAe hK (hP.sub [] rfl) (hD.sub [] (by decide) rfl) hS (by omega) (by omega) dJ1_charAt_3b067_14 ?_
  exact ⟨rfl, rfl⟩

set_option maxHeartbeats 4000000 in
set_option maxRecDepth 100000 in
theorem c_charAt (l : Launch) (g : GT) (k : Nat) (i : Nat) (hk : k < 84) (hi : i < slen k) : CT l g yJ0_charAt_5068e wsJ0_charAt_5068e ({ frames := 3, cells := 0, slots := 0, locals := 64 } : Room) [.ref (gK g k), .int (nI i)] [] (fun r w => (r = some (.int (sbyt k i &&& 255)) ∧ w = [])) (0) (0) := by
  refine ct_of (cc := cJ0_charAt_5068e) (maxL := 2) (ret := (some .char)) (by decide) rfl (Nat.le_of_ble_eq_true rfl) ?_
  intro p e s m args below meth c A Q hx hb hr hml hown hts hlocks hnam hAe hQ hA hG hK hP hD hS ls hl
  have hl : lv_has ls 2 [(0, .ref (gK g k)), (1, .int (nI i))] := hl
  have hown : s.vm.findClass RJ0 = some m.cls := hown
  have hf9 := hts (.fieldLink RJ0 9 "java/lang/String" "value" "[B") (by decide +kernel)
  refine lv_aload_n hx hb dJ0_charAt_5068e_0 rfl (lv_at hl 0 rfl) ?_
  refine ct_callV (wr := []) hx hb hml hown hts hK hP hD hS hA hG hl.1 (c_isLatin1 l g k (by first | assumption | decide)) (cwV 0 hts gJ0_charAt_5068e_J0_isLatin1_aae02 rfl rfl rfl (by decide +kernel) ⟨Nat.le_of_ble_eq_true rfl, Nat.le_of_ble_eq_true rfl⟩) (st_recv hG (k := k) (by assumption) hS) rfl rfl (Nat.le_of_ble_eq_true rfl) dJ0_charAt_5068e_1 ⟨show 0 + 0 ≤ 0 by omega, show 0 + 0 ≤ 0 by omega⟩ [] [] rfl rfl (by decide) (by decide) (by decide) (fun r_ w_ H locs hp_ hP hD hS => ?_)
  obtain ⟨rfl, rfl⟩ := hp_
  have hP : va_P (gD g) vwCl [] H := hP
  have hD : va_D A [] := hD
  refine W.eq (g2 := F0 m 4 ls [.int (nI 1)]) rfl ?_
  refine lv_if_eq (tgt := 16) hx hb dJ0_charAt_5068e_4 (by decide) (fun c4 => absurd c4 (by decide)) (fun _ => ?_)
  refine lv_aload_n hx hb dJ0_charAt_5068e_7 rfl (lv_at hl 0 rfl) ?_
  refine vk_getf hx hb ((hG.1 k (by assumption)).2.2.1) hS hown hf9 (fun _ h9 => h9) dJ0_charAt_5068e_8 ?_
  refine lv_iload_n hx hb dJ0_charAt_5068e_11 rfl (lv_at hl 1 rfl) ?_
  refine ct_callS (wr := []) hx hb hml hown hts hK hP hD hS hA hG hl.1 (c_lcharAt l g k i (by first | assumption | decide) (by omega)) (va_cwS 2 hts gJ0_charAt_5068e_J1_charAt_3b067 rfl rfl rfl (by decide +kernel) ⟨Nat.le_of_ble_eq_true rfl, Nat.le_of_ble_eq_true rfl⟩) rfl rfl (Nat.le_of_ble_eq_true rfl) dJ0_charAt_5068e_12 ⟨show 0 + 0 ≤ 0 by omega, show 0 + 0 ≤ 0 by omega⟩ [] [] rfl rfl (by decide) (by decide) (by decide) (fun r_ w_ H locs hp_ hP hD hS => ?_)
  obtain ⟨rfl, rfl⟩ := hp_
  have hP : va_P (gD g) vwCl [] H := hP
  have hD : va_D A [] := hD
  refine W.eq (g2 := F0 m 15 ls [.int (sbyt k i &&& 255)]) rfl ?_
  refine ct_iret (w := []) hx hb hr (by exact sc_nar _) hlocks hQ hAe hK (hP.sub [] rfl) (hD.sub [] (by decide) rfl) hS (by omega) (by omega) dJ0_charAt_5068e_15 ?_
  exact ⟨rfl, rfl⟩
