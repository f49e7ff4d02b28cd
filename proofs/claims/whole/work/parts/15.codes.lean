theorem hexV_1 {x : Int32} (h : pDigit x) : hexV x = x - nI 48 := if_pos h
theorem hexV_2 {x : Int32} (h : ¬ pDigit x) (h2 : ¬ x < nI 97 ∧ ¬ nI 102 < x) : hexV x = x - nI 97 + nI 10 := by rw [hexV, if_neg h, if_pos h2]
theorem hexV_3 {x : Int32} (h : ¬ pDigit x) (h2 : ¬ (¬ x < nI 97 ∧ ¬ nI 102 < x)) (h3 : ¬ x < nI 65 ∧ ¬ nI 70 < x) : hexV x = x - nI 65 + nI 10 := by rw [hexV, if_neg h, if_neg h2, if_pos h3]
theorem hexV_4 {x : Int32} (h : ¬ pDigit x) (h2 : ¬ (¬ x < nI 97 ∧ ¬ nI 102 < x)) (h3 : ¬ (¬ x < nI 65 ∧ ¬ nI 70 < x)) : hexV x = -1 := by rw [hexV, if_neg h, if_neg h2, if_neg h3]
def pEnds (f : Nat → Int32) (sz k : Nat) : Prop := slen k ≤ sz ∧ ∀ j, j < slen k → f (sz - slen k + j) &&& 255 = sbyt k j &&& 255

set_option maxHeartbeats 4000000 in
set_option maxRecDepth 100000 in
theorem c_endsWith (l : Launch) (g : GT) (h : Nat) (q : Nat) (lim : Nat) (n : Nat) (sz : Nat) (f : Nat → Int32) (k : Nat) (hsn : sz ≤ n) (hnb : n < 2 ^ 30) (hn9 : sz < 2 ^ 28) (hk : k < 84) : CT l g yX4_endsWith wsX4_endsWith ({ frames := 5, cells := 0, slots := 0, locals := 110 } : Room) [.ref h, .ref (gK g k)] [(h, .inr (3, [.int (nI lim), .ref q, .int (nI sz)])), (q, .inl (gB g, n, .inl f))] (fun r w => (r = some (.int (nI 1)) ∧ w = [(h, .inr (3, [.int (nI lim), .ref q, .int (nI sz)])), (q, .inl (gB g, n, .inl f))] ∧ (pEnds f sz k)) ∨ (r = some (.int (nI 0)) ∧ w = [(h, .inr (3, [.int (nI lim), .ref q, .int (nI sz)])), (q, .inl (gB g, n, .inl f))] ∧ (¬ (pEnds f sz k)))) (0) (0) := by
  refine ct_of (cc := cX4_endsWith) (maxL := 2) (ret := (some .boolean)) (by decide) rfl (Nat.le_of_ble_eq_true rfl) ?_
  intro p e s m args below meth c A Q hx hb hr hml hown hts hlocks hnam hAe hQ hA hG hK hP hD hS ls hl
  have hl : lv_has ls 2 [(0, .ref h), (1, .ref (gK g k))] := hl
  have hown : s.vm.findClass RX4 = some m.cls := hown
  have hinX4 : ∀ w ∈ u_ws RX4 TX4 3, w ∈ wsX4_endsWith := by decide +kernel
  have hf19 := hts (.fieldLink RX4 19 "RequestReader$Row" "size" "I") (by decide +kernel)
  have hsl := slen_le k hk
  refine lv_aload_n hx hb dX4_endsWith_0 rfl (lv_at hl 0 rfl) ?_
  refine lv_aload_n hx hb dX4_endsWith_1 rfl (lv_at hl 0 rfl) ?_
  refine va_get (D := gD g) (ci := 3) (v := .int (nI sz)) (C := RX4) (T := TX4) (N := 3) hx hb hts hinX4 hown hK hP 0 rfl rfl 2 (by decide) hf19 (fun _ h9 => h9) rfl dX4_endsWith_2 ?_
  refine lv_aload_n hx hb dX4_endsWith_5 rfl (lv_at hl 1 rfl) ?_
  refine ct_callV (wr := [(h, .inr (3, [.int (nI lim), .ref q, .int (nI sz)])), (q, .inl (gB g, n, .inl f))]) hx hb hml hown hts hK hP hD hS hA hG hl.1 (c_slen l g k (by first | assumption | decide)) (cwV 0 hts gX4_endsWith_J0_length_8abf5 rfl rfl rfl (by decide +kernel) ⟨Nat.le_of_ble_eq_true rfl, Nat.le_of_ble_eq_true rfl⟩) (st_recv hG (k := k) (by assumption) hS) rfl rfl (Nat.le_of_ble_eq_true rfl) dX4_endsWith_6 ⟨show 0 + 0 ≤ 0 by omega, show 0 + 0 ≤ 0 by omega⟩ [] [0, 1] rfl rfl (by decide) (by decide) (by decide) (fun r_ w_ H locs hp_ hP hD hS => ?_)
  obtain ⟨rfl, rfl⟩ := hp_
  have hP : va_P (gD g) vwCl [(h, .inr (3, [.int (nI lim), .ref q, .int (nI sz)])), (q, .inl (gB g, n, .inl f))] H := hP
  have hD : va_D A [(h, .inr (3, [.int (nI lim), .ref q, .int (nI sz)])), (q, .inl (gB g, n, .inl f))] := hD
  refine W.eq (g2 := F0 m 9 ls [.int (nI (slen k)), .int (nI sz), .ref h]) rfl ?_
  rcases Nat.lt_or_ge sz (slen k) with hcs | hcs
  · skip
    refine q_isub (v := nI sz - nI (slen k)) hx hb dX4_endsWith_9 (rfl) ?_
    refine lv_aload_n hx hb dX4_endsWith_10 rfl (lv_at hl 0 rfl) ?_
    refine va_get (D := gD g) (ci := 3) (v := .int (nI sz)) (C := RX4) (T := TX4) (N := 3) hx hb hts hinX4 hown hK hP 0 rfl rfl 2 (by decide) hf19 (fun _ h9 => h9) rfl dX4_endsWith_11 ?_
    refine lv_aload_n hx hb dX4_endsWith_14 rfl (lv_at hl 1 rfl) ?_
    refine ct_callV (wr := []) hx hb hml hown hts hK hP hD hS hA hG hl.1 (c_hasTextNeg l g h q lim n sz f k (by omega) (by omega) (by omega) (by first | assumption | decide) (by omega)) (cwV 3 hts gX4_endsWith_X4_hasText rfl rfl rfl (by decide +kernel) ⟨Nat.le_of_ble_eq_true rfl, Nat.le_of_ble_eq_true rfl⟩) (va_recv hK hP (ci := 3) (q0 := 0) rfl rfl) rfl rfl (Nat.le_of_ble_eq_true rfl) dX4_endsWith_15 ⟨show 0 + 0 ≤ 0 by omega, show 0 + 0 ≤ 0 by omega⟩ [0, 1] [] rfl rfl (by decide) (by decide) (by decide) (fun r_ w_ H locs hp_ hP hD hS => ?_)
    obtain ⟨rfl, rfl⟩ := hp_
    have hP : va_P (gD g) vwCl [(h, .inr (3, [.int (nI lim), .ref q, .int (nI sz)])), (q, .inl (gB g, n, .inl f))] H := hP
    have hD : va_D A [(h, .inr (3, [.int (nI lim), .ref q, .int (nI sz)])), (q, .inl (gB g, n, .inl f))] := hD
    refine W.eq (g2 := F0 m 18 ls [.int (nI 0)]) rfl ?_
    refine ct_iret (w := [(h, .inr (3, [.int (nI lim), .ref q, .int (nI sz)])), (q, .inl (gB g, n, .inl f))]) hx hb hr rfl hlocks hQ hAe hK (hP.sub [0, 1] rfl) (hD.sub [0, 1] (by decide) rfl) hS (by omega) (by omega) dX4_endsWith_18 ?_
    refine Or.inr ((?_))
    exact ⟨rfl, rfl, by first | exact fun z => absurd z.1 (by omega) | exact fun z => hF_15 ⟨by omega, z.2⟩⟩
  · skip
    refine q_isub (v := nI (sz - (slen k))) hx hb dX4_endsWith_9 (pk_sub (a := sz) (b := slen k) (by omega)) ?_
    refine lv_aload_n hx hb dX4_endsWith_10 rfl (lv_at hl 0 rfl) ?_
    refine va_get (D := gD g) (ci := 3) (v := .int (nI sz)) (C := RX4) (T := TX4) (N := 3) hx hb hts hinX4 hown hK hP 0 rfl rfl 2 (by decide) hf19 (fun _ h9 => h9) rfl dX4_endsWith_11 ?_
    refine lv_aload_n hx hb dX4_endsWith_14 rfl (lv_at hl 1 rfl) ?_
    refine ct_callV (wr := []) hx hb hml hown hts hK hP hD hS hA hG hl.1 (c_hasText l g h q lim n sz f (sz - (slen k)) sz k (by omega) (by omega) (by omega) (by omega) (by omega) (by first | assumption | decide)) (cwV 3 hts gX4_endsWith_X4_hasText rfl rfl rfl (by decide +kernel) ⟨Nat.le_of_ble_eq_true rfl, Nat.le_of_ble_eq_true rfl⟩) (va_recv hK hP (ci := 3) (q0 := 0) rfl rfl) rfl rfl (Nat.le_of_ble_eq_true rfl) dX4_endsWith_15 ⟨show 0 + 0 ≤ 0 by omega, show 0 + 0 ≤ 0 by omega⟩ [0, 1] [] rfl rfl (by decide) (by decide) (by decide) (fun r_ w_ H locs hp_ hP hD hS => ?_)
    rcases hp_ with ⟨rfl, rfl, hT_15⟩ | ⟨rfl, rfl, hF_15⟩
    · skip
      have hP : va_P (gD g) vwCl [(h, .inr (3, [.int (nI lim), .ref q, .int (nI sz)])), (q, .inl (gB g, n, .inl f))] H := hP
      have hD : va_D A [(h, .inr (3, [.int (nI lim), .ref q, .int (nI sz)])), (q, .inl (gB g, n, .inl f))] := hD
      have hT_15 : pText f (sz - (slen k)) sz k := hT_15
      refine W.eq (g2 := F0 m 18 ls [.int (nI 1)]) rfl ?_
      refine ct_iret (w := [(h, .inr (3, [.int (nI lim), .ref q, .int (nI sz)])), (q, .inl (gB g, n, .inl f))]) hx hb hr rfl hlocks hQ hAe hK (hP.sub [0, 1] rfl) (hD.sub [0, 1] (by decide) rfl) hS (by omega) (by omega) dX4_endsWith_18 ?_
      refine Or.inl (?_)
      exact ⟨rfl, rfl, by exact ⟨hcs, hT_15.2⟩⟩
    · skip
      have hP : va_P (gD g) vwCl [(h, .inr (3, [.int (nI lim), .ref q, .int (nI sz)])), (q, .inl (gB g, n, .inl f))] H := hP
      have hD : va_D A [(h, .inr (3, [.int (nI lim), .ref q, .int (nI sz)])), (q, .inl (gB g, n, .inl f))] := hD
      have hF_15 : ¬ (pText f (sz - (slen k)) sz k) := hF_15
      refine W.eq (g2 := F0 m 18 ls [.int (nI 0)]) rfl ?_
      refine ct_iret (w := [(h, .inr (3, [.int (nI lim), .ref q, .int (nI sz)])), (q, .inl (gB g, n, .inl f))]) hx hb hr rfl hlocks hQ hAe hK (hP.sub [0, 1] rfl) (hD.sub [0, 1] (by decide) rfl) hS (by omega) (by omega) dX4_endsWith_18 ?_
      refine Or.inr ((?_))
      exact ⟨rfl, rfl, by first | exact fun z => absurd z.1 (by omega) | exact fun z => hF_15 ⟨by omega, z.2⟩⟩

set_option maxHeartbeats 4000000 in
set_option maxRecDepth 100000 in
theorem c_isOfValue (l : Launch) (g : GT) (x : Int32)  : CT l g yX1_isOfValue wsX1_isOfValue ({ frames := 0, cells := 0, slots := 0, locals := 0 } : Room) [.int x] [] (fun r w => (r = some (.int (nI 1)) ∧ w = [] ∧ (pValue x)) ∨ (r = some (.int (nI 0)) ∧ w = [] ∧ (¬ (pValue x)))) (0) (0) := by
  refine ct_of (cc := cX1_isOfValue) (maxL := 1) (ret := (some .boolean)) (by decide) rfl (Nat.le_of_ble_eq_true rfl) ?_
  intro p e s m args below meth c A Q hx hb hr hml hown hts hlocks hnam hAe hQ hA hG hK hP hD hS ls hl
  have hl : lv_has ls 1 [(0, .int x)] := hl
  have hown : s.vm.findClass RX1 = some m.cls := hown
  refine lv_iload_n hx hb dX1_isOfValue_0 rfl (lv_at hl 0 rfl) ?_
  refine lv_bipush (v := nI 9) hx hb dX1_isOfValue_1 (by decide) ?_
  refine lv_icmp_eq (tgt := 25) hx hb dX1_isOfValue_3 (by decide) (fun c3 => ?_) (fun c3 => ?_)
  · skip
    refine lv_iconst (v := nI 1) hx hb dX1_isOfValue_25 (by decide) ?_
    refine lv_goto (tgt := 30) hx hb dX1_isOfValue_26 (by decide) ?_
    refine ct_iret (w := []) hx hb hr rfl hlocks hQ hAe hK (hP.sub [] rfl) (hD.sub [] (by decide) rfl) hS (by omega) (by omega) dX1_isOfValue_30 ?_
    refine Or.inl (?_)
    exact ⟨rfl, rfl, by first | exact Or.inl c3 | exact Or.inr (Or.inl ⟨c9, c15⟩) | exact Or.inr (Or.inr c22)⟩
  · skip
    refine lv_iload_n hx hb dX1_isOfValue_6 rfl (lv_at hl 0 rfl) ?_
    refine lv_bipush (v := nI 32) hx hb dX1_isOfValue_7 (by decide) ?_
    refine lv_icmp_lt (tgt := 18) hx hb dX1_isOfValue_9 (by decide) (fun c9 => ?_) (fun c9 => ?_)
    · skip
      refine lv_iload_n hx hb dX1_isOfValue_18 rfl (lv_at hl 0 rfl) ?_
      refine lv_sipush (v := nI 128) hx hb dX1_isOfValue_19 (by decide) ?_
      refine lv_icmp_lt (tgt := 29) hx hb dX1_isOfValue_22 (by decide) (fun c22 => ?_) (fun c22 => ?_)
      · skip
        refine lv_iconst (v := nI 0) hx hb dX1_isOfValue_29 (by decide) ?_
        refine ct_iret (w := []) hx hb hr rfl hlocks hQ hAe hK (hP.sub [] rfl) (hD.sub [] (by decide) rfl) hS (by omega) (by omega) dX1_isOfValue_30 ?_
        refine Or.inr ((?_))
        exact ⟨rfl, rfl, by first | exact fun z => z.elim c3 (fun z => z.elim (fun z => z.1 c9) (fun z => z c22)) | exact fun z => z.elim c3 (fun z => z.elim (fun z => c15 z.2) (fun z => z c22))⟩
      · skip
        refine lv_iconst (v := nI 1) hx hb dX1_isOfValue_25 (by decide) ?_
        refine lv_goto (tgt := 30) hx hb dX1_isOfValue_26 (by decide) ?_
        refine ct_iret (w := []) hx hb hr rfl hlocks hQ hAe hK (hP.sub [] rfl) (hD.sub [] (by decide) rfl) hS (by omega) (by omega) dX1_isOfValue_30 ?_
        refine Or.inl (?_)
        exact ⟨rfl, rfl, by first | exact Or.inl c3 | exact Or.inr (Or.inl ⟨c9, c15⟩) | exact Or.inr (Or.inr c22)⟩
    · skip
      refine lv_iload_n hx hb dX1_isOfValue_12 rfl (lv_at hl 0 rfl) ?_
      refine lv_bipush (v := nI 126) hx hb dX1_isOfValue_13 (by decide) ?_
      refine lv_icmp_le (tgt := 25) hx hb dX1_isOfValue_15 (by decide) (fun c15 => ?_) (fun c15 => ?_)
      · skip
        refine lv_iconst (v := nI 1) hx hb dX1_isOfValue_25 (by decide) ?_
        refine lv_goto (tgt := 30) hx hb dX1_isOfValue_26 (by decide) ?_
        refine ct_iret (w := []) hx hb hr rfl hlocks hQ hAe hK (hP.sub [] rfl) (hD.sub [] (by decide) rfl) hS (by omega) (by omega) dX1_isOfValue_30 ?_
        refine Or.inl (?_)
        exact ⟨rfl, rfl, by first | exact Or.inl c3 | exact Or.inr (Or.inl ⟨c9, c15⟩) | exact Or.inr (Or.inr c22)⟩
      · skip
        refine lv_iload_n hx hb dX1_isOfValue_18 rfl (lv_at hl 0 rfl) ?_
        refine lv_sipush (v := nI 128) hx hb dX1_isOfValue_19 (by decide) ?_
        refine lv_icmp_lt (tgt := 29) hx hb dX1_isOfValue_22 (by decide) (fun c22 => ?_) (fun c22 => ?_)
        · skip
          refine lv_iconst (v := nI 0) hx hb dX1_isOfValue_29 (by decide) ?_
          refine ct_iret (w := []) hx hb hr rfl hlocks hQ hAe hK (hP.sub [] rfl) (hD.sub [] (by decide) rfl) hS (by omega) (by omega) dX1_isOfValue_30 ?_
          refine Or.inr ((?_))
          exact ⟨rfl, rfl, by first | exact fun z => z.elim c3 (fun z => z.elim (fun z => z.1 c9) (fun z => z c22)) | exact fun z => z.elim c3 (fun z => z.elim (fun z => c15 z.2) (fun z => z c22))⟩
        · skip
          refine lv_iconst (v := nI 1) hx hb dX1_isOfValue_25 (by decide) ?_
          refine lv_goto (tgt := 30) hx hb dX1_isOfValue_26 (by decide) ?_
          refine ct_iret (w := []) hx hb hr rfl hlocks hQ hAe hK (hP.sub [] rfl) (hD.sub [] (by decide) rfl) hS (by omega) (by omega) dX1_isOfValue_30 ?_
          refine Or.inl (?_)
          exact ⟨rfl, rfl, by first | exact Or.inl c3 | exact Or.inr (Or.inl ⟨c9, c15⟩) | exact Or.inr (Or.inr c22)⟩

set_option maxHeartbeats 4000000 in
set_option maxRecDepth 100000 in
theorem c_canEnc (l : Launch) (g : GT) (n : Nat) (hn : n < 256) : CT l g yJ1_canEncode_9a6ad wsJ1_canEncode_9a6ad ({ frames := 0, cells := 0, slots := 0, locals := 0 } : Room) [.int (nI n)] [] (fun r w => (r = some (.int (nI 1)) ∧ w = [])) (0) (0) := by
  refine ct_of (cc := cJ1_canEncode_9a6ad) (maxL := 1) (ret := (some .boolean)) (by decide) rfl (Nat.le_of_ble_eq_true rfl) ?_
  intro p e s m args below meth c A Q hx hb hr hml hown hts hlocks hnam hAe hQ hA hG hK hP hD hS ls hl
  have hl : lv_has ls 1 [(0, .int (nI n))] := hl
  have hown : s.vm.findClass RJ1 = some m.cls := hown
  refine lv_iload_n hx hb dJ1_canEncode_9a6ad_0 rfl (lv_at hl 0 rfl) ?_
  refine lv_if_lt (tgt := 15) hx hb dJ1_canEncode_9a6ad_1 (by decide) (fun c1 => ?_) (fun c1 => ?_)
  · skip
    have c1 : n < 0 := (nI_ltI (a := n) (b := 0) (by omega) (by omega)).mp c1
    exact absurd c1 (by omega)
  · skip
    have c1 : ¬ (n < 0) := fun z => c1 ((nI_ltI (a := n) (b := 0) (by omega) (by omega)).mpr z)
    refine lv_iload_n hx hb dJ1_canEncode_9a6ad_4 rfl (lv_at hl 0 rfl) ?_
    refine lv_sipush (v := nI 255) hx hb dJ1_canEncode_9a6ad_5 (by decide) ?_
    refine lv_icmp_gt (tgt := 15) hx hb dJ1_canEncode_9a6ad_8 (by decide) (fun c8 => ?_) (fun c8 => ?_)
    · skip
      have c8 : 255 < n := (nI_ltI (a := 255) (b := n) (by omega) (by omega)).mp c8
      exact absurd c8 (by omega)
    · skip
      have c8 : ¬ (255 < n) := fun z => c8 ((nI_ltI (a := 255) (b := n) (by omega) (by omega)).mpr z)
      refine lv_iconst (v := nI 1) hx hb dJ1_canEncode_9a6ad_11 (by decide) ?_
      refine lv_goto (tgt := 16) hx hb dJ1_canEncode_9a6ad_12 (by decide) ?_
      refine ct_iret (w := []) hx hb hr rfl hlocks hQ hAe hK (hP.sub [] rfl) (hD.sub [] (by decide) rfl) hS (by omega) (by omega) dJ1_canEncode_9a6ad_16 ?_
      exact ⟨rfl, rfl⟩

set_option maxHeartbeats 4000000 in
set_option maxRecDepth 100000 in
theorem c_ixChar (l : Launch) (g : GT) (k : Nat) (n : Nat) (hk : k < 84) (hn : n < 256) : CT l g yJ1_indexOfChar_4cfef wsJ1_indexOfChar_4cfef ({ frames := 0, cells := 0, slots := 0, locals := 0 } : Room) [.ref (gV g k), .int (nI n), .int (nI 0), .int (nI (slen k))] [] (fun r w => (∃ (j : Nat), r = some (.int (nI j)) ∧ w = [] ∧ (j < slen k) ∧ (sbyt k j &&& 255 = nI n)) ∨ (r = some (.int (-1)) ∧ w = [] ∧ (∀ j, j < slen k → ¬ sbyt k j &&& 255 = nI n))) (0) (0) := by
  refine ct_of (cc := cJ1_indexOfChar_4cfef) (maxL := 6) (ret := (some .int)) (by decide) rfl (Nat.le_of_ble_eq_true rfl) ?_
  intro p e s m args below meth c A Q hx hb hr hml hown hts hlocks hnam hAe hQ hA hG hK hP hD hS ls hl
  have hl : lv_has ls 6 [(0, .ref (gV g k)), (1, .int (nI n)), (2, .int (nI 0)), (3, .int (nI (slen k)))] := hl
  have hown : s.vm.findClass RJ1 = some m.cls := hown
  have hsl := slen_le k hk
  refine lv_iload_n hx hb dJ1_indexOfChar_4cfef_0 rfl (lv_at hl 1 rfl) ?_
  refine lv_i2b (v := (nI n).toInt8.toInt32) hx hb dJ1_indexOfChar_4cfef_1 (rfl) ?_
  refine lv_istore (lv' := [(4, .int ((nI n).toInt8.toInt32)), (0, .ref (gV g k)), (1, .int (nI n)), (2, .int (nI 0)), (3, .int (nI (slen k)))]) hx hb dJ1_indexOfChar_4cfef_2 hl (by decide) rfl (fun ls hl => ?_)
  refine lv_iload_n hx hb dJ1_indexOfChar_4cfef_4 rfl (lv_at hl 3 rfl) ?_
  refine lv_istore (lv' := [(5, .int (nI 0)), (4, .int ((nI n).toInt8.toInt32)), (0, .ref (gV g k)), (1, .int (nI n)), (2, .int (nI 0)), (3, .int (nI (slen k)))]) hx hb dJ1_indexOfChar_4cfef_5 hl (by decide) rfl (fun ls hl => ?_)
  have K7 : ∀ (N_ : Nat) (i : Nat), (i ≤ slen k) → (∀ j, j < i → ¬ sbyt k j &&& 255 = nI n) → (slen k - i) < N_ → ∀ (H : Heap) (locs : List Loc) (ls : Array Slot), va_P (gD g) vwCl [] H → va_D A [] → va_S A s.heap H locs → lv_has ls 6 [(0, .ref (gV g k)), (1, .int (nI n)), (2, .int (nI 0)), (3, .int (nI (slen k))), (4, .int ((nI n).toInt8.toInt32)), (5, .int (nI i))] → W p l e ({ frames := 0, cells := 0, slots := 0, locals := 0 } : Room) s m args below meth c H locs (0) (0) Q (F0 m 7 ls []) := by
    intro N_
    induction N_ with
    | zero => intro i hi hno hm_; exact absurd hm_ (Nat.not_lt_zero _)
    | succ N_ ih_K7 =>
      intro i hi hno hm_ H locs ls hP hD hS hl
      refine lv_iload hx hb dJ1_indexOfChar_4cfef_7 (lv_at hl 5 rfl) ?_
      refine lv_iload_n hx hb dJ1_indexOfChar_4cfef_9 rfl (lv_at hl 3 rfl) ?_
      refine lv_icmp_ge (tgt := 31) hx hb dJ1_indexOfChar_4cfef_10 (by decide) (fun c10 => ?_) (fun c10 => ?_)
      · skip
        have c10 : slen k ≤ i := (nI_leI (a := slen k) (b := i) (by omega) (by omega)).mp c10
        refine lv_iconst (v := (-1)) hx hb dJ1_indexOfChar_4cfef_31 (by decide) ?_
        refine ct_iret (w := []) hx hb hr rfl hlocks hQ hAe hK (hP.sub [] rfl) (hD.sub [] (by decide) rfl) hS (by omega) (by omega) dJ1_indexOfChar_4cfef_32 ?_
        refine Or.inr ((?_))
        exact ⟨rfl, rfl, by exact fun j hj => hno j (by omega)⟩
      · skip
        have c10 : ¬ (slen k ≤ i) := fun z => c10 ((nI_leI (a := slen k) (b := i) (by omega) (by omega)).mpr z)
        refine lv_aload_n hx hb dJ1_indexOfChar_4cfef_13 rfl (lv_at hl 0 rfl) ?_
        refine lv_iload hx hb dJ1_indexOfChar_4cfef_14 (lv_at hl 5 rfl) ?_
        refine va_tb hx hb ((hG.1 k (by assumption)).2.2.2.1) hS (i := nI i) (by exact vp_in_nI (by omega) (by omega)) (v := .int (sbyt k i)) (by show Value.int (sbyt _ _) = _; rw [nI_clamp (by omega)]) dJ1_indexOfChar_4cfef_16 ?_
        refine lv_iload hx hb dJ1_indexOfChar_4cfef_17 (lv_at hl 4 rfl) ?_
        refine lv_icmp_ne (tgt := 25) hx hb dJ1_indexOfChar_4cfef_19 (by decide) (fun c19 => ?_) (fun c19 => ?_)
        · skip
          refine lv_iinc (v := nI (i + 1)) (lv' := [(5, .int (nI (i + 1))), (0, .ref (gV g k)), (1, .int (nI n)), (2, .int (nI 0)), (3, .int (nI (slen k))), (4, .int ((nI n).toInt8.toInt32))]) hx hb dJ1_indexOfChar_4cfef_25 hl (k := 5) rfl (nI_inc i 1) (by decide) rfl (fun ls hl => ?_)
          refine lv_goto (tgt := 7) hx hb dJ1_indexOfChar_4cfef_28 (by decide) ?_
          exact ih_K7 (i + 1) (by omega) (by exact lt_s hno (fun z => c19 ((sc_eq (sb7 k hk i (by omega)).1 hn).mpr z))) (by omega) _ _ _ (hP.sub [] rfl) (hD.sub [] (by decide) rfl) hS (lv_sub hl [1, 2, 3, 4, 5, 0] rfl)
        · skip
          refine lv_iload hx hb dJ1_indexOfChar_4cfef_22 (lv_at hl 5 rfl) ?_
          refine ct_iret (w := []) hx hb hr rfl hlocks hQ hAe hK (hP.sub [] rfl) (hD.sub [] (by decide) rfl) hS (by omega) (by omega) dJ1_indexOfChar_4cfef_24 ?_
          refine Or.inl (?_)
          exact ⟨i, rfl, rfl, by omega, by exact (sc_eq (sb7 k hk i (by omega)).1 hn).mp c19⟩
  exact K7 ((slen k - 0) + 1) 0 (by omega) (by intro j h1; omega) (Nat.lt_succ_self _) _ _ _ (hP.sub [] rfl) (hD.sub [] (by decide) rfl) hS (lv_sub hl [2, 3, 4, 5, 1, 0] rfl)

set_option maxHeartbeats 4000000 in
set_option maxRecDepth 100000 in
theorem c_lix (l : Launch) (g : GT) (k : Nat) (n : Nat) (hk : k < 84) (hn : n < 256) : CT l g yJ1_indexOf_4cfef wsJ1_indexOf_4cfef ({ frames := 1, cells := 0, slots := 0, locals := 30 } : Room) [.ref (gV g k), .int (nI n), .int (nI 0), .int (nI (slen k))] [] (fun r w => (∃ (j : Nat), r = some (.int (nI j)) ∧ w = [] ∧ (j < slen k) ∧ (sbyt k j &&& 255 = nI n)) ∨ (r = some (.int (-1)) ∧ w = [] ∧ (∀ j, j < slen k → ¬ sbyt k j &&& 255 = nI n))) (0) (0) := by
  refine ct_of (cc := cJ1_indexOf_4cfef) (maxL := 4) (ret := (some .int)) (by decide) rfl (Nat.le_of_ble_eq_true rfl) ?_
  intro p e s m args below meth c A Q hx hb hr hml hown hts hlocks hnam hAe hQ hA hG hK hP hD hS ls hl
  have hl : lv_has ls 4 [(0, .ref (gV g k)), (1, .int (nI n)), (2, .int (nI 0)), (3, .int (nI (slen k)))] := hl
  have hown : s.vm.findClass RJ1 = some m.cls := hown
  have hsl := slen_le k hk
  refine lv_iload_n hx hb dJ1_indexOf_4cfef_0 rfl (lv_at hl 1 rfl) ?_
  refine ct_callS (wr := []) hx hb hml hown hts hK hP hD hS hA hG hl.1 (c_canEnc l g n (by omega)) (va_cwS 1 hts gJ1_indexOf_4cfef_J1_canEncode_9a6ad rfl rfl rfl (by decide +kernel) ⟨Nat.le_of_ble_eq_true rfl, Nat.le_of_ble_eq_true rfl⟩) rfl rfl (Nat.le_of_ble_eq_true rfl) dJ1_indexOf_4cfef_1 ⟨show 0 + 0 ≤ 0 by omega, show 0 + 0 ≤ 0 by omega⟩ [] [] rfl rfl (by decide) (by decide) (by decide) (fun r_ w_ H locs hp_ hP hD hS => ?_)
  obtain ⟨rfl, rfl⟩ := hp_
  have hP : va_P (gD g) vwCl [] H := hP
  have hD : va_D A [] := hD
  refine W.eq (g2 := F0 m 4 ls [.int (nI 1)]) rfl ?_
  refine lv_if_ne (tgt := 9) hx hb dJ1_indexOf_4cfef_4 (by decide) (fun _ => ?_) (fun c4 => absurd c4 (by decide))
  refine lv_iload_n hx hb dJ1_indexOf_4cfef_9 rfl (lv_at hl 2 rfl) ?_
  refine lv_iconst (v := nI 0) hx hb dJ1_indexOf_4cfef_10 (by decide) ?_
  refine va_mmax hx hb (by rw [hml]; exact hl.1.symm) hown (hts (.methodLink RJ1 92 Lib.Math.max.name) (by decide +kernel)) (hts (.static Lib.Math.max.name) (by decide +kernel)) (hts (.initialized "java/lang/Math") (by decide +kernel)) (hts (.code Lib.Math.max.name Lib.Math.max.code 2 (some .int)) (by decide +kernel)) (Nat.le_of_ble_eq_true rfl) (Nat.le_of_ble_eq_true rfl) (show 0 ≤ 0 by omega) (show 0 ≤ 0 by omega) dJ1_indexOf_4cfef_11 ?_
  refine q_top (v := nI (max 0 0)) (nI_max 0 0 (by omega) (by omega)) ?_
  refine q_top (v := nI 0) rfl ?_
  refine lv_istore_n (lv' := [(2, .int (nI 0)), (0, .ref (gV g k)), (1, .int (nI n)), (3, .int (nI (slen k)))]) hx hb dJ1_indexOf_4cfef_14 rfl hl (by decide) rfl (fun ls hl => ?_)
  refine lv_iload_n hx hb dJ1_indexOf_4cfef_15 rfl (lv_at hl 3 rfl) ?_
  refine lv_aload_n hx hb dJ1_indexOf_4cfef_16 rfl (lv_at hl 1 rfl) ?_
  refine va_tlen hx hb ((hG.1 k (by assumption)).2.2.2.1) hS (v := nI (slen k)) rfl dJ1_indexOf_4cfef_17 ?_
  refine va_mmin hx hb (by rw [hml]; exact hl.1.symm) hown (hts (.methodLink RJ1 38 Lib.Math.min.name) (by decide +kernel)) (hts (.static Lib.Math.min.name) (by decide +kernel)) (hts (.initialized "java/lang/Math") (by decide +kernel)) (hts (.code Lib.Math.min.name Lib.Math.min.code 2 (some .int)) (by decide +kernel)) (Nat.le_of_ble_eq_true rfl) (Nat.le_of_ble_eq_true rfl) (show 0 ≤ 0 by omega) (show 0 ≤ 0 by omega) dJ1_indexOf_4cfef_18 ?_
  refine q_top (v := nI (min (slen k) (slen k))) (nI_min (slen k) (slen k) (by omega) (by omega)) ?_
  refine q_top (v := nI (slen k)) (by rw [Nat.min_self]) ?_
  refine lv_istore_n (lv' := [(3, .int (nI (slen k))), (2, .int (nI 0)), (0, .ref (gV g k)), (1, .int (nI n))]) hx hb dJ1_indexOf_4cfef_21 rfl hl (by decide) rfl (fun ls hl => ?_)
  refine lv_iload_n hx hb dJ1_indexOf_4cfef_22 rfl (lv_at hl 1 rfl) ?_
  refine lv_iload_n hx hb dJ1_indexOf_4cfef_23 rfl (lv_at hl 0 rfl) ?_
  refine lv_icmp_lt (tgt := 29) hx hb dJ1_indexOf_4cfef_24 (by decide) (fun c24 => ?_) (fun c24 => ?_)
  · skip
    have c24 : 0 < slen k := (nI_ltI (a := 0) (b := slen k) (by omega) (by omega)).mp c24
    refine lv_aload_n hx hb dJ1_indexOf_4cfef_29 rfl (lv_at hl 2 rfl) ?_
    refine lv_iload_n hx hb dJ1_indexOf_4cfef_30 rfl (lv_at hl 3 rfl) ?_
    refine lv_iload_n hx hb dJ1_indexOf_4cfef_31 rfl (lv_at hl 1 rfl) ?_
    refine lv_iload_n hx hb dJ1_indexOf_4cfef_32 rfl (lv_at hl 0 rfl) ?_
    refine ct_callS (wr := []) hx hb hml hown hts hK hP hD hS hA hG hl.1 (c_ixChar l g k n (by first | assumption | decide) (by omega)) (va_cwS 4 hts gJ1_indexOf_4cfef_J1_indexOfChar_4cfef rfl rfl rfl (by decide +kernel) ⟨Nat.le_of_ble_eq_true rfl, Nat.le_of_ble_eq_true rfl⟩) rfl rfl (Nat.le_of_ble_eq_true rfl) dJ1_indexOf_4cfef_33 ⟨show 0 + 0 ≤ 0 by omega, show 0 + 0 ≤ 0 by omega⟩ [] [] rfl rfl (by decide) (by decide) (by decide) (fun r_ w_ H locs hp_ hP hD hS => ?_)
    rcases hp_ with ⟨j_33, rfl, rfl, hj_33, hj2_33⟩ | ⟨rfl, rfl, hno_33⟩
    · skip
      have hP : va_P (gD g) vwCl [] H := hP
      have hD : va_D A [] := hD
      have hj_33 : j_33 < slen k := hj_33
      have hj2_33 : sbyt k j_33 &&& 255 = nI n := hj2_33
      refine W.eq (g2 := F0 m 36 ls [.int (nI j_33)]) rfl ?_
      refine ct_iret (w := []) hx hb hr rfl hlocks hQ hAe hK (hP.sub [] rfl) (hD.sub [] (by decide) rfl) hS (by omega) (by omega) dJ1_indexOf_4cfef_36 ?_
      refine Or.inl (?_)
      exact ⟨j_33, rfl, rfl, by assumption, by assumption⟩
    · skip
      have hP : va_P (gD g) vwCl [] H := hP
      have hD : va_D A [] := hD
      have hno_33 : ∀ j, j < slen k → ¬ sbyt k j &&& 255 = nI n := hno_33
      refine W.eq (g2 := F0 m 36 ls [.int (-1)]) rfl ?_
      refine ct_iret (w := []) hx hb hr rfl hlocks hQ hAe hK (hP.sub [] rfl) (hD.sub [] (by decide) rfl) hS (by omega) (by omega) dJ1_indexOf_4cfef_36 ?_
      refine Or.inr ((?_))
      exact ⟨rfl, rfl, by first | assumption | exact fun j hj => absurd hj (by omega)⟩
  · skip
    have c24 : ¬ (0 < slen k) := fun z => c24 ((nI_ltI (a := 0) (b := slen k) (by omega) (by omega)).mpr z)
    refine lv_iconst (v := (-1)) hx hb dJ1_indexOf_4cfef_27 (by decide) ?_
    refine ct_iret (w := []) hx hb hr rfl hlocks hQ hAe hK (hP.sub [] rfl) (hD.sub [] (by decide) rfl) hS (by omega) (by omega) dJ1_indexOf_4cfef_28 ?_
    refine Or.inr ((?_))
    exact ⟨rfl, rfl, by first | assumption | exact fun j hj => absurd hj (by omega)⟩

set_option maxHeartbeats 4000000 in
set_option maxRecDepth 100000 in
theorem c_ix3 (l : Launch) (g : GT) (k : Nat) (n : Nat) (hk : k < 84) (hn : n < 256) : CT l g yJ0_indexOf_7cf53 wsJ0_indexOf_7cf53 ({ frames := 2, cells := 0, slots := 0, locals := 53 } : Room) [.ref (gK g k), .int (nI n), .int (nI 0)] [] (fun r w => (∃ (j : Nat), r = some (.int (nI j)) ∧ w = [] ∧ (j < slen k) ∧ (sbyt k j &&& 255 = nI n)) ∨ (r = some (.int (-1)) ∧ w = [] ∧ (∀ j, j < slen k → ¬ sbyt k j &&& 255 = nI n))) (0) (0) := by
  refine ct_of (cc := cJ0_indexOf_7cf53) (maxL := 3) (ret := (some .int)) (by decide) rfl (Nat.le_of_ble_eq_true rfl) ?_
  intro p e s m args below meth c A Q hx hb hr hml hown hts hlocks hnam hAe hQ hA hG hK hP hD hS ls hl
  have hl : lv_has ls 3 [(0, .ref (gK g k)), (1, .int (nI n)), (2, .int (nI 0))] := hl
  have hown : s.vm.findClass RJ0 = some m.cls := hown
  have hf9 := hts (.fieldLink RJ0 9 "java/lang/String" "value" "[B") (by decide +kernel)
  have hsl := slen_le k hk
  refine lv_aload_n hx hb dJ0_indexOf_7cf53_0 rfl (lv_at hl 0 rfl) ?_
  refine ct_callV (wr := []) hx hb hml hown hts hK hP hD hS hA hG hl.1 (c_isLatin1 l g k (by first | assumption | decide)) (cwV 0 hts gJ0_indexOf_7cf53_J0_isLatin1_aae02 rfl rfl rfl (by decide +kernel) ⟨Nat.le_of_ble_eq_true rfl, Nat.le_of_ble_eq_true rfl⟩) (st_recv hG (k := k) (by assumption) hS) rfl rfl (Nat.le_of_ble_eq_true rfl) dJ0_indexOf_7cf53_1 ⟨show 0 + 0 ≤ 0 by omega, show 0 + 0 ≤ 0 by omega⟩ [] [] rfl rfl (by decide) (by decide) (by decide) (fun r_ w_ H locs hp_ hP hD hS => ?_)
  obtain ⟨rfl, rfl⟩ := hp_
  have hP : va_P (gD g) vwCl [] H := hP
  have hD : va_D A [] := hD
  refine W.eq (g2 := F0 m 4 ls [.int (nI 1)]) rfl ?_
  refine lv_if_eq (tgt := 23) hx hb dJ0_indexOf_7cf53_4 (by decide) (fun c4 => absurd c4 (by decide)) (fun _ => ?_)
  refine lv_aload_n hx hb dJ0_indexOf_7cf53_7 rfl (lv_at hl 0 rfl) ?_
  refine vk_getf hx hb ((hG.1 k (by assumption)).2.2.1) hS hown hf9 (fun _ h9 => h9) dJ0_indexOf_7cf53_8 ?_
  refine lv_iload_n hx hb dJ0_indexOf_7cf53_11 rfl (lv_at hl 1 rfl) ?_
  refine lv_iload_n hx hb dJ0_indexOf_7cf53_12 rfl (lv_at hl 2 rfl) ?_
  refine lv_aload_n hx hb dJ0_indexOf_7cf53_13 rfl (lv_at hl 0 rfl) ?_
  refine ct_callV (wr := []) hx hb hml hown hts hK hP hD hS hA hG hl.1 (c_slen l g k (by first | assumption | decide)) (cwV 0 hts gJ0_indexOf_7cf53_J0_length_8abf5 rfl rfl rfl (by decide +kernel) ⟨Nat.le_of_ble_eq_true rfl, Nat.le_of_ble_eq_true rfl⟩) (st_recv hG (k := k) (by assumption) hS) rfl rfl (Nat.le_of_ble_eq_true rfl) dJ0_indexOf_7cf53_14 ⟨show 0 + 0 ≤ 0 by omega, show 0 + 0 ≤ 0 by omega⟩ [] [] rfl rfl (by decide) (by decide) (by decide) (fun r_ w_ H locs hp_ hP hD hS => ?_)
  obtain ⟨rfl, rfl⟩ := hp_
  have hP : va_P (gD g) vwCl [] H := hP
  have hD : va_D A [] := hD
  refine W.eq (g2 := F0 m 17 ls [.int (nI (slen k)), .int (nI 0), .int (nI n), .ref (gV g k)]) rfl ?_
  refine ct_callS (wr := []) hx hb hml hown hts hK hP hD hS hA hG hl.1 (c_lix l g k n (by first | assumption | decide) (by omega)) (va_cwS 4 hts gJ0_indexOf_7cf53_J1_indexOf_4cfef rfl rfl rfl (by decide +kernel) ⟨Nat.le_of_ble_eq_true rfl, Nat.le_of_ble_eq_true rfl⟩) rfl rfl (Nat.le_of_ble_eq_true rfl) dJ0_indexOf_7cf53_17 ⟨show 0 + 0 ≤ 0 by omega, show 0 + 0 ≤ 0 by omega⟩ [] [] rfl rfl (by decide) (by decide) (by decide) (fun r_ w_ H locs hp_ hP hD hS => ?_)
  rcases hp_ with ⟨j_17, rfl, rfl, hj_17, hj2_17⟩ | ⟨rfl, rfl, hno_17⟩
  · skip
    have hP : va_P (gD g) vwCl [] H := hP
    have hD : va_D A [] := hD
    have hj_17 : j_17 < slen k := hj_17
    have hj2_17 : sbyt k j_17 &&& 255 = nI n := hj2_17
    refine W.eq (g2 := F0 m 20 ls [.int (nI j_17)]) rfl ?_
    refine lv_goto (tgt := 36) hx hb dJ0_indexOf_7cf53_20 (by decide) ?_
    refine ct_iret (w := []) hx hb hr rfl hlocks hQ hAe hK (hP.sub [] rfl) (hD.sub [] (by decide) rfl) hS (by omega) (by omega) dJ0_indexOf_7cf53_36 ?_
    refine Or.inl (?_)
    exact ⟨j_17, rfl, rfl, by assumption, by assumption⟩
  · skip
    have hP : va_P (gD g) vwCl [] H := hP
    have hD : va_D A [] := hD
    have hno_17 : ∀ j, j < slen k → ¬ sbyt k j &&& 255 = nI n := hno_17
    refine W.eq (g2 := F0 m 20 ls [.int (-1)]) rfl ?_
    refine lv_goto (tgt := 36) hx hb dJ0_indexOf_7cf53_20 (by decide) ?_
    refine ct_iret (w := []) hx hb hr rfl hlocks hQ hAe hK (hP.sub [] rfl) (hD.sub [] (by decide) rfl) hS (by omega) (by omega) dJ0_indexOf_7cf53_36 ?_
    refine Or.inr ((?_))
    exact ⟨rfl, rfl, by assumption⟩

set_option maxHeartbeats 4000000 in
set_option maxRecDepth 100000 in
theorem c_ix2 (l : Launch) (g : GT) (k : Nat) (n : Nat) (hk : k < 84) (hn : n < 256) : CT l g yJ0_indexOf_0f7a4 wsJ0_indexOf_0f7a4 ({ frames := 3, cells := 0, slots := 0, locals := 75 } : Room) [.ref (gK g k), .int (nI n)] [] (fun r w => (∃ (j : Nat), r = some (.int (nI j)) ∧ w = [] ∧ (j < slen k) ∧ (sbyt k j &&& 255 = nI n)) ∨ (r = some (.int (-1)) ∧ w = [] ∧ (∀ j, j < slen k → ¬ sbyt k j &&& 255 = nI n))) (0) (0) := by
  refine ct_of (cc := cJ0_indexOf_0f7a4) (maxL := 2) (ret := (some .int)) (by decide) rfl (Nat.le_of_ble_eq_true rfl) ?_
  intro p e s m args below meth c A Q hx hb hr hml hown hts hlocks hnam hAe hQ hA hG hK hP hD hS ls hl
  have hl : lv_has ls 2 [(0, .ref (gK g k)), (1, .int (nI n))] := hl
  have hown : s.vm.findClass RJ0 = some m.cls := hown
  have hsl := slen_le k hk
  refine lv_aload_n hx hb dJ0_indexOf_0f7a4_0 rfl (lv_at hl 0 rfl) ?_
  refine lv_iload_n hx hb dJ0_indexOf_0f7a4_1 rfl (lv_at hl 1 rfl) ?_
  refine lv_iconst (v := nI 0) hx hb dJ0_indexOf_0f7a4_2 (by decide) ?_
  refine ct_callV (wr := []) hx hb hml hown hts hK hP hD hS hA hG hl.1 (c_ix3 l g k n (by first | assumption | decide) (by omega)) (cwV 2 hts gJ0_indexOf_0f7a4_J0_indexOf_7cf53 rfl rfl rfl (by decide +kernel) ⟨Nat.le_of_ble_eq_true rfl, Nat.le_of_ble_eq_true rfl⟩) (st_recv hG (k := k) (by assumption) hS) rfl rfl (Nat.le_of_ble_eq_true rfl) dJ0_indexOf_0f7a4_3 ⟨show 0 + 0 ≤ 0 by omega, show 0 + 0 ≤ 0 by omega⟩ [] [] rfl rfl (by decide) (by decide) (by decide) (fun r_ w_ H locs hp_ hP hD hS => ?_)
  rcases hp_ with ⟨j_3, rfl, rfl, hj_3, hj2_3⟩ | ⟨rfl, rfl, hno_3⟩
  · skip
    have hP : va_P (gD g) vwCl [] H := hP
    have hD : va_D A [] := hD
    have hj_3 : j_3 < slen k := hj_3
    have hj2_3 : sbyt k j_3 &&& 255 = nI n := hj2_3
    refine W.eq (g2 := F0 m 6 ls [.int (nI j_3)]) rfl ?_
    refine ct_iret (w := []) hx hb hr rfl hlocks hQ hAe hK (hP.sub [] rfl) (hD.sub [] (by decide) rfl) hS (by omega) (by omega) dJ0_indexOf_0f7a4_6 ?_
    refine Or.inl (?_)
    exact ⟨j_3, rfl, rfl, by assumption, by assumption⟩
  · skip
    have hP : va_P (gD g) vwCl [] H := hP
    have hD : va_D A [] := hD
    have hno_3 : ∀ j, j < slen k → ¬ sbyt k j &&& 255 = nI n := hno_3
    refine W.eq (g2 := F0 m 6 ls [.int (-1)]) rfl ?_
    refine ct_iret (w := []) hx hb hr rfl hlocks hQ hAe hK (hP.sub [] rfl) (hD.sub [] (by decide) rfl) hS (by omega) (by omega) dJ0_indexOf_0f7a4_6 ?_
    refine Or.inr ((?_))
    exact ⟨rfl, rfl, by assumption⟩

set_option maxHeartbeats 4000000 in
set_option maxRecDepth 100000 in
theorem c_isOfName (l : Launch) (g : GT) (x : Int32)  : CT l g yX1_isOfName wsX1_isOfName ({ frames := 4, cells := 0, slots := 0, locals := 96 } : Room) [.int x] [] (fun r w => (r = some (.int (nI 1)) ∧ w = [] ∧ (pNameC x)) ∨ (r = some (.int (nI 0)) ∧ w = [] ∧ (¬ (pNameC x)))) (0) (0) := by
  refine ct_of (cc := cX1_isOfName) (maxL := 1) (ret := (some .boolean)) (by decide) rfl (Nat.le_of_ble_eq_true rfl) ?_
  intro p e s m args below meth c A Q hx hb hr hml hown hts hlocks hnam hAe hQ hA hG hK hP hD hS ls hl
  have hl : lv_has ls 1 [(0, .int x)] := hl
  have hown : s.vm.findClass RX1 = some m.cls := hown
  have hs6 := slen_le 6 (by decide)
  refine lv_iload_n hx hb dX1_isOfName_0 rfl (lv_at hl 0 rfl) ?_
  refine ct_callS (wr := []) hx hb hml hown hts hK hP hD hS hA hG hl.1 (c_isGreat l g x ) (va_cwS 1 hts gX1_isOfName_X1_isGreat rfl rfl rfl (by decide +kernel) ⟨Nat.le_of_ble_eq_true rfl, Nat.le_of_ble_eq_true rfl⟩) rfl rfl (Nat.le_of_ble_eq_true rfl) dX1_isOfName_1 ⟨show 0 + 0 ≤ 0 by omega, show 0 + 0 ≤ 0 by omega⟩ [] [] rfl rfl (by decide) (by decide) (by decide) (fun r_ w_ H locs hp_ hP hD hS => ?_)
  rcases hp_ with ⟨rfl, rfl, hT_1⟩ | ⟨rfl, rfl, hF_1⟩
  · skip
    have hP : va_P (gD g) vwCl [] H := hP
    have hD : va_D A [] := hD
    have hT_1 : pGreat x := hT_1
    refine W.eq (g2 := F0 m 4 ls [.int (nI 1)]) rfl ?_
    refine lv_if_ne (tgt := 43) hx hb dX1_isOfName_4 (by decide) (fun _ => ?_) (fun c4 => absurd c4 (by decide))
    refine lv_iconst (v := nI 1) hx hb dX1_isOfName_43 (by decide) ?_
    refine lv_goto (tgt := 48) hx hb dX1_isOfName_44 (by decide) ?_
    refine ct_iret (w := []) hx hb hr rfl hlocks hQ hAe hK (hP.sub [] rfl) (hD.sub [] (by decide) rfl) hS (by omega) (by omega) dX1_isOfName_48 ?_
    refine Or.inl (?_)
    exact ⟨rfl, rfl, by first | exact Or.inl hT_1 | exact Or.inr (Or.inl hT_8) | exact Or.inr (Or.inr (Or.inl ⟨c17, c23⟩)) | exact Or.inr (Or.inr (Or.inr ⟨hT_27, _, hj_37, hj2_37⟩))⟩
  · skip
    have hP : va_P (gD g) vwCl [] H := hP
    have hD : va_D A [] := hD
    have hF_1 : ¬ (pGreat x) := hF_1
    refine W.eq (g2 := F0 m 4 ls [.int (nI 0)]) rfl ?_
    refine lv_if_ne (tgt := 43) hx hb dX1_isOfName_4 (by decide) (fun c4 => absurd (by decide) c4) (fun _ => ?_)
    refine lv_iload_n hx hb dX1_isOfName_7 rfl (lv_at hl 0 rfl) ?_
    refine ct_callS (wr := []) hx hb hml hown hts hK hP hD hS hA hG hl.1 (c_isDigit l g x ) (va_cwS 1 hts gX1_isOfName_X1_isDigit rfl rfl rfl (by decide +kernel) ⟨Nat.le_of_ble_eq_true rfl, Nat.le_of_ble_eq_true rfl⟩) rfl rfl (Nat.le_of_ble_eq_true rfl) dX1_isOfName_8 ⟨show 0 + 0 ≤ 0 by omega, show 0 + 0 ≤ 0 by omega⟩ [] [] rfl rfl (by decide) (by decide) (by decide) (fun r_ w_ H locs hp_ hP hD hS => ?_)
    rcases hp_ with ⟨rfl, rfl, hT_8⟩ | ⟨rfl, rfl, hF_8⟩
    · skip
      have hP : va_P (gD g) vwCl [] H := hP
      have hD : va_D A [] := hD
      have hT_8 : pDigit x := hT_8
      refine W.eq (g2 := F0 m 11 ls [.int (nI 1)]) rfl ?_
      refine lv_if_ne (tgt := 43) hx hb dX1_isOfName_11 (by decide) (fun _ => ?_) (fun c11 => absurd c11 (by decide))
      refine lv_iconst (v := nI 1) hx hb dX1_isOfName_43 (by decide) ?_
      refine lv_goto (tgt := 48) hx hb dX1_isOfName_44 (by decide) ?_
      refine ct_iret (w := []) hx hb hr rfl hlocks hQ hAe hK (hP.sub [] rfl) (hD.sub [] (by decide) rfl) hS (by omega) (by omega) dX1_isOfName_48 ?_
      refine Or.inl (?_)
      exact ⟨rfl, rfl, by first | exact Or.inl hT_1 | exact Or.inr (Or.inl hT_8) | exact Or.inr (Or.inr (Or.inl ⟨c17, c23⟩)) | exact Or.inr (Or.inr (Or.inr ⟨hT_27, _, hj_37, hj2_37⟩))⟩
    · skip
      have hP : va_P (gD g) vwCl [] H := hP
      have hD : va_D A [] := hD
      have hF_8 : ¬ (pDigit x) := hF_8
      refine W.eq (g2 := F0 m 11 ls [.int (nI 0)]) rfl ?_
      refine lv_if_ne (tgt := 43) hx hb dX1_isOfName_11 (by decide) (fun c11 => absurd (by decide) c11) (fun _ => ?_)
      refine lv_iload_n hx hb dX1_isOfName_14 rfl (lv_at hl 0 rfl) ?_
      refine lv_bipush (v := nI 97) hx hb dX1_isOfName_15 (by decide) ?_
      refine lv_icmp_lt (tgt := 26) hx hb dX1_isOfName_17 (by decide) (fun c17 => ?_) (fun c17 => ?_)
      · skip
        refine lv_iload_n hx hb dX1_isOfName_26 rfl (lv_at hl 0 rfl) ?_
        refine ct_callS (wr := []) hx hb hml hown hts hK hP hD hS hA hG hl.1 (c_isVisible l g x ) (va_cwS 1 hts gX1_isOfName_X1_isVisible rfl rfl rfl (by decide +kernel) ⟨Nat.le_of_ble_eq_true rfl, Nat.le_of_ble_eq_true rfl⟩) rfl rfl (Nat.le_of_ble_eq_true rfl) dX1_isOfName_27 ⟨show 0 + 0 ≤ 0 by omega, show 0 + 0 ≤ 0 by omega⟩ [] [] rfl rfl (by decide) (by decide) (by decide) (fun r_ w_ H locs hp_ hP hD hS => ?_)
        rcases hp_ with ⟨rfl, rfl, hT_27⟩ | ⟨rfl, rfl, hF_27⟩
        · skip
          have hP : va_P (gD g) vwCl [] H := hP
          have hD : va_D A [] := hD
          have hT_27 : pVis x := hT_27
          refine W.eq (g2 := F0 m 30 ls [.int (nI 1)]) rfl ?_
          obtain ⟨n, hn, rfl⟩ := vis_nat hT_27
          refine lv_if_eq (tgt := 47) hx hb dX1_isOfName_30 (by decide) (fun c30 => absurd c30 (by decide)) (fun _ => ?_)
          refine va_ldcS hx hb hown ((hG.1 6 (by decide)).2.2.2.2) dX1_isOfName_33 ?_
          refine lv_iload_n hx hb dX1_isOfName_35 rfl (lv_at hl 0 rfl) ?_
          refine lv_i2c (v := nI n) hx hb dX1_isOfName_36 (i2cN (by omega)) ?_
          refine ct_callV (wr := []) hx hb hml hown hts hK hP hD hS hA hG hl.1 (c_ix2 l g 6 n (by first | assumption | decide) (by omega)) (cwV 1 hts gX1_isOfName_J0_indexOf_0f7a4 rfl rfl rfl (by decide +kernel) ⟨Nat.le_of_ble_eq_true rfl, Nat.le_of_ble_eq_true rfl⟩) (st_recv hG (k := 6) (by decide) hS) rfl rfl (Nat.le_of_ble_eq_true rfl) dX1_isOfName_37 ⟨show 0 + 0 ≤ 0 by omega, show 0 + 0 ≤ 0 by omega⟩ [] [] rfl rfl (by decide) (by decide) (by decide) (fun r_ w_ H locs hp_ hP hD hS => ?_)
          rcases hp_ with ⟨j_37, rfl, rfl, hj_37, hj2_37⟩ | ⟨rfl, rfl, hno_37⟩
          · skip
            have hP : va_P (gD g) vwCl [] H := hP
            have hD : va_D A [] := hD
            have hj_37 : j_37 < slen 6 := hj_37
            have hj2_37 : sbyt 6 j_37 &&& 255 = nI n := hj2_37
            refine W.eq (g2 := F0 m 40 ls [.int (nI j_37)]) rfl ?_
            refine lv_if_lt (tgt := 47) hx hb dX1_isOfName_40 (by decide) (fun c40 => ?_) (fun c40 => ?_)
            · skip
              have c40 : j_37 < 0 := (nI_ltI (a := j_37) (b := 0) (by omega) (by omega)).mp c40
              exact absurd c40 (by omega)
            · skip
              have c40 : ¬ (j_37 < 0) := fun z => c40 ((nI_ltI (a := j_37) (b := 0) (by omega) (by omega)).mpr z)
              refine lv_iconst (v := nI 1) hx hb dX1_isOfName_43 (by decide) ?_
              refine lv_goto (tgt := 48) hx hb dX1_isOfName_44 (by decide) ?_
              refine ct_iret (w := []) hx hb hr rfl hlocks hQ hAe hK (hP.sub [] rfl) (hD.sub [] (by decide) rfl) hS (by omega) (by omega) dX1_isOfName_48 ?_
              refine Or.inl (?_)
              exact ⟨rfl, rfl, by first | exact Or.inl hT_1 | exact Or.inr (Or.inl hT_8) | exact Or.inr (Or.inr (Or.inl ⟨c17, c23⟩)) | exact Or.inr (Or.inr (Or.inr ⟨hT_27, _, hj_37, hj2_37⟩))⟩
          · skip
            have hP : va_P (gD g) vwCl [] H := hP
            have hD : va_D A [] := hD
            have hno_37 : ∀ j, j < slen 6 → ¬ sbyt 6 j &&& 255 = nI n := hno_37
            refine W.eq (g2 := F0 m 40 ls [.int (-1)]) rfl ?_
            refine lv_if_lt (tgt := 47) hx hb dX1_isOfName_40 (by decide) (fun _ => ?_) (fun c40 => absurd (by decide) c40)
            refine lv_iconst (v := nI 0) hx hb dX1_isOfName_47 (by decide) ?_
            refine ct_iret (w := []) hx hb hr rfl hlocks hQ hAe hK (hP.sub [] rfl) (hD.sub [] (by decide) rfl) hS (by omega) (by omega) dX1_isOfName_48 ?_
            refine Or.inr ((?_))
            exact ⟨rfl, rfl, by first | exact fun z => z.elim hF_1 (fun z => z.elim hF_8 (fun z => z.elim (fun z => z.1 c17) (fun z => hF_27 z.1))) | exact fun z => z.elim hF_1 (fun z => z.elim hF_8 (fun z => z.elim (fun z => c23 z.2) (fun z => hF_27 z.1))) | exact fun z => z.elim hF_1 (fun z => z.elim hF_8 (fun z => z.elim (fun z => z.1 c17) (fun z => z.2.elim (fun j w => hno_37 j w.1 w.2)))) | exact fun z => z.elim hF_1 (fun z => z.elim hF_8 (fun z => z.elim (fun z => c23 z.2) (fun z => z.2.elim (fun j w => hno_37 j w.1 w.2))))⟩
        · skip
          have hP : va_P (gD g) vwCl [] H := hP
          have hD : va_D A [] := hD
          have hF_27 : ¬ (pVis x) := hF_27
          refine W.eq (g2 := F0 m 30 ls [.int (nI 0)]) rfl ?_
          refine lv_if_eq (tgt := 47) hx hb dX1_isOfName_30 (by decide) (fun _ => ?_) (fun c30 => absurd (by decide) c30)
          refine lv_iconst (v := nI 0) hx hb dX1_isOfName_47 (by decide) ?_
          refine ct_iret (w := []) hx hb hr rfl hlocks hQ hAe hK (hP.sub [] rfl) (hD.sub [] (by decide) rfl) hS (by omega) (by omega) dX1_isOfName_48 ?_
          refine Or.inr ((?_))
          exact ⟨rfl, rfl, by first | exact fun z => z.elim hF_1 (fun z => z.elim hF_8 (fun z => z.elim (fun z => z.1 c17) (fun z => hF_27 z.1))) | exact fun z => z.elim hF_1 (fun z => z.elim hF_8 (fun z => z.elim (fun z => c23 z.2) (fun z => hF_27 z.1))) | exact fun z => z.elim hF_1 (fun z => z.elim hF_8 (fun z => z.elim (fun z => z.1 c17) (fun z => z.2.elim (fun j w => hno_37 j w.1 w.2)))) | exact fun z => z.elim hF_1 (fun z => z.elim hF_8 (fun z => z.elim (fun z => c23 z.2) (fun z => z.2.elim (fun j w => hno_37 j w.1 w.2))))⟩
      · skip
        refine lv_iload_n hx hb dX1_isOfName_20 rfl (lv_at hl 0 rfl) ?_
        refine lv_bipush (v := nI 122) hx hb dX1_isOfName_21 (by decide) ?_
        refine lv_icmp_le (tgt := 43) hx hb dX1_isOfName_23 (by decide) (fun c23 => ?_) (fun c23 => ?_)
        · skip
          refine lv_iconst (v := nI 1) hx hb dX1_isOfName_43 (by decide) ?_
          refine lv_goto (tgt := 48) hx hb dX1_isOfName_44 (by decide) ?_
          refine ct_iret (w := []) hx hb hr rfl hlocks hQ hAe hK (hP.sub [] rfl) (hD.sub [] (by decide) rfl) hS (by omega) (by omega) dX1_isOfName_48 ?_
          refine Or.inl (?_)
          exact ⟨rfl, rfl, by first | exact Or.inl hT_1 | exact Or.inr (Or.inl hT_8) | exact Or.inr (Or.inr (Or.inl ⟨c17, c23⟩)) | exact Or.inr (Or.inr (Or.inr ⟨hT_27, _, hj_37, hj2_37⟩))⟩
        · skip
          refine lv_iload_n hx hb dX1_isOfName_26 rfl (lv_at hl 0 rfl) ?_
          refine ct_callS (wr := []) hx hb hml hown hts hK hP hD hS hA hG hl.1 (c_isVisible l g x ) (va_cwS 1 hts gX1_isOfName_X1_isVisible rfl rfl rfl (by decide +kernel) ⟨Nat.le_of_ble_eq_true rfl, Nat.le_of_ble_eq_true rfl⟩) rfl rfl (Nat.le_of_ble_eq_true rfl) dX1_isOfName_27 ⟨show 0 + 0 ≤ 0 by omega, show 0 + 0 ≤ 0 by omega⟩ [] [] rfl rfl (by decide) (by decide) (by decide) (fun r_ w_ H locs hp_ hP hD hS => ?_)
          rcases hp_ with ⟨rfl, rfl, hT_27⟩ | ⟨rfl, rfl, hF_27⟩
          · skip
            have hP : va_P (gD g) vwCl [] H := hP
            have hD : va_D A [] := hD
            have hT_27 : pVis x := hT_27
            refine W.eq (g2 := F0 m 30 ls [.int (nI 1)]) rfl ?_
            obtain ⟨n, hn, rfl⟩ := vis_nat hT_27
            refine lv_if_eq (tgt := 47) hx hb dX1_isOfName_30 (by decide) (fun c30 => absurd c30 (by decide)) (fun _ => ?_)
            refine va_ldcS hx hb hown ((hG.1 6 (by decide)).2.2.2.2) dX1_isOfName_33 ?_
            refine lv_iload_n hx hb dX1_isOfName_35 rfl (lv_at hl 0 rfl) ?_
            refine lv_i2c (v := nI n) hx hb dX1_isOfName_36 (i2cN (by omega)) ?_
            refine ct_callV (wr := []) hx hb hml hown hts hK hP hD hS hA hG hl.1 (c_ix2 l g 6 n (by first | assumption | decide) (by omega)) (cwV 1 hts gX1_isOfName_J0_indexOf_0f7a4 rfl rfl rfl (by decide +kernel) ⟨Nat.le_of_ble_eq_true rfl, Nat.le_of_ble_eq_true rfl⟩) (st_recv hG (k := 6) (by decide) hS) rfl rfl (Nat.le_of_ble_eq_true rfl) dX1_isOfName_37 ⟨show 0 + 0 ≤ 0 by omega, show 0 + 0 ≤ 0 by omega⟩ [] [] rfl rfl (by decide) (by decide) (by decide) (fun r_ w_ H locs hp_ hP hD hS => ?_)
            rcases hp_ with ⟨j_37, rfl, rfl, hj_37, hj2_37⟩ | ⟨rfl, rfl, hno_37⟩
            · skip
              have hP : va_P (gD g) vwCl [] H := hP
              have hD : va_D A [] := hD
              have hj_37 : j_37 < slen 6 := hj_37
              have hj2_37 : sbyt 6 j_37 &&& 255 = nI n := hj2_37
              refine W.eq (g2 := F0 m 40 ls [.int (nI j_37)]) rfl ?_
              refine lv_if_lt (tgt := 47) hx hb dX1_isOfName_40 (by decide) (fun c40 => ?_) (fun c40 => ?_)
              · skip
                have c40 : j_37 < 0 := (nI_ltI (a := j_37) (b := 0) (by omega) (by omega)).mp c40
                exact absurd c40 (by omega)
              · skip
                have c40 : ¬ (j_37 < 0) := fun z => c40 ((nI_ltI (a := j_37) (b := 0) (by omega) (by omega)).mpr z)
                refine lv_iconst (v := nI 1) hx hb dX1_isOfName_43 (by decide) ?_
                refine lv_goto (tgt := 48) hx hb dX1_isOfName_44 (by decide) ?_
                refine ct_iret (w := []) hx hb hr rfl hlocks hQ hAe hK (hP.sub [] rfl) (hD.sub [] (by decide) rfl) hS (by omega) (by omega) dX1_isOfName_48 ?_
                refine Or.inl (?_)
                exact ⟨rfl, rfl, by first | exact Or.inl hT_1 | exact Or.inr (Or.inl hT_8) | exact Or.inr (Or.inr (Or.inl ⟨c17, c23⟩)) | exact Or.inr (Or.inr (Or.inr ⟨hT_27, _, hj_37, hj2_37⟩))⟩
            · skip
              have hP : va_P (gD g) vwCl [] H := hP
              have hD : va_D A [] := hD
              have hno_37 : ∀ j, j < slen 6 → ¬ sbyt 6 j &&& 255 = nI n := hno_37
              refine W.eq (g2 := F0 m 40 ls [.int (-1)]) rfl ?_
              refine lv_if_lt (tgt := 47) hx hb dX1_isOfName_40 (by decide) (fun _ => ?_) (fun c40 => absurd (by decide) c40)
              refine lv_iconst (v := nI 0) hx hb dX1_isOfName_47 (by decide) ?_
              refine ct_iret (w := []) hx hb hr rfl hlocks hQ hAe hK (hP.sub [] rfl) (hD.sub [] (by decide) rfl) hS (by omega) (by omega) dX1_isOfName_48 ?_
              refine Or.inr ((?_))
              exact ⟨rfl, rfl, by first | exact fun z => z.elim hF_1 (fun z => z.elim hF_8 (fun z => z.elim (fun z => z.1 c17) (fun z => hF_27 z.1))) | exact fun z => z.elim hF_1 (fun z => z.elim hF_8 (fun z => z.elim (fun z => c23 z.2) (fun z => hF_27 z.1))) | exact fun z => z.elim hF_1 (fun z => z.elim hF_8 (fun z => z.elim (fun z => z.1 c17) (fun z => z.2.elim (fun j w => hno_37 j w.1 w.2)))) | exact fun z => z.elim hF_1 (fun z => z.elim hF_8 (fun z => z.elim (fun z => c23 z.2) (fun z => z.2.elim (fun j w => hno_37 j w.1 w.2))))⟩
          · skip
            have hP : va_P (gD g) vwCl [] H := hP
            have hD : va_D A [] := hD
            have hF_27 : ¬ (pVis x) := hF_27
            refine W.eq (g2 := F0 m 30 ls [.int (nI 0)]) rfl ?_
            refine lv_if_eq (tgt := 47) hx hb dX1_isOfName_30 (by decide) (fun _ => ?_) (fun c30 => absurd (by decide) c30)
            refine lv_iconst (v := nI 0) hx hb dX1_isOfName_47 (by decide) ?_
            refine ct_iret (w := []) hx hb hr rfl hlocks hQ hAe hK (hP.sub [] rfl) (hD.sub [] (by decide) rfl) hS (by omega) (by omega) dX1_isOfName_48 ?_
            refine Or.inr ((?_))
            exact ⟨rfl, rfl, by first | exact fun z => z.elim hF_1 (fun z => z.elim hF_8 (fun z => z.elim (fun z => z.1 c17) (fun z => hF_27 z.1))) | exact fun z => z.elim hF_1 (fun z => z.elim hF_8 (fun z => z.elim (fun z => c23 z.2) (fun z => hF_27 z.1))) | exact fun z => z.elim hF_1 (fun z => z.elim hF_8 (fun z => z.elim (fun z => z.1 c17) (fun z => z.2.elim (fun j w => hno_37 j w.1 w.2)))) | exact fun z => z.elim hF_1 (fun z => z.elim hF_8 (fun z => z.elim (fun z => c23 z.2) (fun z => z.2.elim (fun j w => hno_37 j w.1 w.2))))⟩

set_option maxHeartbeats 4000000 in
set_option maxRecDepth 100000 in
theorem c_hexValue (l : Launch) (g : GT) (x : Int32)  : CT l g yX1_hexValue wsX1_hexValue ({ frames := 1, cells := 0, slots := 0, locals := 20 } : Room) [.int x] [] (fun r w => (∃ (v1 : Int32), r = some (.int v1) ∧ w = [] ∧ (v1 = hexV x))) (0) (0) := by
  refine ct_of (cc := cX1_hexValue) (maxL := 1) (ret := (some .int)) (by decide) rfl (Nat.le_of_ble_eq_true rfl) ?_
  intro p e s m args below meth c A Q hx hb hr hml hown hts hlocks hnam hAe hQ hA hG hK hP hD hS ls hl
  have hl : lv_has ls 1 [(0, .int x)] := hl
  have hown : s.vm.findClass RX1 = some m.cls := hown
  refine lv_iload_n hx hb dX1_hexValue_0 rfl (lv_at hl 0 rfl) ?_
  refine ct_callS (wr := []) hx hb hml hown hts hK hP hD hS hA hG hl.1 (c_isDigit l g x ) (va_cwS 1 hts gX1_hexValue_X1_isDigit rfl rfl rfl (by decide +kernel) ⟨Nat.le_of_ble_eq_true rfl, Nat.le_of_ble_eq_true rfl⟩) rfl rfl (Nat.le_of_ble_eq_true rfl) dX1_hexValue_1 ⟨show 0 + 0 ≤ 0 by omega, show 0 + 0 ≤ 0 by omega⟩ [] [] rfl rfl (by decide) (by decide) (by decide) (fun r_ w_ H locs hp_ hP hD hS => ?_)
  rcases hp_ with ⟨rfl, rfl, hT_1⟩ | ⟨rfl, rfl, hF_1⟩
  · skip
    have hP : va_P (gD g) vwCl [] H := hP
    have hD : va_D A [] := hD
    have hT_1 : pDigit x := hT_1
    refine W.eq (g2 := F0 m 4 ls [.int (nI 1)]) rfl ?_
    refine lv_if_eq (tgt := 12) hx hb dX1_hexValue_4 (by decide) (fun c4 => absurd c4 (by decide)) (fun _ => ?_)
    refine lv_iload_n hx hb dX1_hexValue_7 rfl (lv_at hl 0 rfl) ?_
    refine lv_bipush (v := nI 48) hx hb dX1_hexValue_8 (by decide) ?_
    refine q_isub (v := x - (nI 48)) hx hb dX1_hexValue_10 (rfl) ?_
    refine ct_iret (w := []) hx hb hr rfl hlocks hQ hAe hK (hP.sub [] rfl) (hD.sub [] (by decide) rfl) hS (by omega) (by omega) dX1_hexValue_11 ?_
    exact ⟨x - (nI 48), rfl, rfl, by first | exact (hexV_1 hT_1).symm | exact (hexV_2 hF_1 ⟨c15, c21⟩).symm | exact (hexV_3 hF_1 (fun z => z.1 c15) ⟨c35, c41⟩).symm | exact (hexV_4 hF_1 (fun z => z.1 c15) (fun z => z.1 c35)).symm | exact (hexV_4 hF_1 (fun z => z.1 c15) (fun z => z.2 c41)).symm | exact (hexV_3 hF_1 (fun z => z.2 c21) ⟨c35, c41⟩).symm | exact (hexV_4 hF_1 (fun z => z.2 c21) (fun z => z.1 c35)).symm | exact (hexV_4 hF_1 (fun z => z.2 c21) (fun z => z.2 c41)).symm⟩
  · skip
    have hP : va_P (gD g) vwCl [] H := hP
    have hD : va_D A [] := hD
    have hF_1 : ¬ (pDigit x) := hF_1
    refine W.eq (g2 := F0 m 4 ls [.int (nI 0)]) rfl ?_
    refine lv_if_eq (tgt := 12) hx hb dX1_hexValue_4 (by decide) (fun _ => ?_) (fun c4 => absurd (by decide) c4)
    refine lv_iload_n hx hb dX1_hexValue_12 rfl (lv_at hl 0 rfl) ?_
    refine lv_bipush (v := nI 97) hx hb dX1_hexValue_13 (by decide) ?_
    refine lv_icmp_lt (tgt := 32) hx hb dX1_hexValue_15 (by decide) (fun c15 => ?_) (fun c15 => ?_)
    · skip
      refine lv_iload_n hx hb dX1_hexValue_32 rfl (lv_at hl 0 rfl) ?_
      refine lv_bipush (v := nI 65) hx hb dX1_hexValue_33 (by decide) ?_
      refine lv_icmp_lt (tgt := 54) hx hb dX1_hexValue_35 (by decide) (fun c35 => ?_) (fun c35 => ?_)
      · skip
        refine lv_iconst (v := (-1)) hx hb dX1_hexValue_54 (by decide) ?_
        refine ct_iret (w := []) hx hb hr rfl hlocks hQ hAe hK (hP.sub [] rfl) (hD.sub [] (by decide) rfl) hS (by omega) (by omega) dX1_hexValue_55 ?_
        exact ⟨-1, rfl, rfl, by first | exact (hexV_1 hT_1).symm | exact (hexV_2 hF_1 ⟨c15, c21⟩).symm | exact (hexV_3 hF_1 (fun z => z.1 c15) ⟨c35, c41⟩).symm | exact (hexV_4 hF_1 (fun z => z.1 c15) (fun z => z.1 c35)).symm | exact (hexV_4 hF_1 (fun z => z.1 c15) (fun z => z.2 c41)).symm | exact (hexV_3 hF_1 (fun z => z.2 c21) ⟨c35, c41⟩).symm | exact (hexV_4 hF_1 (fun z => z.2 c21) (fun z => z.1 c35)).symm | exact (hexV_4 hF_1 (fun z => z.2 c21) (fun z => z.2 c41)).symm⟩
      · skip
        refine lv_iload_n hx hb dX1_hexValue_38 rfl (lv_at hl 0 rfl) ?_
        refine lv_bipush (v := nI 70) hx hb dX1_hexValue_39 (by decide) ?_
        refine lv_icmp_gt (tgt := 54) hx hb dX1_hexValue_41 (by decide) (fun c41 => ?_) (fun c41 => ?_)
        · skip
          refine lv_iconst (v := (-1)) hx hb dX1_hexValue_54 (by decide) ?_
          refine ct_iret (w := []) hx hb hr rfl hlocks hQ hAe hK (hP.sub [] rfl) (hD.sub [] (by decide) rfl) hS (by omega) (by omega) dX1_hexValue_55 ?_
          exact ⟨-1, rfl, rfl, by first | exact (hexV_1 hT_1).symm | exact (hexV_2 hF_1 ⟨c15, c21⟩).symm | exact (hexV_3 hF_1 (fun z => z.1 c15) ⟨c35, c41⟩).symm | exact (hexV_4 hF_1 (fun z => z.1 c15) (fun z => z.1 c35)).symm | exact (hexV_4 hF_1 (fun z => z.1 c15) (fun z => z.2 c41)).symm | exact (hexV_3 hF_1 (fun z => z.2 c21) ⟨c35, c41⟩).symm | exact (hexV_4 hF_1 (fun z => z.2 c21) (fun z => z.1 c35)).symm | exact (hexV_4 hF_1 (fun z => z.2 c21) (fun z => z.2 c41)).symm⟩
        · skip
          refine lv_iload_n hx hb dX1_hexValue_44 rfl (lv_at hl 0 rfl) ?_
          refine lv_bipush (v := nI 65) hx hb dX1_hexValue_45 (by decide) ?_
          refine q_isub (v := x - (nI 65)) hx hb dX1_hexValue_47 (rfl) ?_
          refine lv_bipush (v := nI 10) hx hb dX1_hexValue_48 (by decide) ?_
          refine q_iadd (v := (x - (nI 65)) + (nI 10)) hx hb dX1_hexValue_50 (rfl) ?_
          refine lv_goto (tgt := 55) hx hb dX1_hexValue_51 (by decide) ?_
          refine ct_iret (w := []) hx hb hr rfl hlocks hQ hAe hK (hP.sub [] rfl) (hD.sub [] (by decide) rfl) hS (by omega) (by omega) dX1_hexValue_55 ?_
          exact ⟨(x - (nI 65)) + (nI 10), rfl, rfl, by first | exact (hexV_1 hT_1).symm | exact (hexV_2 hF_1 ⟨c15, c21⟩).symm | exact (hexV_3 hF_1 (fun z => z.1 c15) ⟨c35, c41⟩).symm | exact (hexV_4 hF_1 (fun z => z.1 c15) (fun z => z.1 c35)).symm | exact (hexV_4 hF_1 (fun z => z.1 c15) (fun z => z.2 c41)).symm | exact (hexV_3 hF_1 (fun z => z.2 c21) ⟨c35, c41⟩).symm | exact (hexV_4 hF_1 (fun z => z.2 c21) (fun z => z.1 c35)).symm | exact (hexV_4 hF_1 (fun z => z.2 c21) (fun z => z.2 c41)).symm⟩
    · skip
      refine lv_iload_n hx hb dX1_hexValue_18 rfl (lv_at hl 0 rfl) ?_
      refine lv_bipush (v := nI 102) hx hb dX1_hexValue_19 (by decide) ?_
      refine lv_icmp_gt (tgt := 32) hx hb dX1_hexValue_21 (by decide) (fun c21 => ?_) (fun c21 => ?_)
      · skip
        refine lv_iload_n hx hb dX1_hexValue_32 rfl (lv_at hl 0 rfl) ?_
        refine lv_bipush (v := nI 65) hx hb dX1_hexValue_33 (by decide) ?_
        refine lv_icmp_lt (tgt := 54) hx hb dX1_hexValue_35 (by decide) (fun c35 => ?_) (fun c35 => ?_)
        · skip
          refine lv_iconst (v := (-1)) hx hb dX1_hexValue_54 (by decide) ?_
          refine ct_iret (w := []) hx hb hr rfl hlocks hQ hAe hK (hP.sub [] rfl) (hD.sub [] (by decide) rfl) hS (by omega) (by omega) dX1_hexValue_55 ?_
          exact ⟨-1, rfl, rfl, by first | exact (hexV_1 hT_1).symm | exact (hexV_2 hF_1 ⟨c15, c21⟩).symm | exact (hexV_3 hF_1 (fun z => z.1 c15) ⟨c35, c41⟩).symm | exact (hexV_4 hF_1 (fun z => z.1 c15) (fun z => z.1 c35)).symm | exact (hexV_4 hF_1 (fun z => z.1 c15) (fun z => z.2 c41)).symm | exact (hexV_3 hF_1 (fun z => z.2 c21) ⟨c35, c41⟩).symm | exact (hexV_4 hF_1 (fun z => z.2 c21) (fun z => z.1 c35)).symm | exact (hexV_4 hF_1 (fun z => z.2 c21) (fun z => z.2 c41)).symm⟩
        · skip
          refine lv_iload_n hx hb dX1_hexValue_38 rfl (lv_at hl 0 rfl) ?_
          refine lv_bipush (v := nI 70) hx hb dX1_hexValue_39 (by decide) ?_
          refine lv_icmp_gt (tgt := 54) hx hb dX1_hexValue_41 (by decide) (fun c41 => ?_) (fun c41 => ?_)
          · skip
            refine lv_iconst (v := (-1)) hx hb dX1_hexValue_54 (by decide) ?_
            refine ct_iret (w := []) hx hb hr rfl hlocks hQ hAe hK (hP.sub [] rfl) (hD.sub [] (by decide) rfl) hS (by omega) (by omega) dX1_hexValue_55 ?_
            exact ⟨-1, rfl, rfl, by first | exact (hexV_1 hT_1).symm | exact (hexV_2 hF_1 ⟨c15, c21⟩).symm | exact (hexV_3 hF_1 (fun z => z.1 c15) ⟨c35, c41⟩).symm | exact (hexV_4 hF_1 (fun z => z.1 c15) (fun z => z.1 c35)).symm | exact (hexV_4 hF_1 (fun z => z.1 c15) (fun z => z.2 c41)).symm | exact (hexV_3 hF_1 (fun z => z.2 c21) ⟨c35, c41⟩).symm | exact (hexV_4 hF_1 (fun z => z.2 c21) (fun z => z.1 c35)).symm | exact (hexV_4 hF_1 (fun z => z.2 c21) (fun z => z.2 c41)).symm⟩
          · skip
            refine lv_iload_n hx hb dX1_hexValue_44 rfl (lv_at hl 0 rfl) ?_
            refine lv_bipush (v := nI 65) hx hb dX1_hexValue_45 (by decide) ?_
            refine q_isub (v := x - (nI 65)) hx hb dX1_hexValue_47 (rfl) ?_
            refine lv_bipush (v := nI 10) hx hb dX1_hexValue_48 (by decide) ?_
            refine q_iadd (v := (x - (nI 65)) + (nI 10)) hx hb dX1_hexValue_50 (rfl) ?_
            refine lv_goto (tgt := 55) hx hb dX1_hexValue_51 (by decide) ?_
            refine ct_iret (w := []) hx hb hr rfl hlocks hQ hAe hK (hP.sub [] rfl) (hD.sub [] (by decide) rfl) hS (by omega) (by omega) dX1_hexValue_55 ?_
            exact ⟨(x - (nI 65)) + (nI 10), rfl, rfl, by first | exact (hexV_1 hT_1).symm | exact (hexV_2 hF_1 ⟨c15, c21⟩).symm | exact (hexV_3 hF_1 (fun z => z.1 c15) ⟨c35, c41⟩).symm | exact (hexV_4 hF_1 (fun z => z.1 c15) (fun z => z.1 c35)).symm | exact (hexV_4 hF_1 (fun z => z.1 c15) (fun z => z.2 c41)).symm | exact (hexV_3 hF_1 (fun z => z.2 c21) ⟨c35, c41⟩).symm | exact (hexV_4 hF_1 (fun z => z.2 c21) (fun z => z.1 c35)).symm | exact (hexV_4 hF_1 (fun z => z.2 c21) (fun z => z.2 c41)).symm⟩
      · skip
        refine lv_iload_n hx hb dX1_hexValue_24 rfl (lv_at hl 0 rfl) ?_
        refine lv_bipush (v := nI 97) hx hb dX1_hexValue_25 (by decide) ?_
        refine q_isub (v := x - (nI 97)) hx hb dX1_hexValue_27 (rfl) ?_
        refine lv_bipush (v := nI 10) hx hb dX1_hexValue_28 (by decide) ?_
        refine q_iadd (v := (x - (nI 97)) + (nI 10)) hx hb dX1_hexValue_30 (rfl) ?_
        refine ct_iret (w := []) hx hb hr rfl hlocks hQ hAe hK (hP.sub [] rfl) (hD.sub [] (by decide) rfl) hS (by omega) (by omega) dX1_hexValue_31 ?_
        exact ⟨(x - (nI 97)) + (nI 10), rfl, rfl, by first | exact (hexV_1 hT_1).symm | exact (hexV_2 hF_1 ⟨c15, c21⟩).symm | exact (hexV_3 hF_1 (fun z => z.1 c15) ⟨c35, c41⟩).symm | exact (hexV_4 hF_1 (fun z => z.1 c15) (fun z => z.1 c35)).symm | exact (hexV_4 hF_1 (fun z => z.1 c15) (fun z => z.2 c41)).symm | exact (hexV_3 hF_1 (fun z => z.2 c21) ⟨c35, c41⟩).symm | exact (hexV_4 hF_1 (fun z => z.2 c21) (fun z => z.1 c35)).symm | exact (hexV_4 hF_1 (fun z => z.2 c21) (fun z => z.2 c41)).symm⟩

set_option maxHeartbeats 4000000 in
set_option maxRecDepth 100000 in
theorem c_ofMark (l : Launch) (g : GT) (v : Int32) (i : Nat) (hi : i < 10) : CT l g yX1_ofMark wsX1_ofMark ({ frames := 4, cells := 0, slots := 0, locals := 85 } : Room) [.int v, .int (nI i)] [] (fun r w => (∃ (v1 : Int32), r = some (.int v1) ∧ w = [] ∧ (v1 = mkC v i))) (0) (0) := by
  refine ct_of (cc := cX1_ofMark) (maxL := 2) (ret := (some .int)) (by decide) rfl (Nat.le_of_ble_eq_true rfl) ?_
  intro p e s m args below meth c A Q hx hb hr hml hown hts hlocks hnam hAe hQ hA hG hK hP hD hS ls hl
  have hl : lv_has ls 2 [(0, .int v), (1, .int (nI i))] := hl
  have hown : s.vm.findClass RX1 = some m.cls := hown
  refine lv_iload_n hx hb dX1_ofMark_0 rfl (lv_at hl 1 rfl) ?_
  refine lv_if_le (tgt := 10) hx hb dX1_ofMark_1 (by decide) (fun c1 => ?_) (fun c1 => ?_)
  · skip
    have c1 : i ≤ 0 := (nI_leI (a := i) (b := 0) (by omega) (by omega)).mp c1
    refine lv_bipush (v := nI 34) hx hb dX1_ofMark_10 (by decide) ?_
    refine ct_iret (w := []) hx hb hr rfl hlocks hQ hAe hK (hP.sub [] rfl) (hD.sub [] (by decide) rfl) hS (by omega) (by omega) dX1_ofMark_12 ?_
    exact ⟨nI 34, rfl, rfl, by first | exact (if_pos (by omega)).symm | exact (if_neg (by omega)).symm⟩
  · skip
    have c1 : ¬ (i ≤ 0) := fun z => c1 ((nI_leI (a := i) (b := 0) (by omega) (by omega)).mpr z)
    refine lv_iload_n hx hb dX1_ofMark_4 rfl (lv_at hl 1 rfl) ?_
    refine lv_bipush (v := nI 9) hx hb dX1_ofMark_5 (by decide) ?_
    refine lv_icmp_lt (tgt := 13) hx hb dX1_ofMark_7 (by decide) (fun c7 => ?_) (fun c7 => ?_)
    · skip
      have c7 : i < 9 := (nI_ltI (a := i) (b := 9) (by omega) (by omega)).mp c7
      refine va_ldcS hx hb hown ((hG.1 15 (by decide)).2.2.2.2) dX1_ofMark_13 ?_
      refine lv_iload_n hx hb dX1_ofMark_15 rfl (lv_at hl 0 rfl) ?_
      refine lv_iconst (v := nI 4) hx hb dX1_ofMark_16 (by decide) ?_
      refine lv_bipush (v := nI 8) hx hb dX1_ofMark_17 (by decide) ?_
      refine lv_iload_n hx hb dX1_ofMark_19 rfl (lv_at hl 1 rfl) ?_
      refine q_isub (v := nI (8 - i)) hx hb dX1_ofMark_20 (pk_sub (a := 8) (b := i) (by omega)) ?_
      refine q_imul (v := nI (4 * (8 - i))) hx hb dX1_ofMark_21 (pk_mul 4 (8 - i)) ?_
      refine lv_iushr (v := ush v (4 * (8 - i))) hx hb dX1_ofMark_22 (rfl) ?_
      refine lv_bipush (v := nI 15) hx hb dX1_ofMark_23 (by decide) ?_
      refine q_iand (v := nI (nibU v (4 * (8 - i)))) hx hb dX1_ofMark_25 (pk_and _ 4 (by decide)) ?_
      refine ct_callV (wr := []) hx hb hml hown hts hK hP hD hS hA hG hl.1 (c_charAt l g 15 (nibU v (4 * (8 - i))) (by first | assumption | decide) (by exact nibU_lt _ _)) (cwV 1 hts gX1_ofMark_J0_charAt_5068e rfl rfl rfl (by decide +kernel) ⟨Nat.le_of_ble_eq_true rfl, Nat.le_of_ble_eq_true rfl⟩) (st_recv hG (k := 15) (by decide) hS) rfl rfl (Nat.le_of_ble_eq_true rfl) dX1_ofMark_26 ⟨show 0 + 0 ≤ 0 by omega, show 0 + 0 ≤ 0 by omega⟩ [] [] rfl rfl (by decide) (by decide) (by decide) (fun r_ w_ H locs hp_ hP hD hS => ?_)
      obtain ⟨rfl, rfl⟩ := hp_
      have hP : va_P (gD g) vwCl [] H := hP
      have hD : va_D A [] := hD
      refine W.eq (g2 := F0 m 29 ls [.int (sbyt 15 (nibU v (4 * (8 - i))) &&& 255)]) rfl ?_
      refine ct_iret (w := []) hx hb hr rfl hlocks hQ hAe hK (hP.sub [] rfl) (hD.sub [] (by decide) rfl) hS (by omega) (by omega) dX1_ofMark_29 ?_
      exact ⟨sbyt 15 (nibU v (4 * (8 - i))) &&& 255, rfl, rfl, by first | exact (if_pos (by omega)).symm | exact (if_neg (by omega)).symm⟩
    · skip
      have c7 : ¬ (i < 9) := fun z => c7 ((nI_ltI (a := i) (b := 9) (by omega) (by omega)).mpr z)
      refine lv_bipush (v := nI 34) hx hb dX1_ofMark_10 (by decide) ?_
      refine ct_iret (w := []) hx hb hr rfl hlocks hQ hAe hK (hP.sub [] rfl) (hD.sub [] (by decide) rfl) hS (by omega) (by omega) dX1_ofMark_12 ?_
      exact ⟨nI 34, rfl, rfl, by first | exact (if_pos (by omega)).symm | exact (if_neg (by omega)).symm⟩
