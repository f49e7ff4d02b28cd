def dgM (v : Nat) : Nat := if v < 10 then 0 else if v < 100 then 1 else if v < 1000 then 2 else if v < 10000 then 3 else 4
def digL (v : Nat) : List Int32 := (List.range (dgM v + 1)).map (fun t => nI (48 + v / 10 ^ (dgM v - t) % 10))
theorem digL_len (v : Nat) : (digL v).length = dgM v + 1 := by simp [digL]
theorem digL_get (v j : Nat) (h : j < dgM v + 1) : (digL v).getD j 0 = nI (48 + v / 10 ^ (dgM v - j) % 10) := by
  simp [digL, List.getD, h]
theorem dgM_le (v : Nat) : dgM v ≤ 4 := by unfold dgM; repeat' split
                                           all_goals omega
theorem dg_lt {v i : Nat} (hv : v < 100000) (hi : i ≤ dgM v) : 10 ^ i ≤ v / 10 ↔ i < dgM v := by
  have h4 := dgM_le v
  have h5 : i = 0 ∨ i = 1 ∨ i = 2 ∨ i = 3 ∨ i = 4 := by omega
  unfold dgM at hi ⊢
  rcases h5 with rfl | rfl | rfl | rfl | rfl <;> simp only [Nat.reducePow] <;> (repeat' split at hi) <;> (repeat' split) <;> omega
theorem b7N : ∀ n, n < 128 → (nI n).toInt8.toInt32 = nI n := by decide +kernel
theorem p10pos (m : Nat) : 0 < 10 ^ m := by
  induction m with
  | zero => decide
  | succ m ih => rw [Nat.pow_succ]; omega
theorem p10 (m t : Nat) (h : t < m) : 10 ^ (m - t) / 10 = 10 ^ (m - (t + 1)) := by
  have e : m - t = (m - (t + 1)) + 1 := by omega
  rw [e, Nat.pow_succ, Nat.mul_div_cancel _ (by decide)]

set_option maxHeartbeats 4000000 in
set_option maxRecDepth 100000 in
theorem c_addNumF (l : Launch) (g : GT) (h : Nat) (q : Nat) (lim : Nat) (n : Nat) (sz : Nat) (f : Nat → Int32) (v : Nat) (hsn : sz ≤ n) (hnb : n < 2 ^ 30) (hnl : n ≤ lim) (hlb : lim < 2 ^ 27) (hfit : sb_Fit f) (hv : v < 100000) (hkn : sz + 5 ≤ n) : CT l g yX4_addNumber wsX4_addNumber ({ frames := 3, cells := 0, slots := 0, locals := 84 } : Room) [.ref h, .int (nI v)] [(h, .inr (3, [.int (nI lim), .ref q, .int (nI sz)])), (q, .inl (gB g, n, .inl f))] (fun r w => (∃ (q1 : Nat) (n1 : Nat) (f1 : Nat → Int32), r = none ∧ w = [(h, .inr (3, [.int (nI lim), .ref q1, .int (nI (sz + (dgM v + 1)))])), (q1, .inl (gB g, n1, .inl f1))] ∧ (n1 = n) ∧ (∀ j, j < sz → f1 j = f j) ∧ (hasL f1 sz (digL v)) ∧ (sb_Fit f1))) (0) (0) := by
  refine ct_of (cc := cX4_addNumber) (maxL := 4) (ret := none) (by decide) rfl (Nat.le_of_ble_eq_true rfl) ?_
  intro p e s m args below meth c A Q hx hb hr hml hown hts hlocks hnam hAe hQ hA hG hK hP hD hS ls hl
  have hl : lv_has ls 4 [(0, .ref h), (1, .int (nI v))] := hl
  have hown : s.vm.findClass RX4 = some m.cls := hown
  have hd4 := dgM_le v
  refine lv_iconst (v := nI 1) hx hb dX4_addNumber_0 (by decide) ?_
  refine lv_istore_n (lv' := [(2, .int (nI 1)), (0, .ref h), (1, .int (nI v))]) hx hb dX4_addNumber_1 rfl hl (by decide) rfl (fun ls hl => ?_)
  refine lv_iconst (v := nI 0) hx hb dX4_addNumber_2 (by decide) ?_
  refine lv_istore_n (lv' := [(3, .int (nI 0)), (2, .int (nI 1)), (0, .ref h), (1, .int (nI v))]) hx hb dX4_addNumber_3 rfl hl (by decide) rfl (fun ls hl => ?_)
  have K4 : ∀ (N_ : Nat) (i : Nat) (u : Nat), (i ≤ dgM v) → (u = 10 ^ i) → (u ≤ v ∨ u = 1) → (9 - i) < N_ → ∀ (H : Heap) (locs : List Loc) (ls : Array Slot), va_P (gD g) vwCl [(h, .inr (3, [.int (nI lim), .ref q, .int (nI sz)])), (q, .inl (gB g, n, .inl f))] H → va_D A [(h, .inr (3, [.int (nI lim), .ref q, .int (nI sz)])), (q, .inl (gB g, n, .inl f))] → va_S A s.heap H locs → lv_has ls 4 [(0, .ref h), (1, .int (nI v)), (2, .int (nI u)), (3, .int (nI i))] → W p l e ({ frames := 3, cells := 0, slots := 0, locals := 84 } : Room) s m args below meth c H locs (0) (0) Q (F0 m 4 ls []) := by
    intro N_
    induction N_ with
    | zero => intro i u hi hu hub hm_; exact absurd hm_ (Nat.not_lt_zero _)
    | succ N_ ih_K4 =>
      intro i u hi hu hub hm_ H locs ls hP hD hS hl
      refine lv_iload_n hx hb dX4_addNumber_4 rfl (lv_at hl 3 rfl) ?_
      refine lv_bipush (v := nI 9) hx hb dX4_addNumber_5 (by decide) ?_
      refine lv_icmp_ge (tgt := 29) hx hb dX4_addNumber_7 (by decide) (fun c7 => ?_) (fun c7 => ?_)
      · skip
        have c7 : 9 ≤ i := (nI_leI (a := 9) (b := i) (by omega) (by omega)).mp c7
        exact absurd c7 (by omega)
      · skip
        have c7 : ¬ (9 ≤ i) := fun z => c7 ((nI_leI (a := 9) (b := i) (by omega) (by omega)).mpr z)
        refine lv_iload_n hx hb dX4_addNumber_10 rfl (lv_at hl 2 rfl) ?_
        refine lv_iload_n hx hb dX4_addNumber_11 rfl (lv_at hl 1 rfl) ?_
        refine lv_bipush (v := nI 10) hx hb dX4_addNumber_12 (by decide) ?_
        refine q_idiv (v := nI (v / 10)) hx hb dX4_addNumber_14 (by decide) (pk_div (by omega) (by omega) (by omega)) ?_
        refine lv_icmp_gt (tgt := 29) hx hb dX4_addNumber_15 (by decide) (fun c15 => ?_) (fun c15 => ?_)
        · skip
          have c15 : v / 10 < u := (nI_ltI (a := v / 10) (b := u) (by omega) (by omega)).mp c15
          have em : i = dgM v := by rcases Nat.lt_or_ge i (dgM v) with z | z <;> first | exact absurd ((dg_lt hv hi).mpr z) (by rw [← hu]; omega) | omega
          have K29 : ∀ (N_ : Nat) (t : Nat) (u2 : Nat) (q1 : Nat) (n1 : Nat) (f1 : Nat → Int32), ((t ≤ dgM v ∧ u2 = 10 ^ (dgM v - t)) ∨ (t = dgM v + 1 ∧ u2 = 0)) → (u2 < 2 ^ 30) → (n1 = n) → (∀ j, j < sz → f1 j = f j) → (∀ j, j < t → f1 (sz + j) = nI (48 + v / 10 ^ (dgM v - j) % 10)) → (sb_Fit f1) → (dgM v + 1 - t) < N_ → ∀ (H : Heap) (locs : List Loc) (ls : Array Slot), va_P (gD g) vwCl [(h, .inr (3, [.int (nI lim), .ref q1, .int (nI (sz + t))])), (q1, .inl (gB g, n1, .inl f1))] H → va_D A [(h, .inr (3, [.int (nI lim), .ref q1, .int (nI (sz + t))])), (q1, .inl (gB g, n1, .inl f1))] → va_S A s.heap H locs → lv_has ls 4 [(0, .ref h), (1, .int (nI v)), (2, .int (nI u2))] → W p l e ({ frames := 3, cells := 0, slots := 0, locals := 84 } : Room) s m args below meth c H locs (0) (0) Q (F0 m 29 ls []) := by
            intro N_
            induction N_ with
            | zero => intro t u2 q1 n1 f1 hu2 hu3 en ef et ft hm_; exact absurd hm_ (Nat.not_lt_zero _)
            | succ N_ ih_K29 =>
              intro t u2 q1 n1 f1 hu2 hu3 en ef et ft hm_ H locs ls hP hD hS hl
              refine lv_iload_n hx hb dX4_addNumber_29 rfl (lv_at hl 2 rfl) ?_
              refine lv_if_le (tgt := 54) hx hb dX4_addNumber_30 (by decide) (fun c30 => ?_) (fun c30 => ?_)
              · skip
                have c30 : u2 ≤ 0 := (nI_leI (a := u2) (b := 0) (by omega) (by omega)).mp c30
                have ht : t = dgM v + 1 := by rcases hu2 with z | z <;> first | exact z.1 | exact absurd (p10pos (dgM v - t)) (by rw [← z.2]; omega)
                refine ct_vret (w := [(h, .inr (3, [.int (nI lim), .ref q1, .int (nI (sz + t))])), (q1, .inl (gB g, n1, .inl f1))]) hx hb hr hlocks hQ hAe hK (hP.sub [0, 1] rfl) (hD.sub [0, 1] (by decide) rfl) hS (by first | omega | exact Nat.zero_le _) (by first | omega | exact Nat.zero_le _) dX4_addNumber_54 ?_
                exact ⟨q1, n1, f1, rfl, by rw [ht], by omega, by assumption, by exact fun j hj => by rw [digL_len] at hj; rw [digL_get v j hj]; exact et j (by omega), by assumption⟩
              · skip
                have c30 : ¬ (u2 ≤ 0) := fun z => c30 ((nI_leI (a := u2) (b := 0) (by omega) (by omega)).mpr z)
                have hvu := Nat.div_le_self v u2
                have ht : t ≤ dgM v ∧ u2 = 10 ^ (dgM v - t) := hu2.resolve_right (fun z => by omega)
                have ee : 10 ^ (dgM v - t) = u2 := ht.2.symm
                have ht1 := ht.1
                refine lv_aload_n hx hb dX4_addNumber_33 rfl (lv_at hl 0 rfl) ?_
                refine lv_bipush (v := nI 48) hx hb dX4_addNumber_34 (by decide) ?_
                refine lv_iload_n hx hb dX4_addNumber_36 rfl (lv_at hl 1 rfl) ?_
                refine lv_iload_n hx hb dX4_addNumber_37 rfl (lv_at hl 2 rfl) ?_
                refine q_idiv (v := nI (v / u2)) hx hb dX4_addNumber_38 (by exact nI_ne0 (by omega) (by omega)) (pk_div (by omega) (by omega) (by omega)) ?_
                refine lv_bipush (v := nI 10) hx hb dX4_addNumber_39 (by decide) ?_
                refine q_irem (v := nI (v / u2 % 10)) hx hb dX4_addNumber_41 (by decide) (pk_rem (by omega) (by omega) (by omega)) ?_
                refine q_iadd (v := nI (48 + (v / u2 % 10))) hx hb dX4_addNumber_42 (nI_add 48 (v / u2 % 10)) ?_
                refine ct_callV (wr := []) hx hb hml hown hts hK hP hD hS hA hG hl.1 (c_addF l g h q1 lim n1 (sz + t) f1 (nI (48 + (v / u2 % 10))) (by omega) (by omega) (by omega) (by omega) (by assumption) (by omega)) (cwV 1 hts gX4_addNumber_X4_add rfl rfl rfl (by decide +kernel) ⟨Nat.le_of_ble_eq_true rfl, Nat.le_of_ble_eq_true rfl⟩) (va_recv hK hP (ci := 3) (q0 := 0) rfl rfl) rfl rfl (Nat.le_of_ble_eq_true rfl) dX4_addNumber_43 ⟨show 0 + 0 ≤ 0 by first | omega | exact Nat.zero_le _, show 0 + 0 ≤ 0 by first | omega | exact Nat.zero_le _⟩ [0, 1] [] rfl rfl (by decide) (by decide) (by decide) (fun r_ w_ H locs hp_ hP hD hS => ?_)
                obtain ⟨q1_43, n1_43, f1_43, rfl, rfl, en_43, ef_43, ev_43, ft_43⟩ := hp_
                have hP : va_P (gD g) vwCl [(h, .inr (3, [.int (nI lim), .ref q1_43, .int (nI ((sz + t) + 1))])), (q1_43, .inl (gB g, n1_43, .inl f1_43))] H := hP
                have hD : va_D A [(h, .inr (3, [.int (nI lim), .ref q1_43, .int (nI ((sz + t) + 1))])), (q1_43, .inl (gB g, n1_43, .inl f1_43))] := hD
                have en_43 : n1_43 = n1 := en_43
                have ef_43 : ∀ j, j < (sz + t) → f1_43 j = f1 j := ef_43
                have ev_43 : f1_43 (sz + t) = (nI (48 + (v / u2 % 10))).toInt8.toInt32 := ev_43
                have ft_43 : sb_Fit f1_43 := ft_43
                refine W.eq (g2 := F0 m 46 ls []) rfl ?_
                refine lv_iload_n hx hb dX4_addNumber_46 rfl (lv_at hl 2 rfl) ?_
                refine lv_bipush (v := nI 10) hx hb dX4_addNumber_47 (by decide) ?_
                refine q_idiv (v := nI (u2 / 10)) hx hb dX4_addNumber_49 (by decide) (pk_div (by omega) (by omega) (by omega)) ?_
                refine lv_istore_n (lv' := [(2, .int (nI (u2 / 10))), (0, .ref h), (1, .int (nI v))]) hx hb dX4_addNumber_50 rfl hl (by decide) rfl (fun ls hl => ?_)
                refine lv_goto (tgt := 29) hx hb dX4_addNumber_51 (by decide) ?_
                exact ih_K29 (t + 1) (u2 / 10) q1_43 n1_43 f1_43 (by rcases hu2 with ⟨z1, z2⟩ | ⟨z1, z2⟩ <;> first | exact absurd z2 (by omega) | (rcases Nat.lt_or_ge t (dgM v) with z | z <;> first | exact Or.inl ⟨by omega, by rw [z2]; exact p10 _ _ z⟩ | exact Or.inr ⟨by omega, by rw [z2, show dgM v - t = 0 by omega]⟩)) (by have h_ := Nat.div_le_self u2 10; omega) (by omega) (by exact fun j hj => (ef_43 j (by omega)).trans (ef j hj)) (by exact lt_s (fun j hj => (ef_43 _ (by omega)).trans (et j hj)) (ev_43.trans ((b7N _ (by omega)).trans (by rw [ee])))) (by assumption) (by omega) _ _ _ (hP.sub [0, 1] rfl) (hD.sub [0, 1] (by decide) rfl) hS (lv_sub hl [1, 2, 0] rfl)
          exact K29 ((dgM v + 1 - 0) + 1) 0 u q n f (by exact Or.inl ⟨Nat.zero_le _, by rw [Nat.sub_zero, ← em]; exact hu⟩) (by omega) (by omega) (by exact fun j _ => rfl) (by intro j h1; omega) (by assumption) (Nat.lt_succ_self _) _ _ _ (hP.sub [0, 1] rfl) (hD.sub [0, 1] (by decide) rfl) hS (lv_sub hl [0, 1, 2] rfl)
        · skip
          have c15 : ¬ (v / 10 < u) := fun z => c15 ((nI_ltI (a := v / 10) (b := u) (by omega) (by omega)).mpr z)
          refine lv_iload_n hx hb dX4_addNumber_18 rfl (lv_at hl 2 rfl) ?_
          refine lv_bipush (v := nI 10) hx hb dX4_addNumber_19 (by decide) ?_
          refine q_imul (v := nI (u * 10)) hx hb dX4_addNumber_21 (pk_mul u 10) ?_
          refine lv_istore_n (lv' := [(2, .int (nI (u * 10))), (0, .ref h), (1, .int (nI v)), (3, .int (nI i))]) hx hb dX4_addNumber_22 rfl hl (by decide) rfl (fun ls hl => ?_)
          refine lv_iinc (v := nI (i + 1)) (lv' := [(3, .int (nI (i + 1))), (2, .int (nI (u * 10))), (0, .ref h), (1, .int (nI v))]) hx hb dX4_addNumber_23 hl (k := 3) rfl (nI_inc i 1) (by decide) rfl (fun ls hl => ?_)
          refine lv_goto (tgt := 4) hx hb dX4_addNumber_26 (by decide) ?_
          exact ih_K4 (i + 1) (u * 10) (by have h_ := (dg_lt hv hi).mp (by rw [← hu]; omega); omega) (by rw [hu, Nat.pow_succ]) (by omega) (by omega) _ _ _ (hP.sub [0, 1] rfl) (hD.sub [0, 1] (by decide) rfl) hS (lv_sub hl [2, 3, 1, 0] rfl)
  exact K4 ((9 - 0) + 1) 0 1 (by omega) (by rfl) (by omega) (Nat.lt_succ_self _) _ _ _ (hP.sub [0, 1] rfl) (hD.sub [0, 1] (by decide) rfl) hS (lv_sub hl [2, 3, 1, 0] rfl)

set_option maxHeartbeats 4000000 in
set_option maxRecDepth 100000 in
theorem c_addText (l : Launch) (g : GT) (h : Nat) (q : Nat) (lim : Nat) (n : Nat) (sz : Nat) (f : Nat → Int32) (k : Nat) (hsn : sz ≤ n) (hnb : n < 2 ^ 30) (hnl : n ≤ lim) (hlb : lim < 2 ^ 27) (hfit : sb_Fit f) (h256 : 256 ≤ n) (hk : k < 84) (hkn : sz + slen k ≤ lim) : CT l g yX4_addText wsX4_addText ({ frames := 4, cells := gcN n (sz + slen k), slots := gsN lim n (sz + slen k), locals := 85 } : Room) [.ref h, .ref (gK g k)] [(h, .inr (3, [.int (nI lim), .ref q, .int (nI sz)])), (q, .inl (gB g, n, .inl f))] (fun r w => (∃ (q1 : Nat) (n1 : Nat) (f1 : Nat → Int32), r = none ∧ w = [(h, .inr (3, [.int (nI lim), .ref q1, .int (nI (sz + slen k))])), (q1, .inl (gB g, n1, .inl f1))] ∧ (n1 = cpN lim n (sz + slen k)) ∧ (∀ j, j < sz → f1 j = f j) ∧ (hasL f1 sz (sL k)) ∧ (sb_Fit f1))) (gcN n (sz + slen k)) (gsN lim n (sz + slen k)) := by
  refine ct_of (cc := cX4_addText) (maxL := 3) (ret := none) (by decide) rfl (Nat.le_of_ble_eq_true rfl) ?_
  intro p e s m args below meth c A Q hx hb hr hml hown hts hlocks hnam hAe hQ hA hG hK hP hD hS ls hl
  have hl : lv_has ls 3 [(0, .ref h), (1, .ref (gK g k))] := hl
  have hown : s.vm.findClass RX4 = some m.cls := hown
  have hsl := slen_le k hk
  refine lv_iconst (v := nI 0) hx hb dX4_addText_0 (by decide) ?_
  refine lv_istore_n (lv' := [(2, .int (nI 0)), (0, .ref h), (1, .ref (gK g k))]) hx hb dX4_addText_1 rfl hl (by decide) rfl (fun ls hl => ?_)
  have K2 : ∀ (N_ : Nat) (q1 : Nat) (n1 : Nat) (f1 : Nat → Int32) (i : Nat), (i ≤ slen k) → (n1 = cpN lim n (sz + i)) → (∀ j, j < sz → f1 j = f j) → (∀ j, j < i → f1 (sz + j) = sbyt k j) → (sb_Fit f1) → (slen k - i) < N_ → ∀ (H : Heap) (locs : List Loc) (ls : Array Slot), va_P (gD g) vwCl [(h, .inr (3, [.int (nI lim), .ref q1, .int (nI (sz + i))])), (q1, .inl (gB g, n1, .inl f1))] H → va_D A [(h, .inr (3, [.int (nI lim), .ref q1, .int (nI (sz + i))])), (q1, .inl (gB g, n1, .inl f1))] → va_S A s.heap H locs → lv_has ls 3 [(0, .ref h), (1, .ref (gK g k)), (2, .int (nI i))] → W p l e ({ frames := 4, cells := gcN n (sz + slen k), slots := gsN lim n (sz + slen k), locals := 85 } : Room) s m args below meth c H locs (gcN n (sz + i)) (gsN lim n (sz + i)) Q (F0 m 2 ls []) := by
    intro N_
    induction N_ with
    | zero => intro q1 n1 f1 i hi en ef et ft hm_; exact absurd hm_ (Nat.not_lt_zero _)
    | succ N_ ih_K2 =>
      intro q1 n1 f1 i hi en ef et ft hm_ H locs ls hP hD hS hl
      have ha1 := le_cpN lim n (sz + i)
      have hb1 := cpN_le (lim := lim) (n := n) (need := sz + i) (by omega) (by omega)
      have hc1 := n_le_cpN (lim := lim) (n := n) (need := sz + i) (by omega)
      refine lv_iload_n hx hb dX4_addText_2 rfl (lv_at hl 2 rfl) ?_
      refine lv_aload_n hx hb dX4_addText_3 rfl (lv_at hl 1 rfl) ?_
      refine ct_callV (wr := [(h, .inr (3, [.int (nI lim), .ref q1, .int (nI (sz + i))])), (q1, .inl (gB g, n1, .inl f1))]) hx hb hml hown hts hK hP hD hS hA hG hl.1 (c_slen l g k (by first | assumption | decide)) (cwV 0 hts gX4_addText_J0_length_8abf5 rfl rfl rfl (by decide +kernel) ⟨Nat.le_of_ble_eq_true rfl, Nat.le_of_ble_eq_true rfl⟩) (st_recv hG (k := k) (by assumption) hS) rfl rfl (Nat.le_of_ble_eq_true rfl) dX4_addText_4 ⟨show gcN n (sz + i) + 0 ≤ gcN n (sz + slen k) by first | omega | exact gc_le en (by omega) (by omega) (by omega) (by omega) | exact gs_le en (by omega) (by omega) (by omega) (by omega) | exact gc_mono (by omega) | exact gs_mono (by omega) (by omega) (by omega), show gsN lim n (sz + i) + 0 ≤ gsN lim n (sz + slen k) by first | omega | exact gc_le en (by omega) (by omega) (by omega) (by omega) | exact gs_le en (by omega) (by omega) (by omega) (by omega) | exact gc_mono (by omega) | exact gs_mono (by omega) (by omega) (by omega)⟩ [] [0, 1] rfl rfl (by decide) (by decide) (by decide) (fun r_ w_ H locs hp_ hP hD hS => ?_)
      obtain ⟨rfl, rfl⟩ := hp_
      have hP : va_P (gD g) vwCl [(h, .inr (3, [.int (nI lim), .ref q1, .int (nI (sz + i))])), (q1, .inl (gB g, n1, .inl f1))] H := hP
      have hD : va_D A [(h, .inr (3, [.int (nI lim), .ref q1, .int (nI (sz + i))])), (q1, .inl (gB g, n1, .inl f1))] := hD
      refine W.eq (g2 := F0 m 7 ls [.int (nI (slen k)), .int (nI i)]) rfl ?_
      refine lv_icmp_ge (tgt := 25) hx hb dX4_addText_7 (by decide) (fun c7 => ?_) (fun c7 => ?_)
      · skip
        have c7 : slen k ≤ i := (nI_leI (a := slen k) (b := i) (by omega) (by omega)).mp c7
        have ei : i = slen k := by omega
        refine ct_vret (w := [(h, .inr (3, [.int (nI lim), .ref q1, .int (nI (sz + i))])), (q1, .inl (gB g, n1, .inl f1))]) hx hb hr hlocks hQ hAe hK (hP.sub [0, 1] rfl) (hD.sub [0, 1] (by decide) rfl) hS (by first | omega | exact gc_le en (by omega) (by omega) (by omega) (by omega) | exact gs_le en (by omega) (by omega) (by omega) (by omega) | exact gc_mono (by omega) | exact gs_mono (by omega) (by omega) (by omega)) (by first | omega | exact gc_le en (by omega) (by omega) (by omega) (by omega) | exact gs_le en (by omega) (by omega) (by omega) (by omega) | exact gc_mono (by omega) | exact gs_mono (by omega) (by omega) (by omega)) dX4_addText_25 ?_
        exact ⟨q1, n1, f1, rfl, by rw [ei], by rw [← ei]; assumption, by assumption, by exact fun j hj => et j (by have hj2 : j < slen k := hj; omega), by assumption⟩
      · skip
        have c7 : ¬ (slen k ≤ i) := fun z => c7 ((nI_leI (a := slen k) (b := i) (by omega) (by omega)).mpr z)
        refine lv_aload_n hx hb dX4_addText_10 rfl (lv_at hl 0 rfl) ?_
        refine lv_aload_n hx hb dX4_addText_11 rfl (lv_at hl 1 rfl) ?_
        refine lv_iload_n hx hb dX4_addText_12 rfl (lv_at hl 2 rfl) ?_
        refine ct_callV (wr := [(h, .inr (3, [.int (nI lim), .ref q1, .int (nI (sz + i))])), (q1, .inl (gB g, n1, .inl f1))]) hx hb hml hown hts hK hP hD hS hA hG hl.1 (c_charAt l g k i (by first | assumption | decide) (by omega)) (cwV 1 hts gX4_addText_J0_charAt_5068e rfl rfl rfl (by decide +kernel) ⟨Nat.le_of_ble_eq_true rfl, Nat.le_of_ble_eq_true rfl⟩) (st_recv hG (k := k) (by assumption) hS) rfl rfl (Nat.le_of_ble_eq_true rfl) dX4_addText_13 ⟨show gcN n (sz + i) + 0 ≤ gcN n (sz + slen k) by first | omega | exact gc_le en (by omega) (by omega) (by omega) (by omega) | exact gs_le en (by omega) (by omega) (by omega) (by omega) | exact gc_mono (by omega) | exact gs_mono (by omega) (by omega) (by omega), show gsN lim n (sz + i) + 0 ≤ gsN lim n (sz + slen k) by first | omega | exact gc_le en (by omega) (by omega) (by omega) (by omega) | exact gs_le en (by omega) (by omega) (by omega) (by omega) | exact gc_mono (by omega) | exact gs_mono (by omega) (by omega) (by omega)⟩ [] [0, 1] rfl rfl (by decide) (by decide) (by decide) (fun r_ w_ H locs hp_ hP hD hS => ?_)
        obtain ⟨rfl, rfl⟩ := hp_
        have hP : va_P (gD g) vwCl [(h, .inr (3, [.int (nI lim), .ref q1, .int (nI (sz + i))])), (q1, .inl (gB g, n1, .inl f1))] H := hP
        have hD : va_D A [(h, .inr (3, [.int (nI lim), .ref q1, .int (nI (sz + i))])), (q1, .inl (gB g, n1, .inl f1))] := hD
        refine W.eq (g2 := F0 m 16 ls [.int (sbyt k i &&& 255), .ref h]) rfl ?_
        refine ct_callV (wr := []) hx hb hml hown hts hK hP hD hS hA hG hl.1 (c_add l g h q1 lim n1 (sz + i) f1 (sbyt k i &&& 255) (by omega) (by omega) (by omega) (by omega) (by assumption) (by omega)) (cwV 1 hts gX4_addText_X4_add rfl rfl rfl (by decide +kernel) ⟨Nat.le_of_ble_eq_true rfl, Nat.le_of_ble_eq_true rfl⟩) (va_recv hK hP (ci := 3) (q0 := 0) rfl rfl) rfl rfl (Nat.le_of_ble_eq_true rfl) dX4_addText_16 ⟨show gcN n (sz + i) + (gcN n1 ((sz + i) + 1)) ≤ gcN n (sz + slen k) by first | omega | exact gc_le en (by omega) (by omega) (by omega) (by omega) | exact gs_le en (by omega) (by omega) (by omega) (by omega) | exact gc_mono (by omega) | exact gs_mono (by omega) (by omega) (by omega), show gsN lim n (sz + i) + (gsN lim n1 ((sz + i) + 1)) ≤ gsN lim n (sz + slen k) by first | omega | exact gc_le en (by omega) (by omega) (by omega) (by omega) | exact gs_le en (by omega) (by omega) (by omega) (by omega) | exact gc_mono (by omega) | exact gs_mono (by omega) (by omega) (by omega)⟩ [0, 1] [] rfl rfl (by decide) (by decide) (by decide) (fun r_ w_ H locs hp_ hP hD hS => ?_)
        obtain ⟨q1_16, n1_16, f1_16, rfl, rfl, en_16, ef_16, ev_16, ft_16⟩ := hp_
        have hP : va_P (gD g) vwCl [(h, .inr (3, [.int (nI lim), .ref q1_16, .int (nI ((sz + i) + 1))])), (q1_16, .inl (gB g, n1_16, .inl f1_16))] H := hP
        have hD : va_D A [(h, .inr (3, [.int (nI lim), .ref q1_16, .int (nI ((sz + i) + 1))])), (q1_16, .inl (gB g, n1_16, .inl f1_16))] := hD
        have en_16 : n1_16 = cpN lim n1 ((sz + i) + 1) := en_16
        have ef_16 : ∀ j, j < (sz + i) → f1_16 j = f1 j := ef_16
        have ev_16 : f1_16 (sz + i) = (sbyt k i &&& 255).toInt8.toInt32 := ev_16
        have ft_16 : sb_Fit f1_16 := ft_16
        refine W.widen (k := gcN n (sz + i) + (gcN n1 ((sz + i) + 1))) (n := gsN lim n (sz + i) + (gsN lim n1 ((sz + i) + 1))) (by omega) (by omega) ?_
        refine W.eq (g2 := F0 m 19 ls []) rfl ?_
        refine lv_iinc (v := nI (i + 1)) (lv' := [(2, .int (nI (i + 1))), (0, .ref h), (1, .ref (gK g k))]) hx hb dX4_addText_19 hl (k := 2) rfl (nI_inc i 1) (by decide) rfl (fun ls hl => ?_)
        refine lv_goto (tgt := 2) hx hb dX4_addText_22 (by decide) ?_
        refine W.widen (k := gcN n (sz + (i + 1))) (n := gsN lim n (sz + (i + 1))) (by first | omega | (rw [en]; exact Nat.le_of_eq (gcN_add (by omega) (by omega) (by omega))) | (rw [en]; exact Nat.le_of_eq (gsN_add (by omega) (by omega) (by omega)))) (by first | omega | (rw [en]; exact Nat.le_of_eq (gcN_add (by omega) (by omega) (by omega))) | (rw [en]; exact Nat.le_of_eq (gsN_add (by omega) (by omega) (by omega)))) ?_
        exact ih_K2 q1_16 n1_16 f1_16 (i + 1) (by omega) (by rw [en_16, en]; exact cpN_cpN (by omega) (by omega) (by omega)) (by exact fun j hj => (ef_16 j (by omega)).trans (ef j hj)) (by exact lt_s (fun j hj => (ef_16 _ (by omega)).trans (et j hj)) (ev_16.trans (sb7 k hk i (by omega)).2.1)) (by assumption) (by omega) _ _ _ (hP.sub [0, 1] rfl) (hD.sub [0, 1] (by decide) rfl) hS (lv_sub hl [1, 2, 0] rfl)
  refine W.widen (k := gcN n (sz + 0)) (n := gsN lim n (sz + 0)) (by first | omega | (rw [en]; exact Nat.le_of_eq (gcN_add (by omega) (by omega) (by omega))) | (rw [en]; exact Nat.le_of_eq (gsN_add (by omega) (by omega) (by omega)))) (by first | omega | (rw [en]; exact Nat.le_of_eq (gcN_add (by omega) (by omega) (by omega))) | (rw [en]; exact Nat.le_of_eq (gsN_add (by omega) (by omega) (by omega)))) ?_
  exact K2 ((slen k - 0) + 1) q n f 0 (by omega) (by first | exact (cpN_0 (by omega)).symm) (by exact fun j _ => rfl) (by intro j h1; omega) (by assumption) (Nat.lt_succ_self _) _ _ _ (hP.sub [0, 1] rfl) (hD.sub [0, 1] (by decide) rfl) hS (lv_sub hl [1, 2, 0] rfl)
