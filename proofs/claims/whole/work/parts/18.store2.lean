def u8 (x : Int32) : Nat := x.toBitVec.toNat % 2 ^ 8
theorem u8_lt (x : Int32) : u8 x < 256 := Nat.mod_lt _ (by decide)
theorem u8_eq (x : Int32) : x &&& 255 = nI (u8 x) := pk_and x 8 (by decide)
def cntF (f : Nat → Int32) : Nat := u8 (f 4) * 256 + u8 (f 5)
theorem nI_or {m b k : Nat} (hb : b < 2 ^ k) (h : m * 2 ^ k + b < 2 ^ 32) : nI (m * 2 ^ k) ||| nI b = nI (m * 2 ^ k + b) := by
  apply Int32.toBitVec_inj.mp
  apply BitVec.eq_of_toNat_eq
  show ((nI (m * 2 ^ k)).toBitVec ||| (nI b).toBitVec).toNat = _
  rw [BitVec.toNat_or, pk_tn (by omega), pk_tn (by omega), pk_tn h, ← Nat.shiftLeft_eq, ← Nat.shiftLeft_add_eq_or_of_lt hb]
theorem cnt_eq (f : Nat → Int32) : ((f 4 &&& 255) <<< (nI 8 &&& 31)) ||| (f 5 &&& 255) = nI (cntF f) := by
  have h4 := u8_lt (f 4)
  have h5 := u8_lt (f 5)
  rw [u8_eq, u8_eq, pk_shlN (nI 8 &&& 31) 8 (by decide) (by omega)]
  exact nI_or (k := 8) h5 (by omega)
theorem cnt_lt (f : Nat → Int32) : cntF f < 65536 := by
  have h4 := u8_lt (f 4)
  have h5 := u8_lt (f 5)
  unfold cntF
  omega
theorem or_m1 (x : Int32) : x ||| -1 = -1 := by
  apply Int32.toBitVec_inj.mp
  show x.toBitVec ||| (-1 : Int32).toBitVec = (-1 : Int32).toBitVec
  rw [show (-1 : Int32).toBitVec = BitVec.allOnes 32 by decide]
  exact BitVec.or_allOnes
def pNamed (fe : Nat → Int32) (t : Nat) (fn : Nat → Int32) (sn : Nat) : Prop := ∀ j, j < 48 → fe (t * 64 + j) &&& 255 = if j < sn then fn j &&& 255 else nI 0

set_option maxHeartbeats 4000000 in
set_option maxRecDepth 100000 in
theorem c_getOut (l : Launch) (g : GT) (h : Nat) (q : Nat) (lim : Nat) (n : Nat) (sz : Nat) (f : Nat → Int32) (i : Nat) (hsn : sz ≤ n) (hnb : n < 2 ^ 30) (hi : sz ≤ i) (hi2 : i < 2 ^ 30) : CT l g yX4_get wsX4_get ({ frames := 0, cells := 0, slots := 0, locals := 0 } : Room) [.ref h, .int (nI i)] [(h, .inr (3, [.int (nI lim), .ref q, .int (nI sz)])), (q, .inl (gB g, n, .inl f))] (fun r w => (r = some (.int (-1)) ∧ w = [(h, .inr (3, [.int (nI lim), .ref q, .int (nI sz)])), (q, .inl (gB g, n, .inl f))])) (0) (0) := by
  refine ct_of (cc := cX4_get) (maxL := 2) (ret := (some .int)) (by decide) rfl (Nat.le_of_ble_eq_true rfl) ?_
  intro p e s m args below meth c A Q hx hb hr hml hown hts hlocks hnam hAe hQ hA hG hK hP hD hS ls hl
  have hl : lv_has ls 2 [(0, .ref h), (1, .int (nI i))] := hl
  have hown : s.vm.findClass RX4 = some m.cls := hown
  have hinX4 : ∀ w ∈ u_ws RX4 TX4 3, w ∈ wsX4_get := by decide +kernel
  have hf19 := hts (.fieldLink RX4 19 "RequestReader$Row" "size" "I") (by decide +kernel)
  refine lv_iload_n hx hb dX4_get_0 rfl (lv_at hl 1 rfl) ?_
  refine lv_if_lt (tgt := 25) hx hb dX4_get_1 (by decide) (fun c1 => ?_) (fun c1 => ?_)
  · skip
    have c1 : i < 0 := (nI_ltI (a := i) (b := 0) (by omega) (by omega)).mp c1
    exact absurd c1 (by omega)
  · skip
    have c1 : ¬ (i < 0) := fun z => c1 ((nI_ltI (a := i) (b := 0) (by omega) (by omega)).mpr z)
    refine lv_iload_n hx hb dX4_get_4 rfl (lv_at hl 1 rfl) ?_
    refine lv_aload_n hx hb dX4_get_5 rfl (lv_at hl 0 rfl) ?_
    refine va_get (D := gD g) (ci := 3) (v := .int (nI sz)) (C := RX4) (T := TX4) (N := 3) hx hb hts hinX4 hown hK hP 0 rfl rfl 2 (by decide) hf19 (fun _ h9 => h9) rfl dX4_get_6 ?_
    refine lv_icmp_ge (tgt := 25) hx hb dX4_get_9 (by decide) (fun c9 => ?_) (fun c9 => ?_)
    · skip
      have c9 : sz ≤ i := (nI_leI (a := sz) (b := i) (by omega) (by omega)).mp c9
      refine lv_iconst (v := (-1)) hx hb dX4_get_25 (by decide) ?_
      refine ct_iret (w := [(h, .inr (3, [.int (nI lim), .ref q, .int (nI sz)])), (q, .inl (gB g, n, .inl f))]) hx hb hr rfl hlocks hQ hAe hK (hP.sub [0, 1] rfl) (hD.sub [0, 1] (by decide) rfl) hS (by omega) (by omega) dX4_get_26 ?_
      exact ⟨rfl, rfl⟩
    · skip
      have c9 : ¬ (sz ≤ i) := fun z => c9 ((nI_leI (a := sz) (b := i) (by omega) (by omega)).mpr z)
      exact absurd hi c9

set_option maxHeartbeats 4000000 in
set_option maxRecDepth 100000 in
theorem c_cut0 (l : Launch) (g : GT) (h : Nat) (q : Nat) (lim : Nat) (n : Nat) (sz : Nat) (f : Nat → Int32) (hsn : sz ≤ n) (hnb : n < 2 ^ 30) : CT l g yX4_cutTo wsX4_cutTo ({ frames := 0, cells := 0, slots := 0, locals := 0 } : Room) [.ref h, .int (nI 0)] [(h, .inr (3, [.int (nI lim), .ref q, .int (nI sz)])), (q, .inl (gB g, n, .inl f))] (fun r w => (r = none ∧ w = [(h, .inr (3, [.int (nI lim), .ref q, .int (nI 0)])), (q, .inl (gB g, n, .inl f))])) (0) (0) := by
  refine ct_of (cc := cX4_cutTo) (maxL := 2) (ret := none) (by decide) rfl (Nat.le_of_ble_eq_true rfl) ?_
  intro p e s m args below meth c A Q hx hb hr hml hown hts hlocks hnam hAe hQ hA hG hK hP hD hS ls hl
  have hl : lv_has ls 2 [(0, .ref h), (1, .int (nI 0))] := hl
  have hown : s.vm.findClass RX4 = some m.cls := hown
  have hinX4 : ∀ w ∈ u_ws RX4 TX4 3, w ∈ wsX4_cutTo := by decide +kernel
  have hf19 := hts (.fieldLink RX4 19 "RequestReader$Row" "size" "I") (by decide +kernel)
  refine lv_iload_n hx hb dX4_cutTo_0 rfl (lv_at hl 1 rfl) ?_
  refine lv_if_lt (tgt := 17) hx hb dX4_cutTo_1 (by decide) (fun c1 => absurd c1 (by decide)) (fun _ => ?_)
  refine lv_iload_n hx hb dX4_cutTo_4 rfl (lv_at hl 1 rfl) ?_
  refine lv_aload_n hx hb dX4_cutTo_5 rfl (lv_at hl 0 rfl) ?_
  refine va_get (D := gD g) (ci := 3) (v := .int (nI sz)) (C := RX4) (T := TX4) (N := 3) hx hb hts hinX4 hown hK hP 0 rfl rfl 2 (by decide) hf19 (fun _ h9 => h9) rfl dX4_cutTo_6 ?_
  refine lv_icmp_ge (tgt := 17) hx hb dX4_cutTo_9 (by decide) (fun c9 => ?_) (fun c9 => ?_)
  · skip
    have c9 : sz ≤ 0 := (nI_leI (a := sz) (b := 0) (by omega) (by omega)).mp c9
    refine ct_vret (w := [(h, .inr (3, [.int (nI lim), .ref q, .int (nI sz)])), (q, .inl (gB g, n, .inl f))]) hx hb hr hlocks hQ hAe hK (hP.sub [0, 1] rfl) (hD.sub [0, 1] (by decide) rfl) hS (by omega) (by omega) dX4_cutTo_17 ?_
    exact ⟨rfl, (by first | rfl | rw [show sz = 0 by omega])⟩
  · skip
    have c9 : ¬ (sz ≤ 0) := fun z => c9 ((nI_leI (a := sz) (b := 0) (by omega) (by omega)).mpr z)
    refine lv_aload_n hx hb dX4_cutTo_12 rfl (lv_at hl 0 rfl) ?_
    refine lv_iload_n hx hb dX4_cutTo_13 rfl (lv_at hl 1 rfl) ?_
    refine va_put (D := gD g) (ci := 3) (v := .int (nI 0)) (ty := .int) (C := RX4) (T := TX4) (N := 3) hx hb hts hinX4 tyX4 tyX4_ok nmX4 hown hK hP hD hS 0 rfl rfl 2 (by decide) hf19 (fun _ h9 => h9) rfl (by decide +kernel) rfl rfl (Nat.le_of_ble_eq_true rfl) dX4_cutTo_14 (fun H locs hP hD hS => ?_)
    have hP : va_P (gD g) vwCl [(h, .inr (3, [.int (nI lim), .ref q, .int (nI 0)])), (q, .inl (gB g, n, .inl f))] H := hP
    have hD : va_D A [(h, .inr (3, [.int (nI lim), .ref q, .int (nI 0)])), (q, .inl (gB g, n, .inl f))] := hD
    refine ct_vret (w := [(h, .inr (3, [.int (nI lim), .ref q, .int (nI 0)])), (q, .inl (gB g, n, .inl f))]) hx hb hr hlocks hQ hAe hK (hP.sub [0, 1] rfl) (hD.sub [0, 1] (by decide) rfl) hS (by omega) (by omega) dX4_cutTo_17 ?_
    exact ⟨rfl, (by first | rfl | rw [show sz = 0 by omega])⟩

set_option maxHeartbeats 4000000 in
set_option maxRecDepth 100000 in
theorem c_isRightN (l : Launch) (g : GT) (ho : Nat) (hi : Nat) (he : Nat) (op : Nat) (qi : Nat) (ni : Nat) (si : Nat) (fi : Nat → Int32) (hi1 : si ≤ ni) (hi2 : ni ≤ 65535) : CT l g yX6_isRight wsX6_isRight ({ frames := 0, cells := 0, slots := 0, locals := 0 } : Room) [.ref ho, .int (-1)] [(ho, .inr (4, [.ref hi, .ref he, .int (nI op)])), (hi, .inr (3, [.int (nI 65535), .ref qi, .int (nI si)])), (qi, .inl (gB g, ni, .inl fi))] (fun r w => (r = some (.int (nI 0)) ∧ w = [(ho, .inr (4, [.ref hi, .ref he, .int (nI op)])), (hi, .inr (3, [.int (nI 65535), .ref qi, .int (nI si)])), (qi, .inl (gB g, ni, .inl fi))])) (0) (0) := by
  refine ct_of (cc := cX6_isRight) (maxL := 5) (ret := (some .boolean)) (by decide) rfl (Nat.le_of_ble_eq_true rfl) ?_
  intro p e s m args below meth c A Q hx hb hr hml hown hts hlocks hnam hAe hQ hA hG hK hP hD hS ls hl
  have hl : lv_has ls 5 [(0, .ref ho), (1, .int (-1))] := hl
  have hown : s.vm.findClass RX6 = some m.cls := hown
  refine lv_iload_n hx hb dX6_isRight_0 rfl (lv_at hl 1 rfl) ?_
  refine lv_if_lt (tgt := 10) hx hb dX6_isRight_1 (by decide) (fun _ => ?_) (fun c1 => absurd (by decide) c1)
  refine lv_iconst (v := nI 0) hx hb dX6_isRight_10 (by decide) ?_
  refine ct_iret (w := [(ho, .inr (4, [.ref hi, .ref he, .int (nI op)])), (hi, .inr (3, [.int (nI 65535), .ref qi, .int (nI si)])), (qi, .inl (gB g, ni, .inl fi))]) hx hb hr rfl hlocks hQ hAe hK (hP.sub [0, 1, 2] rfl) (hD.sub [0, 1, 2] (by decide) rfl) hS (by omega) (by omega) dX6_isRight_11 ?_
  exact ⟨rfl, rfl⟩

set_option maxHeartbeats 4000000 in
set_option maxRecDepth 100000 in
theorem c_isRight (l : Launch) (g : GT) (ho : Nat) (hi : Nat) (he : Nat) (op : Nat) (qi : Nat) (ni : Nat) (si : Nat) (fi : Nat → Int32) (c0 : Nat) (hi1 : si ≤ ni) (hi2 : ni ≤ 65535) (hc : c0 < 65536) : CT l g yX6_isRight wsX6_isRight ({ frames := 5, cells := 0, slots := 0, locals := 110 } : Room) [.ref ho, .int (nI c0)] [(ho, .inr (4, [.ref hi, .ref he, .int (nI op)])), (hi, .inr (3, [.int (nI 65535), .ref qi, .int (nI si)])), (qi, .inl (gB g, ni, .inl fi))] (fun r w => (r = some (.int (nI 1)) ∧ w = [(ho, .inr (4, [.ref hi, .ref he, .int (nI op)])), (hi, .inr (3, [.int (nI 65535), .ref qi, .int (nI si)])), (qi, .inl (gB g, ni, .inl fi))] ∧ (pRight fi si c0)) ∨ (r = some (.int (nI 0)) ∧ w = [(ho, .inr (4, [.ref hi, .ref he, .int (nI op)])), (hi, .inr (3, [.int (nI 65535), .ref qi, .int (nI si)])), (qi, .inl (gB g, ni, .inl fi))] ∧ (¬ (pRight fi si c0)))) (0) (0) := by
  refine ct_of (cc := cX6_isRight) (maxL := 5) (ret := (some .boolean)) (by decide) rfl (Nat.le_of_ble_eq_true rfl) ?_
  intro p e s m args below meth c A Q hx hb hr hml hown hts hlocks hnam hAe hQ hA hG hK hP hD hS ls hl
  have hl : lv_has ls 5 [(0, .ref ho), (1, .int (nI c0))] := hl
  have hown : s.vm.findClass RX6 = some m.cls := hown
  have hinX6 : ∀ w ∈ u_ws RX6 TX6 3, w ∈ wsX6_isRight := by decide +kernel
  have hf15 := hts (.fieldLink RX6 15 "RequestReader$Store" "image" "LRequestReader$Row;") (by decide +kernel)
  have hs1 : slen 1 = 4 := by decide
  refine lv_iload_n hx hb dX6_isRight_0 rfl (lv_at hl 1 rfl) ?_
  refine lv_if_lt (tgt := 10) hx hb dX6_isRight_1 (by decide) (fun c1 => ?_) (fun c1 => ?_)
  · skip
    have c1 : c0 < 0 := (nI_ltI (a := c0) (b := 0) (by omega) (by omega)).mp c1
    exact absurd c1 (by omega)
  · skip
    have c1 : ¬ (c0 < 0) := fun z => c1 ((nI_ltI (a := c0) (b := 0) (by omega) (by omega)).mpr z)
    refine lv_iload_n hx hb dX6_isRight_4 rfl (lv_at hl 1 rfl) ?_
    refine lv_bipush (v := nI 64) hx hb dX6_isRight_5 (by decide) ?_
    refine lv_icmp_le (tgt := 12) hx hb dX6_isRight_7 (by decide) (fun c7 => ?_) (fun c7 => ?_)
    · skip
      have c7 : c0 ≤ 64 := (nI_leI (a := c0) (b := 64) (by omega) (by omega)).mp c7
      refine lv_bipush (v := nI 8) hx hb dX6_isRight_12 (by decide) ?_
      refine lv_iload_n hx hb dX6_isRight_14 rfl (lv_at hl 1 rfl) ?_
      refine lv_bipush (v := nI 64) hx hb dX6_isRight_15 (by decide) ?_
      refine q_imul (v := nI (c0 * 64)) hx hb dX6_isRight_17 (pk_mul c0 64) ?_
      refine q_iadd (v := nI (8 + (c0 * 64))) hx hb dX6_isRight_18 (nI_add 8 (c0 * 64)) ?_
      refine lv_istore_n (lv' := [(2, .int (nI (8 + (c0 * 64)))), (0, .ref ho), (1, .int (nI c0))]) hx hb dX6_isRight_19 rfl hl (by decide) rfl (fun ls hl => ?_)
      refine lv_aload_n hx hb dX6_isRight_20 rfl (lv_at hl 1 rfl) ?_
      refine va_get (D := gD g) (ci := 4) (v := .ref hi) (C := RX6) (T := TX6) (N := 3) hx hb hts hinX6 hown hK hP 0 rfl rfl 0 (by decide) hf15 (fun _ h9 => h9) rfl dX6_isRight_21 ?_
      refine ct_callV (wr := [(ho, .inr (4, [.ref hi, .ref he, .int (nI op)]))]) hx hb hml hown hts hK hP hD hS hA hG hl.1 (c_count l g hi qi 65535 ni si fi ) (cwV 0 hts gX6_isRight_X4_count rfl rfl rfl (by decide +kernel) ⟨Nat.le_of_ble_eq_true rfl, Nat.le_of_ble_eq_true rfl⟩) (va_recv hK hP (ci := 3) (q0 := 1) rfl rfl) rfl rfl (Nat.le_of_ble_eq_true rfl) dX6_isRight_24 ⟨show 0 + 0 ≤ 0 by omega, show 0 + 0 ≤ 0 by omega⟩ [1, 2] [0] rfl rfl (by decide) (by decide) (by decide) (fun r_ w_ H locs hp_ hP hD hS => ?_)
      obtain ⟨rfl, rfl⟩ := hp_
      have hP : va_P (gD g) vwCl [(ho, .inr (4, [.ref hi, .ref he, .int (nI op)])), (hi, .inr (3, [.int (nI 65535), .ref qi, .int (nI si)])), (qi, .inl (gB g, ni, .inl fi))] H := hP
      have hD : va_D A [(ho, .inr (4, [.ref hi, .ref he, .int (nI op)])), (hi, .inr (3, [.int (nI 65535), .ref qi, .int (nI si)])), (qi, .inl (gB g, ni, .inl fi))] := hD
      refine W.eq (g2 := F0 m 27 ls [.int (nI si)]) rfl ?_
      refine lv_iload_n hx hb dX6_isRight_27 rfl (lv_at hl 0 rfl) ?_
      refine lv_iconst (v := nI 4) hx hb dX6_isRight_28 (by decide) ?_
      refine q_iadd (v := nI (8 + (c0 * 64) + 4)) hx hb dX6_isRight_29 (nI_add (8 + (c0 * 64)) 4) ?_
      refine lv_icmp_lt (tgt := 91) hx hb dX6_isRight_30 (by decide) (fun c30 => ?_) (fun c30 => ?_)
      · skip
        have c30 : si < 8 + (c0 * 64) + 4 := (nI_ltI (a := si) (b := 8 + (c0 * 64) + 4) (by omega) (by omega)).mp c30
        refine lv_iconst (v := nI 0) hx hb dX6_isRight_91 (by decide) ?_
        refine ct_iret (w := [(ho, .inr (4, [.ref hi, .ref he, .int (nI op)])), (hi, .inr (3, [.int (nI 65535), .ref qi, .int (nI si)])), (qi, .inl (gB g, ni, .inl fi))]) hx hb hr rfl hlocks hQ hAe hK (hP.sub [0, 1, 2] rfl) (hD.sub [0, 1, 2] (by decide) rfl) hS (by omega) (by omega) dX6_isRight_92 ?_
        refine Or.inr ((?_))
        exact ⟨rfl, rfl, by first | exact fun z => absurd z.1 (by omega) | exact fun z => absurd z.2.1 (by omega) | exact fun z => hF_41 z.2.2.1 | exact fun z => c56 z.2.2.2.1 | exact fun z => c68 z.2.2.2.2.1 | exact fun z => c88 z.2.2.2.2.2.1 | exact fun z => hF_117 (z.2.2.2.2.2.2 i (by omega)).1 | exact fun z => hF_126 (z.2.2.2.2.2.2 i (by omega)).2⟩
      · skip
        have c30 : ¬ (si < 8 + (c0 * 64) + 4) := fun z => c30 ((nI_ltI (a := si) (b := 8 + (c0 * 64) + 4) (by omega) (by omega)).mpr z)
        refine lv_aload_n hx hb dX6_isRight_33 rfl (lv_at hl 1 rfl) ?_
        refine va_get (D := gD g) (ci := 4) (v := .ref hi) (C := RX6) (T := TX6) (N := 3) hx hb hts hinX6 hown hK hP 0 rfl rfl 0 (by decide) hf15 (fun _ h9 => h9) rfl dX6_isRight_34 ?_
        refine lv_iconst (v := nI 0) hx hb dX6_isRight_37 (by decide) ?_
        refine lv_iconst (v := nI 4) hx hb dX6_isRight_38 (by decide) ?_
        refine va_ldcS hx hb hown ((hG.1 1 (by decide)).2.2.2.2) dX6_isRight_39 ?_
        refine ct_callV (wr := [(ho, .inr (4, [.ref hi, .ref he, .int (nI op)]))]) hx hb hml hown hts hK hP hD hS hA hG hl.1 (c_hasText l g hi qi 65535 ni si fi 0 4 1 (by omega) (by omega) (by omega) (by omega) (by omega) (by first | assumption | decide)) (cwV 3 hts gX6_isRight_X4_hasText rfl rfl rfl (by decide +kernel) ⟨Nat.le_of_ble_eq_true rfl, Nat.le_of_ble_eq_true rfl⟩) (va_recv hK hP (ci := 3) (q0 := 1) rfl rfl) rfl rfl (Nat.le_of_ble_eq_true rfl) dX6_isRight_41 ⟨show 0 + 0 ≤ 0 by omega, show 0 + 0 ≤ 0 by omega⟩ [1, 2] [0] rfl rfl (by decide) (by decide) (by decide) (fun r_ w_ H locs hp_ hP hD hS => ?_)
        rcases hp_ with ⟨rfl, rfl, hT_41⟩ | ⟨rfl, rfl, hF_41⟩
        · skip
          have hP : va_P (gD g) vwCl [(ho, .inr (4, [.ref hi, .ref he, .int (nI op)])), (hi, .inr (3, [.int (nI 65535), .ref qi, .int (nI si)])), (qi, .inl (gB g, ni, .inl fi))] H := hP
          have hD : va_D A [(ho, .inr (4, [.ref hi, .ref he, .int (nI op)])), (hi, .inr (3, [.int (nI 65535), .ref qi, .int (nI si)])), (qi, .inl (gB g, ni, .inl fi))] := hD
          have hT_41 : pText fi 0 4 1 := hT_41
          refine W.eq (g2 := F0 m 44 ls [.int (nI 1)]) rfl ?_
          refine lv_if_eq (tgt := 91) hx hb dX6_isRight_44 (by decide) (fun c44 => absurd c44 (by decide)) (fun _ => ?_)
          refine lv_aload_n hx hb dX6_isRight_47 rfl (lv_at hl 1 rfl) ?_
          refine va_get (D := gD g) (ci := 4) (v := .ref hi) (C := RX6) (T := TX6) (N := 3) hx hb hts hinX6 hown hK hP 0 rfl rfl 0 (by decide) hf15 (fun _ h9 => h9) rfl dX6_isRight_48 ?_
          refine lv_bipush (v := nI 6) hx hb dX6_isRight_51 (by decide) ?_
          refine ct_callV (wr := [(ho, .inr (4, [.ref hi, .ref he, .int (nI op)]))]) hx hb hml hown hts hK hP hD hS hA hG hl.1 (c_getIn l g hi qi 65535 ni si fi 6 (by omega) (by omega) (by omega)) (cwV 1 hts gX6_isRight_X4_get rfl rfl rfl (by decide +kernel) ⟨Nat.le_of_ble_eq_true rfl, Nat.le_of_ble_eq_true rfl⟩) (va_recv hK hP (ci := 3) (q0 := 1) rfl rfl) rfl rfl (Nat.le_of_ble_eq_true rfl) dX6_isRight_53 ⟨show 0 + 0 ≤ 0 by omega, show 0 + 0 ≤ 0 by omega⟩ [1, 2] [0] rfl rfl (by decide) (by decide) (by decide) (fun r_ w_ H locs hp_ hP hD hS => ?_)
          obtain ⟨rfl, rfl⟩ := hp_
          have hP : va_P (gD g) vwCl [(ho, .inr (4, [.ref hi, .ref he, .int (nI op)])), (hi, .inr (3, [.int (nI 65535), .ref qi, .int (nI si)])), (qi, .inl (gB g, ni, .inl fi))] H := hP
          have hD : va_D A [(ho, .inr (4, [.ref hi, .ref he, .int (nI op)])), (hi, .inr (3, [.int (nI 65535), .ref qi, .int (nI si)])), (qi, .inl (gB g, ni, .inl fi))] := hD
          refine W.eq (g2 := F0 m 56 ls [.int (fi 6 &&& 255)]) rfl ?_
          refine lv_if_ne (tgt := 91) hx hb dX6_isRight_56 (by decide) (fun c56 => ?_) (fun c56 => ?_)
          · skip
            refine lv_iconst (v := nI 0) hx hb dX6_isRight_91 (by decide) ?_
            refine ct_iret (w := [(ho, .inr (4, [.ref hi, .ref he, .int (nI op)])), (hi, .inr (3, [.int (nI 65535), .ref qi, .int (nI si)])), (qi, .inl (gB g, ni, .inl fi))]) hx hb hr rfl hlocks hQ hAe hK (hP.sub [0, 1, 2] rfl) (hD.sub [0, 1, 2] (by decide) rfl) hS (by omega) (by omega) dX6_isRight_92 ?_
            refine Or.inr ((?_))
            exact ⟨rfl, rfl, by first | exact fun z => absurd z.1 (by omega) | exact fun z => absurd z.2.1 (by omega) | exact fun z => hF_41 z.2.2.1 | exact fun z => c56 z.2.2.2.1 | exact fun z => c68 z.2.2.2.2.1 | exact fun z => c88 z.2.2.2.2.2.1 | exact fun z => hF_117 (z.2.2.2.2.2.2 i (by omega)).1 | exact fun z => hF_126 (z.2.2.2.2.2.2 i (by omega)).2⟩
          · skip
            refine lv_aload_n hx hb dX6_isRight_59 rfl (lv_at hl 1 rfl) ?_
            refine va_get (D := gD g) (ci := 4) (v := .ref hi) (C := RX6) (T := TX6) (N := 3) hx hb hts hinX6 hown hK hP 0 rfl rfl 0 (by decide) hf15 (fun _ h9 => h9) rfl dX6_isRight_60 ?_
            refine lv_bipush (v := nI 7) hx hb dX6_isRight_63 (by decide) ?_
            refine ct_callV (wr := [(ho, .inr (4, [.ref hi, .ref he, .int (nI op)]))]) hx hb hml hown hts hK hP hD hS hA hG hl.1 (c_getIn l g hi qi 65535 ni si fi 7 (by omega) (by omega) (by omega)) (cwV 1 hts gX6_isRight_X4_get rfl rfl rfl (by decide +kernel) ⟨Nat.le_of_ble_eq_true rfl, Nat.le_of_ble_eq_true rfl⟩) (va_recv hK hP (ci := 3) (q0 := 1) rfl rfl) rfl rfl (Nat.le_of_ble_eq_true rfl) dX6_isRight_65 ⟨show 0 + 0 ≤ 0 by omega, show 0 + 0 ≤ 0 by omega⟩ [1, 2] [0] rfl rfl (by decide) (by decide) (by decide) (fun r_ w_ H locs hp_ hP hD hS => ?_)
            obtain ⟨rfl, rfl⟩ := hp_
            have hP : va_P (gD g) vwCl [(ho, .inr (4, [.ref hi, .ref he, .int (nI op)])), (hi, .inr (3, [.int (nI 65535), .ref qi, .int (nI si)])), (qi, .inl (gB g, ni, .inl fi))] H := hP
            have hD : va_D A [(ho, .inr (4, [.ref hi, .ref he, .int (nI op)])), (hi, .inr (3, [.int (nI 65535), .ref qi, .int (nI si)])), (qi, .inl (gB g, ni, .inl fi))] := hD
            refine W.eq (g2 := F0 m 68 ls [.int (fi 7 &&& 255)]) rfl ?_
            refine lv_if_ne (tgt := 91) hx hb dX6_isRight_68 (by decide) (fun c68 => ?_) (fun c68 => ?_)
            · skip
              refine lv_iconst (v := nI 0) hx hb dX6_isRight_91 (by decide) ?_
              refine ct_iret (w := [(ho, .inr (4, [.ref hi, .ref he, .int (nI op)])), (hi, .inr (3, [.int (nI 65535), .ref qi, .int (nI si)])), (qi, .inl (gB g, ni, .inl fi))]) hx hb hr rfl hlocks hQ hAe hK (hP.sub [0, 1, 2] rfl) (hD.sub [0, 1, 2] (by decide) rfl) hS (by omega) (by omega) dX6_isRight_92 ?_
              refine Or.inr ((?_))
              exact ⟨rfl, rfl, by first | exact fun z => absurd z.1 (by omega) | exact fun z => absurd z.2.1 (by omega) | exact fun z => hF_41 z.2.2.1 | exact fun z => c56 z.2.2.2.1 | exact fun z => c68 z.2.2.2.2.1 | exact fun z => c88 z.2.2.2.2.2.1 | exact fun z => hF_117 (z.2.2.2.2.2.2 i (by omega)).1 | exact fun z => hF_126 (z.2.2.2.2.2.2 i (by omega)).2⟩
            · skip
              refine lv_aload_n hx hb dX6_isRight_71 rfl (lv_at hl 1 rfl) ?_
              refine va_get (D := gD g) (ci := 4) (v := .ref hi) (C := RX6) (T := TX6) (N := 3) hx hb hts hinX6 hown hK hP 0 rfl rfl 0 (by decide) hf15 (fun _ h9 => h9) rfl dX6_isRight_72 ?_
              refine lv_iconst (v := nI 0) hx hb dX6_isRight_75 (by decide) ?_
              refine lv_iload_n hx hb dX6_isRight_76 rfl (lv_at hl 0 rfl) ?_
              refine ct_callV (wr := [(ho, .inr (4, [.ref hi, .ref he, .int (nI op)]))]) hx hb hml hown hts hK hP hD hS hA hG hl.1 (c_check l g hi qi 65535 ni si fi 0 (8 + (c0 * 64)) (by omega) (by omega) (by omega) (by omega)) (cwV 2 hts gX6_isRight_X4_check rfl rfl rfl (by decide +kernel) ⟨Nat.le_of_ble_eq_true rfl, Nat.le_of_ble_eq_true rfl⟩) (va_recv hK hP (ci := 3) (q0 := 1) rfl rfl) rfl rfl (Nat.le_of_ble_eq_true rfl) dX6_isRight_77 ⟨show 0 + 0 ≤ 0 by omega, show 0 + 0 ≤ 0 by omega⟩ [1, 2] [0] rfl rfl (by decide) (by decide) (by decide) (fun r_ w_ H locs hp_ hP hD hS => ?_)
              obtain ⟨rfl, rfl⟩ := hp_
              have hP : va_P (gD g) vwCl [(ho, .inr (4, [.ref hi, .ref he, .int (nI op)])), (hi, .inr (3, [.int (nI 65535), .ref qi, .int (nI si)])), (qi, .inl (gB g, ni, .inl fi))] H := hP
              have hD : va_D A [(ho, .inr (4, [.ref hi, .ref he, .int (nI op)])), (hi, .inr (3, [.int (nI 65535), .ref qi, .int (nI si)])), (qi, .inl (gB g, ni, .inl fi))] := hD
              refine W.eq (g2 := F0 m 80 ls [.int (crcR fi 0 ((8 + (c0 * 64)) - 0) ^^^ -1)]) rfl ?_
              refine lv_aload_n hx hb dX6_isRight_80 rfl (lv_at hl 1 rfl) ?_
              refine va_get (D := gD g) (ci := 4) (v := .ref hi) (C := RX6) (T := TX6) (N := 3) hx hb hts hinX6 hown hK hP 0 rfl rfl 0 (by decide) hf15 (fun _ h9 => h9) rfl dX6_isRight_81 ?_
              refine lv_iload_n hx hb dX6_isRight_84 rfl (lv_at hl 0 rfl) ?_
              refine ct_callV (wr := [(ho, .inr (4, [.ref hi, .ref he, .int (nI op)]))]) hx hb hml hown hts hK hP hD hS hA hG hl.1 (c_intFrom l g hi qi 65535 ni si fi (8 + (c0 * 64)) (by omega) (by omega) (by omega)) (cwV 1 hts gX6_isRight_X4_intFrom rfl rfl rfl (by decide +kernel) ⟨Nat.le_of_ble_eq_true rfl, Nat.le_of_ble_eq_true rfl⟩) (va_recv hK hP (ci := 3) (q0 := 1) rfl rfl) rfl rfl (Nat.le_of_ble_eq_true rfl) dX6_isRight_85 ⟨show 0 + 0 ≤ 0 by omega, show 0 + 0 ≤ 0 by omega⟩ [1, 2] [0] rfl rfl (by decide) (by decide) (by decide) (fun r_ w_ H locs hp_ hP hD hS => ?_)
              obtain ⟨rfl, rfl⟩ := hp_
              have hP : va_P (gD g) vwCl [(ho, .inr (4, [.ref hi, .ref he, .int (nI op)])), (hi, .inr (3, [.int (nI 65535), .ref qi, .int (nI si)])), (qi, .inl (gB g, ni, .inl fi))] H := hP
              have hD : va_D A [(ho, .inr (4, [.ref hi, .ref he, .int (nI op)])), (hi, .inr (3, [.int (nI 65535), .ref qi, .int (nI si)])), (qi, .inl (gB g, ni, .inl fi))] := hD
              refine W.eq (g2 := F0 m 88 ls [.int (be4 fi (8 + (c0 * 64))), .int (crcR fi 0 ((8 + (c0 * 64)) - 0) ^^^ -1)]) rfl ?_
              refine lv_icmp_eq (tgt := 93) hx hb dX6_isRight_88 (by decide) (fun c88 => ?_) (fun c88 => ?_)
              · skip
                refine lv_iconst (v := nI 1) hx hb dX6_isRight_93 (by decide) ?_
                refine lv_istore_n (lv' := [(3, .int (nI 1)), (2, .int (nI (8 + (c0 * 64)))), (0, .ref ho), (1, .int (nI c0))]) hx hb dX6_isRight_94 rfl hl (by decide) rfl (fun ls hl => ?_)
                refine lv_iconst (v := nI 0) hx hb dX6_isRight_95 (by decide) ?_
                refine lv_istore (lv' := [(4, .int (nI 0)), (3, .int (nI 1)), (2, .int (nI (8 + (c0 * 64)))), (0, .ref ho), (1, .int (nI c0))]) hx hb dX6_isRight_96 hl (by decide) rfl (fun ls hl => ?_)
                have K98 : ∀ (N_ : Nat) (i : Nat), (i ≤ c0) → (∀ j, j < i → pEntry fi si (8 + j * 64) ∧ pNew fi j) → (c0 - i) < N_ → ∀ (H : Heap) (locs : List Loc) (ls : Array Slot), va_P (gD g) vwCl [(ho, .inr (4, [.ref hi, .ref he, .int (nI op)])), (hi, .inr (3, [.int (nI 65535), .ref qi, .int (nI si)])), (qi, .inl (gB g, ni, .inl fi))] H → va_D A [(ho, .inr (4, [.ref hi, .ref he, .int (nI op)])), (hi, .inr (3, [.int (nI 65535), .ref qi, .int (nI si)])), (qi, .inl (gB g, ni, .inl fi))] → va_S A s.heap H locs → lv_has ls 5 [(0, .ref ho), (1, .int (nI c0)), (2, .int (nI (8 + (c0 * 64)))), (3, .int (nI 1)), (4, .int (nI i))] → W p l e ({ frames := 5, cells := 0, slots := 0, locals := 110 } : Room) s m args below meth c H locs (0) (0) Q (F0 m 98 ls []) := by
                  intro N_
                  induction N_ with
                  | zero => intro i hic hall hm_; exact absurd hm_ (Nat.not_lt_zero _)
                  | succ N_ ih_K98 =>
                    intro i hic hall hm_ H locs ls hP hD hS hl
                    refine lv_iload_n hx hb dX6_isRight_98 rfl (lv_at hl 3 rfl) ?_
                    refine lv_if_eq (tgt := 144) hx hb dX6_isRight_99 (by decide) (fun c99 => absurd c99 (by decide)) (fun _ => ?_)
                    refine lv_iload hx hb dX6_isRight_102 (lv_at hl 4 rfl) ?_
                    refine lv_iload_n hx hb dX6_isRight_104 rfl (lv_at hl 1 rfl) ?_
                    refine lv_icmp_ge (tgt := 144) hx hb dX6_isRight_105 (by decide) (fun c105 => ?_) (fun c105 => ?_)
                    · skip
                      have c105 : c0 ≤ i := (nI_leI (a := c0) (b := i) (by omega) (by omega)).mp c105
                      refine lv_iload_n hx hb dX6_isRight_144 rfl (lv_at hl 3 rfl) ?_
                      refine ct_iret (w := [(ho, .inr (4, [.ref hi, .ref he, .int (nI op)])), (hi, .inr (3, [.int (nI 65535), .ref qi, .int (nI si)])), (qi, .inl (gB g, ni, .inl fi))]) hx hb hr rfl hlocks hQ hAe hK (hP.sub [0, 1, 2] rfl) (hD.sub [0, 1, 2] (by decide) rfl) hS (by omega) (by omega) dX6_isRight_145 ?_
                      refine Or.inl (?_)
                      exact ⟨rfl, rfl, by exact ⟨c7, by omega, hT_41, c56, c68, c88, fun j hj => hall j (by omega)⟩⟩
                    · skip
                      have c105 : ¬ (c0 ≤ i) := fun z => c105 ((nI_leI (a := c0) (b := i) (by omega) (by omega)).mpr z)
                      refine lv_aload_n hx hb dX6_isRight_108 rfl (lv_at hl 0 rfl) ?_
                      refine lv_bipush (v := nI 8) hx hb dX6_isRight_109 (by decide) ?_
                      refine lv_iload hx hb dX6_isRight_111 (lv_at hl 4 rfl) ?_
                      refine lv_bipush (v := nI 64) hx hb dX6_isRight_113 (by decide) ?_
                      refine q_imul (v := nI (i * 64)) hx hb dX6_isRight_115 (pk_mul i 64) ?_
                      refine q_iadd (v := nI (8 + (i * 64))) hx hb dX6_isRight_116 (nI_add 8 (i * 64)) ?_
                      refine ct_callV (wr := []) hx hb hml hown hts hK hP hD hS hA hG hl.1 (c_entryRight l g ho hi he op qi ni si fi (8 + (i * 64)) (by omega) (by omega) (by omega)) (cwV 1 hts gX6_isRight_X6_isEntryRight rfl rfl rfl (by decide +kernel) ⟨Nat.le_of_ble_eq_true rfl, Nat.le_of_ble_eq_true rfl⟩) (va_recv hK hP (ci := 4) (q0 := 0) rfl rfl) rfl rfl (Nat.le_of_ble_eq_true rfl) dX6_isRight_117 ⟨show 0 + 0 ≤ 0 by omega, show 0 + 0 ≤ 0 by omega⟩ [0, 1, 2] [] rfl rfl (by decide) (by decide) (by decide) (fun r_ w_ H locs hp_ hP hD hS => ?_)
                      rcases hp_ with ⟨rfl, rfl, hT_117⟩ | ⟨rfl, rfl, hF_117⟩
                      · skip
                        have hP : va_P (gD g) vwCl [(ho, .inr (4, [.ref hi, .ref he, .int (nI op)])), (hi, .inr (3, [.int (nI 65535), .ref qi, .int (nI si)])), (qi, .inl (gB g, ni, .inl fi))] H := hP
                        have hD : va_D A [(ho, .inr (4, [.ref hi, .ref he, .int (nI op)])), (hi, .inr (3, [.int (nI 65535), .ref qi, .int (nI si)])), (qi, .inl (gB g, ni, .inl fi))] := hD
                        have hT_117 : pEntry fi si (8 + (i * 64)) := hT_117
                        refine W.eq (g2 := F0 m 120 ls [.int (nI 1)]) rfl ?_
                        refine lv_if_eq (tgt := 136) hx hb dX6_isRight_120 (by decide) (fun c120 => absurd c120 (by decide)) (fun _ => ?_)
                        refine lv_aload_n hx hb dX6_isRight_123 rfl (lv_at hl 0 rfl) ?_
                        refine lv_iload hx hb dX6_isRight_124 (lv_at hl 4 rfl) ?_
                        refine ct_callV (wr := []) hx hb hml hown hts hK hP hD hS hA hG hl.1 (c_nameNew l g ho hi he op qi ni si fi i (by omega) (by omega) (by omega) (by omega)) (cwV 1 hts gX6_isRight_X6_isNameNew rfl rfl rfl (by decide +kernel) ⟨Nat.le_of_ble_eq_true rfl, Nat.le_of_ble_eq_true rfl⟩) (va_recv hK hP (ci := 4) (q0 := 0) rfl rfl) rfl rfl (Nat.le_of_ble_eq_true rfl) dX6_isRight_126 ⟨show 0 + 0 ≤ 0 by omega, show 0 + 0 ≤ 0 by omega⟩ [0, 1, 2] [] rfl rfl (by decide) (by decide) (by decide) (fun r_ w_ H locs hp_ hP hD hS => ?_)
                        rcases hp_ with ⟨rfl, rfl, hT_126⟩ | ⟨rfl, rfl, hF_126⟩
                        · skip
                          have hP : va_P (gD g) vwCl [(ho, .inr (4, [.ref hi, .ref he, .int (nI op)])), (hi, .inr (3, [.int (nI 65535), .ref qi, .int (nI si)])), (qi, .inl (gB g, ni, .inl fi))] H := hP
                          have hD : va_D A [(ho, .inr (4, [.ref hi, .ref he, .int (nI op)])), (hi, .inr (3, [.int (nI 65535), .ref qi, .int (nI si)])), (qi, .inl (gB g, ni, .inl fi))] := hD
                          have hT_126 : pNew fi i := hT_126
                          refine W.eq (g2 := F0 m 129 ls [.int (nI 1)]) rfl ?_
                          refine lv_if_eq (tgt := 136) hx hb dX6_isRight_129 (by decide) (fun c129 => absurd c129 (by decide)) (fun _ => ?_)
                          refine lv_iconst (v := nI 1) hx hb dX6_isRight_132 (by decide) ?_
                          refine lv_goto (tgt := 137) hx hb dX6_isRight_133 (by decide) ?_
                          refine lv_istore_n (lv' := [(3, .int (nI 1)), (0, .ref ho), (1, .int (nI c0)), (2, .int (nI (8 + (c0 * 64)))), (4, .int (nI i))]) hx hb dX6_isRight_137 rfl hl (by decide) rfl (fun ls hl => ?_)
                          refine lv_iinc (v := nI (i + 1)) (lv' := [(4, .int (nI (i + 1))), (3, .int (nI 1)), (0, .ref ho), (1, .int (nI c0)), (2, .int (nI (8 + (c0 * 64))))]) hx hb dX6_isRight_138 hl (k := 4) rfl (nI_inc i 1) (by decide) rfl (fun ls hl => ?_)
                          refine lv_goto (tgt := 98) hx hb dX6_isRight_141 (by decide) ?_
                          exact ih_K98 (i + 1) (by omega) (by exact lt_s hall ⟨hT_117, hT_126⟩) (by omega) _ _ _ (hP.sub [0, 1, 2] rfl) (hD.sub [0, 1, 2] (by decide) rfl) hS (lv_sub hl [2, 3, 4, 1, 0] rfl)
                        · skip
                          have hP : va_P (gD g) vwCl [(ho, .inr (4, [.ref hi, .ref he, .int (nI op)])), (hi, .inr (3, [.int (nI 65535), .ref qi, .int (nI si)])), (qi, .inl (gB g, ni, .inl fi))] H := hP
                          have hD : va_D A [(ho, .inr (4, [.ref hi, .ref he, .int (nI op)])), (hi, .inr (3, [.int (nI 65535), .ref qi, .int (nI si)])), (qi, .inl (gB g, ni, .inl fi))] := hD
                          have hF_126 : ¬ (pNew fi i) := hF_126
                          refine W.eq (g2 := F0 m 129 ls [.int (nI 0)]) rfl ?_
                          refine lv_if_eq (tgt := 136) hx hb dX6_isRight_129 (by decide) (fun _ => ?_) (fun c129 => absurd (by decide) c129)
                          refine lv_iconst (v := nI 0) hx hb dX6_isRight_136 (by decide) ?_
                          refine lv_istore_n (lv' := [(3, .int (nI 0)), (0, .ref ho), (1, .int (nI c0)), (2, .int (nI (8 + (c0 * 64)))), (4, .int (nI i))]) hx hb dX6_isRight_137 rfl hl (by decide) rfl (fun ls hl => ?_)
                          refine lv_iinc (v := nI (i + 1)) (lv' := [(4, .int (nI (i + 1))), (3, .int (nI 0)), (0, .ref ho), (1, .int (nI c0)), (2, .int (nI (8 + (c0 * 64))))]) hx hb dX6_isRight_138 hl (k := 4) rfl (nI_inc i 1) (by decide) rfl (fun ls hl => ?_)
                          refine lv_goto (tgt := 98) hx hb dX6_isRight_141 (by decide) ?_
                          refine lv_iload_n hx hb dX6_isRight_98 rfl (lv_at hl 1 rfl) ?_
                          refine lv_if_eq (tgt := 144) hx hb dX6_isRight_99 (by decide) (fun _ => ?_) (fun c99 => absurd (by decide) c99)
                          refine lv_iload_n hx hb dX6_isRight_144 rfl (lv_at hl 1 rfl) ?_
                          refine ct_iret (w := [(ho, .inr (4, [.ref hi, .ref he, .int (nI op)])), (hi, .inr (3, [.int (nI 65535), .ref qi, .int (nI si)])), (qi, .inl (gB g, ni, .inl fi))]) hx hb hr rfl hlocks hQ hAe hK (hP.sub [0, 1, 2] rfl) (hD.sub [0, 1, 2] (by decide) rfl) hS (by omega) (by omega) dX6_isRight_145 ?_
                          refine Or.inr ((?_))
                          exact ⟨rfl, rfl, by first | exact fun z => absurd z.1 (by omega) | exact fun z => absurd z.2.1 (by omega) | exact fun z => hF_41 z.2.2.1 | exact fun z => c56 z.2.2.2.1 | exact fun z => c68 z.2.2.2.2.1 | exact fun z => c88 z.2.2.2.2.2.1 | exact fun z => hF_117 (z.2.2.2.2.2.2 i (by omega)).1 | exact fun z => hF_126 (z.2.2.2.2.2.2 i (by omega)).2⟩
                      · skip
                        have hP : va_P (gD g) vwCl [(ho, .inr (4, [.ref hi, .ref he, .int (nI op)])), (hi, .inr (3, [.int (nI 65535), .ref qi, .int (nI si)])), (qi, .inl (gB g, ni, .inl fi))] H := hP
                        have hD : va_D A [(ho, .inr (4, [.ref hi, .ref he, .int (nI op)])), (hi, .inr (3, [.int (nI 65535), .ref qi, .int (nI si)])), (qi, .inl (gB g, ni, .inl fi))] := hD
                        have hF_117 : ¬ (pEntry fi si (8 + (i * 64))) := hF_117
                        refine W.eq (g2 := F0 m 120 ls [.int (nI 0)]) rfl ?_
                        refine lv_if_eq (tgt := 136) hx hb dX6_isRight_120 (by decide) (fun _ => ?_) (fun c120 => absurd (by decide) c120)
                        refine lv_iconst (v := nI 0) hx hb dX6_isRight_136 (by decide) ?_
                        refine lv_istore_n (lv' := [(3, .int (nI 0)), (0, .ref ho), (1, .int (nI c0)), (2, .int (nI (8 + (c0 * 64)))), (4, .int (nI i))]) hx hb dX6_isRight_137 rfl hl (by decide) rfl (fun ls hl => ?_)
                        refine lv_iinc (v := nI (i + 1)) (lv' := [(4, .int (nI (i + 1))), (3, .int (nI 0)), (0, .ref ho), (1, .int (nI c0)), (2, .int (nI (8 + (c0 * 64))))]) hx hb dX6_isRight_138 hl (k := 4) rfl (nI_inc i 1) (by decide) rfl (fun ls hl => ?_)
                        refine lv_goto (tgt := 98) hx hb dX6_isRight_141 (by decide) ?_
                        refine lv_iload_n hx hb dX6_isRight_98 rfl (lv_at hl 1 rfl) ?_
                        refine lv_if_eq (tgt := 144) hx hb dX6_isRight_99 (by decide) (fun _ => ?_) (fun c99 => absurd (by decide) c99)
                        refine lv_iload_n hx hb dX6_isRight_144 rfl (lv_at hl 1 rfl) ?_
                        refine ct_iret (w := [(ho, .inr (4, [.ref hi, .ref he, .int (nI op)])), (hi, .inr (3, [.int (nI 65535), .ref qi, .int (nI si)])), (qi, .inl (gB g, ni, .inl fi))]) hx hb hr rfl hlocks hQ hAe hK (hP.sub [0, 1, 2] rfl) (hD.sub [0, 1, 2] (by decide) rfl) hS (by omega) (by omega) dX6_isRight_145 ?_
                        refine Or.inr ((?_))
                        exact ⟨rfl, rfl, by first | exact fun z => absurd z.1 (by omega) | exact fun z => absurd z.2.1 (by omega) | exact fun z => hF_41 z.2.2.1 | exact fun z => c56 z.2.2.2.1 | exact fun z => c68 z.2.2.2.2.1 | exact fun z => c88 z.2.2.2.2.2.1 | exact fun z => hF_117 (z.2.2.2.2.2.2 i (by omega)).1 | exact fun z => hF_126 (z.2.2.2.2.2.2 i (by omega)).2⟩
                exact K98 ((c0 - 0) + 1) 0 (by omega) (by intro j h1; omega) (Nat.lt_succ_self _) _ _ _ (hP.sub [0, 1, 2] rfl) (hD.sub [0, 1, 2] (by decide) rfl) hS (lv_sub hl [3, 4, 2, 1, 0] rfl)
              · skip
                refine lv_iconst (v := nI 0) hx hb dX6_isRight_91 (by decide) ?_
                refine ct_iret (w := [(ho, .inr (4, [.ref hi, .ref he, .int (nI op)])), (hi, .inr (3, [.int (nI 65535), .ref qi, .int (nI si)])), (qi, .inl (gB g, ni, .inl fi))]) hx hb hr rfl hlocks hQ hAe hK (hP.sub [0, 1, 2] rfl) (hD.sub [0, 1, 2] (by decide) rfl) hS (by omega) (by omega) dX6_isRight_92 ?_
                refine Or.inr ((?_))
                exact ⟨rfl, rfl, by first | exact fun z => absurd z.1 (by omega) | exact fun z => absurd z.2.1 (by omega) | exact fun z => hF_41 z.2.2.1 | exact fun z => c56 z.2.2.2.1 | exact fun z => c68 z.2.2.2.2.1 | exact fun z => c88 z.2.2.2.2.2.1 | exact fun z => hF_117 (z.2.2.2.2.2.2 i (by omega)).1 | exact fun z => hF_126 (z.2.2.2.2.2.2 i (by omega)).2⟩
        · skip
          have hP : va_P (gD g) vwCl [(ho, .inr (4, [.ref hi, .ref he, .int (nI op)])), (hi, .inr (3, [.int (nI 65535), .ref qi, .int (nI si)])), (qi, .inl (gB g, ni, .inl fi))] H := hP
          have hD : va_D A [(ho, .inr (4, [.ref hi, .ref he, .int (nI op)])), (hi, .inr (3, [.int (nI 65535), .ref qi, .int (nI si)])), (qi, .inl (gB g, ni, .inl fi))] := hD
          have hF_41 : ¬ (pText fi 0 4 1) := hF_41
          refine W.eq (g2 := F0 m 44 ls [.int (nI 0)]) rfl ?_
          refine lv_if_eq (tgt := 91) hx hb dX6_isRight_44 (by decide) (fun _ => ?_) (fun c44 => absurd (by decide) c44)
          refine lv_iconst (v := nI 0) hx hb dX6_isRight_91 (by decide) ?_
          refine ct_iret (w := [(ho, .inr (4, [.ref hi, .ref he, .int (nI op)])), (hi, .inr (3, [.int (nI 65535), .ref qi, .int (nI si)])), (qi, .inl (gB g, ni, .inl fi))]) hx hb hr rfl hlocks hQ hAe hK (hP.sub [0, 1, 2] rfl) (hD.sub [0, 1, 2] (by decide) rfl) hS (by omega) (by omega) dX6_isRight_92 ?_
          refine Or.inr ((?_))
          exact ⟨rfl, rfl, by first | exact fun z => absurd z.1 (by omega) | exact fun z => absurd z.2.1 (by omega) | exact fun z => hF_41 z.2.2.1 | exact fun z => c56 z.2.2.2.1 | exact fun z => c68 z.2.2.2.2.1 | exact fun z => c88 z.2.2.2.2.2.1 | exact fun z => hF_117 (z.2.2.2.2.2.2 i (by omega)).1 | exact fun z => hF_126 (z.2.2.2.2.2.2 i (by omega)).2⟩
    · skip
      have c7 : ¬ (c0 ≤ 64) := fun z => c7 ((nI_leI (a := c0) (b := 64) (by omega) (by omega)).mpr z)
      refine lv_iconst (v := nI 0) hx hb dX6_isRight_10 (by decide) ?_
      refine ct_iret (w := [(ho, .inr (4, [.ref hi, .ref he, .int (nI op)])), (hi, .inr (3, [.int (nI 65535), .ref qi, .int (nI si)])), (qi, .inl (gB g, ni, .inl fi))]) hx hb hr rfl hlocks hQ hAe hK (hP.sub [0, 1, 2] rfl) (hD.sub [0, 1, 2] (by decide) rfl) hS (by omega) (by omega) dX6_isRight_11 ?_
      refine Or.inr ((?_))
      exact ⟨rfl, rfl, by first | exact fun z => absurd z.1 (by omega) | exact fun z => absurd z.2.1 (by omega) | exact fun z => hF_41 z.2.2.1 | exact fun z => c56 z.2.2.2.1 | exact fun z => c68 z.2.2.2.2.1 | exact fun z => c88 z.2.2.2.2.2.1 | exact fun z => hF_117 (z.2.2.2.2.2.2 i (by omega)).1 | exact fun z => hF_126 (z.2.2.2.2.2.2 i (by omega)).2⟩

set_option maxHeartbeats 4000000 in
set_option maxRecDepth 100000 in
theorem c_openImage (l : Launch) (g : GT) (ho : Nat) (hi : Nat) (he : Nat) (op : Nat) (qi : Nat) (ni : Nat) (si : Nat) (fi : Nat → Int32) (qe : Nat) (ne : Nat) (se : Nat) (fe : Nat → Int32) (hi1 : si ≤ ni) (hi2 : ni ≤ 65535) (he1 : se ≤ ne) (he2 : ne ≤ 4096) (hfi : sb_Fit fi) (hfe : sb_Fit fe) : CT l g yX6_openImage wsX6_openImage ({ frames := 6, cells := 1, slots := 4096, locals := 134 } : Room) [.ref ho] [(ho, .inr (4, [.ref hi, .ref he, .int (nI op)])), (hi, .inr (3, [.int (nI 65535), .ref qi, .int (nI si)])), (qi, .inl (gB g, ni, .inl fi)), (he, .inr (3, [.int (nI 4096), .ref qe, .int (nI se)])), (qe, .inl (gB g, ne, .inl fe))] (fun r w => (r = some (.int (-1)) ∧ w = [(ho, .inr (4, [.ref hi, .ref he, .int (nI op)])), (hi, .inr (3, [.int (nI 65535), .ref qi, .int (nI si)])), (qi, .inl (gB g, ni, .inl fi)), (he, .inr (3, [.int (nI 4096), .ref qe, .int (nI se)])), (qe, .inl (gB g, ne, .inl fe))] ∧ (¬ (6 ≤ si ∧ pRight fi si (cntF fi)))) ∨ (∃ (q1 : Nat) (n1 : Nat) (f1 : Nat → Int32), r = some (.int (nI (cntF fi))) ∧ w = [(ho, .inr (4, [.ref hi, .ref he, .int (nI 1)])), (hi, .inr (3, [.int (nI 65535), .ref qi, .int (nI si)])), (qi, .inl (gB g, ni, .inl fi)), (he, .inr (3, [.int (nI 4096), .ref q1, .int (nI (cntF fi * 64))])), (q1, .inl (gB g, n1, .inl f1))] ∧ (6 ≤ si) ∧ (pRight fi si (cntF fi)) ∧ (ne ≤ n1 ∧ n1 ≤ 4096 ∧ cntF fi * 64 ≤ n1) ∧ (∀ j, j < cntF fi * 64 → f1 j = fi (8 + j)) ∧ (sb_Fit f1))) (1) (4096) := by
  refine ct_of (cc := cX6_openImage) (maxL := 2) (ret := (some .int)) (by decide) rfl (Nat.le_of_ble_eq_true rfl) ?_
  intro p e s m args below meth c A Q hx hb hr hml hown hts hlocks hnam hAe hQ hA hG hK hP hD hS ls hl
  have hl : lv_has ls 2 [(0, .ref ho)] := hl
  have hown : s.vm.findClass RX6 = some m.cls := hown
  have hinX6 : ∀ w ∈ u_ws RX6 TX6 3, w ∈ wsX6_openImage := by decide +kernel
  have hf15 := hts (.fieldLink RX6 15 "RequestReader$Store" "image" "LRequestReader$Row;") (by decide +kernel)
  have hf21 := hts (.fieldLink RX6 21 "RequestReader$Store" "entries" "LRequestReader$Row;") (by decide +kernel)
  have hf24 := hts (.fieldLink RX6 24 "RequestReader$Store" "isOpen" "Z") (by decide +kernel)
  have hcl := cnt_lt fi
  rcases (show 6 ≤ si ∨ si < 6 by omega) with hcs | hcs
  · skip
    refine lv_aload_n hx hb dX6_openImage_0 rfl (lv_at hl 0 rfl) ?_
    refine va_get (D := gD g) (ci := 4) (v := .ref hi) (C := RX6) (T := TX6) (N := 3) hx hb hts hinX6 hown hK hP 0 rfl rfl 0 (by decide) hf15 (fun _ h9 => h9) rfl dX6_openImage_1 ?_
    refine lv_iconst (v := nI 4) hx hb dX6_openImage_4 (by decide) ?_
    refine ct_callV (wr := [(ho, .inr (4, [.ref hi, .ref he, .int (nI op)])), (he, .inr (3, [.int (nI 4096), .ref qe, .int (nI se)])), (qe, .inl (gB g, ne, .inl fe))]) hx hb hml hown hts hK hP hD hS hA hG hl.1 (c_getIn l g hi qi 65535 ni si fi 4 (by omega) (by omega) (by omega)) (cwV 1 hts gX6_openImage_X4_get rfl rfl rfl (by decide +kernel) ⟨Nat.le_of_ble_eq_true rfl, Nat.le_of_ble_eq_true rfl⟩) (va_recv hK hP (ci := 3) (q0 := 1) rfl rfl) rfl rfl (Nat.le_of_ble_eq_true rfl) dX6_openImage_5 ⟨show 0 + 0 ≤ 1 by omega, show 0 + 0 ≤ 4096 by omega⟩ [1, 2] [0, 3, 4] rfl rfl (by decide) (by decide) (by decide) (fun r_ w_ H locs hp_ hP hD hS => ?_)
    obtain ⟨rfl, rfl⟩ := hp_
    have hP : va_P (gD g) vwCl [(ho, .inr (4, [.ref hi, .ref he, .int (nI op)])), (he, .inr (3, [.int (nI 4096), .ref qe, .int (nI se)])), (qe, .inl (gB g, ne, .inl fe)), (hi, .inr (3, [.int (nI 65535), .ref qi, .int (nI si)])), (qi, .inl (gB g, ni, .inl fi))] H := hP
    have hD : va_D A [(ho, .inr (4, [.ref hi, .ref he, .int (nI op)])), (he, .inr (3, [.int (nI 4096), .ref qe, .int (nI se)])), (qe, .inl (gB g, ne, .inl fe)), (hi, .inr (3, [.int (nI 65535), .ref qi, .int (nI si)])), (qi, .inl (gB g, ni, .inl fi))] := hD
    refine W.eq (g2 := F0 m 8 ls [.int (fi 4 &&& 255)]) rfl ?_
    refine lv_bipush (v := nI 8) hx hb dX6_openImage_8 (by decide) ?_
    refine q_ishl (v := (fi 4 &&& 255) <<< (nI 8 &&& 31)) hx hb dX6_openImage_10 (rfl) ?_
    refine lv_aload_n hx hb dX6_openImage_11 rfl (lv_at hl 0 rfl) ?_
    refine va_get (D := gD g) (ci := 4) (v := .ref hi) (C := RX6) (T := TX6) (N := 3) hx hb hts hinX6 hown hK hP 0 rfl rfl 0 (by decide) hf15 (fun _ h9 => h9) rfl dX6_openImage_12 ?_
    refine lv_iconst (v := nI 5) hx hb dX6_openImage_15 (by decide) ?_
    refine ct_callV (wr := [(ho, .inr (4, [.ref hi, .ref he, .int (nI op)])), (he, .inr (3, [.int (nI 4096), .ref qe, .int (nI se)])), (qe, .inl (gB g, ne, .inl fe))]) hx hb hml hown hts hK hP hD hS hA hG hl.1 (c_getIn l g hi qi 65535 ni si fi 5 (by omega) (by omega) (by omega)) (cwV 1 hts gX6_openImage_X4_get rfl rfl rfl (by decide +kernel) ⟨Nat.le_of_ble_eq_true rfl, Nat.le_of_ble_eq_true rfl⟩) (va_recv hK hP (ci := 3) (q0 := 3) rfl rfl) rfl rfl (Nat.le_of_ble_eq_true rfl) dX6_openImage_16 ⟨show 0 + 0 ≤ 1 by omega, show 0 + 0 ≤ 4096 by omega⟩ [3, 4] [0, 1, 2] rfl rfl (by decide) (by decide) (by decide) (fun r_ w_ H locs hp_ hP hD hS => ?_)
    obtain ⟨rfl, rfl⟩ := hp_
    have hP : va_P (gD g) vwCl [(ho, .inr (4, [.ref hi, .ref he, .int (nI op)])), (he, .inr (3, [.int (nI 4096), .ref qe, .int (nI se)])), (qe, .inl (gB g, ne, .inl fe)), (hi, .inr (3, [.int (nI 65535), .ref qi, .int (nI si)])), (qi, .inl (gB g, ni, .inl fi))] H := hP
    have hD : va_D A [(ho, .inr (4, [.ref hi, .ref he, .int (nI op)])), (he, .inr (3, [.int (nI 4096), .ref qe, .int (nI se)])), (qe, .inl (gB g, ne, .inl fe)), (hi, .inr (3, [.int (nI 65535), .ref qi, .int (nI si)])), (qi, .inl (gB g, ni, .inl fi))] := hD
    refine W.eq (g2 := F0 m 19 ls [.int (fi 5 &&& 255), .int ((fi 4 &&& 255) <<< (nI 8 &&& 31))]) rfl ?_
    refine q_ior (v := nI (cntF fi)) hx hb dX6_openImage_19 (cnt_eq fi) ?_
    refine lv_istore_n (lv' := [(1, .int (nI (cntF fi))), (0, .ref ho)]) hx hb dX6_openImage_20 rfl hl (by decide) rfl (fun ls hl => ?_)
    refine lv_aload_n hx hb dX6_openImage_21 rfl (lv_at hl 1 rfl) ?_
    refine lv_iload_n hx hb dX6_openImage_22 rfl (lv_at hl 0 rfl) ?_
    refine ct_callV (wr := [(he, .inr (3, [.int (nI 4096), .ref qe, .int (nI se)])), (qe, .inl (gB g, ne, .inl fe))]) hx hb hml hown hts hK hP hD hS hA hG hl.1 (c_isRight l g ho hi he op qi ni si fi (cntF fi) (by omega) (by omega) (by omega)) (cwV 1 hts gX6_openImage_X6_isRight rfl rfl rfl (by decide +kernel) ⟨Nat.le_of_ble_eq_true rfl, Nat.le_of_ble_eq_true rfl⟩) (va_recv hK hP (ci := 4) (q0 := 0) rfl rfl) rfl rfl (Nat.le_of_ble_eq_true rfl) dX6_openImage_23 ⟨show 0 + 0 ≤ 1 by omega, show 0 + 0 ≤ 4096 by omega⟩ [0, 3, 4] [1, 2] rfl rfl (by decide) (by decide) (by decide) (fun r_ w_ H locs hp_ hP hD hS => ?_)
    rcases hp_ with ⟨rfl, rfl, hT_23⟩ | ⟨rfl, rfl, hF_23⟩
    · skip
      have hP : va_P (gD g) vwCl [(he, .inr (3, [.int (nI 4096), .ref qe, .int (nI se)])), (qe, .inl (gB g, ne, .inl fe)), (ho, .inr (4, [.ref hi, .ref he, .int (nI op)])), (hi, .inr (3, [.int (nI 65535), .ref qi, .int (nI si)])), (qi, .inl (gB g, ni, .inl fi))] H := hP
      have hD : va_D A [(he, .inr (3, [.int (nI 4096), .ref qe, .int (nI se)])), (qe, .inl (gB g, ne, .inl fe)), (ho, .inr (4, [.ref hi, .ref he, .int (nI op)])), (hi, .inr (3, [.int (nI 65535), .ref qi, .int (nI si)])), (qi, .inl (gB g, ni, .inl fi))] := hD
      have hT_23 : pRight fi si (cntF fi) := hT_23
      refine W.eq (g2 := F0 m 26 ls [.int (nI 1)]) rfl ?_
      refine lv_if_ne (tgt := 31) hx hb dX6_openImage_26 (by decide) (fun _ => ?_) (fun c26 => absurd c26 (by decide))
      refine lv_aload_n hx hb dX6_openImage_31 rfl (lv_at hl 1 rfl) ?_
      refine va_get (D := gD g) (ci := 4) (v := .ref he) (C := RX6) (T := TX6) (N := 3) hx hb hts hinX6 hown hK hP 2 rfl rfl 1 (by decide) hf21 (fun _ h9 => h9) rfl dX6_openImage_32 ?_
      refine lv_iconst (v := nI 0) hx hb dX6_openImage_35 (by decide) ?_
      refine ct_callV (wr := [(ho, .inr (4, [.ref hi, .ref he, .int (nI op)])), (hi, .inr (3, [.int (nI 65535), .ref qi, .int (nI si)])), (qi, .inl (gB g, ni, .inl fi))]) hx hb hml hown hts hK hP hD hS hA hG hl.1 (c_cut0 l g he qe 4096 ne se fe (by omega) (by omega)) (cwV 1 hts gX6_openImage_X4_cutTo rfl rfl rfl (by decide +kernel) ⟨Nat.le_of_ble_eq_true rfl, Nat.le_of_ble_eq_true rfl⟩) (va_recv hK hP (ci := 3) (q0 := 0) rfl rfl) rfl rfl (Nat.le_of_ble_eq_true rfl) dX6_openImage_36 ⟨show 0 + 0 ≤ 1 by omega, show 0 + 0 ≤ 4096 by omega⟩ [0, 1] [2, 3, 4] rfl rfl (by decide) (by decide) (by decide) (fun r_ w_ H locs hp_ hP hD hS => ?_)
      obtain ⟨rfl, rfl⟩ := hp_
      have hP : va_P (gD g) vwCl [(ho, .inr (4, [.ref hi, .ref he, .int (nI op)])), (hi, .inr (3, [.int (nI 65535), .ref qi, .int (nI si)])), (qi, .inl (gB g, ni, .inl fi)), (he, .inr (3, [.int (nI 4096), .ref qe, .int (nI 0)])), (qe, .inl (gB g, ne, .inl fe))] H := hP
      have hD : va_D A [(ho, .inr (4, [.ref hi, .ref he, .int (nI op)])), (hi, .inr (3, [.int (nI 65535), .ref qi, .int (nI si)])), (qi, .inl (gB g, ni, .inl fi)), (he, .inr (3, [.int (nI 4096), .ref qe, .int (nI 0)])), (qe, .inl (gB g, ne, .inl fe))] := hD
      refine W.eq (g2 := F0 m 39 ls []) rfl ?_
      refine lv_aload_n hx hb dX6_openImage_39 rfl (lv_at hl 1 rfl) ?_
      refine va_get (D := gD g) (ci := 4) (v := .ref he) (C := RX6) (T := TX6) (N := 3) hx hb hts hinX6 hown hK hP 0 rfl rfl 1 (by decide) hf21 (fun _ h9 => h9) rfl dX6_openImage_40 ?_
      refine lv_aload_n hx hb dX6_openImage_43 rfl (lv_at hl 1 rfl) ?_
      refine va_get (D := gD g) (ci := 4) (v := .ref hi) (C := RX6) (T := TX6) (N := 3) hx hb hts hinX6 hown hK hP 0 rfl rfl 0 (by decide) hf15 (fun _ h9 => h9) rfl dX6_openImage_44 ?_
      refine lv_bipush (v := nI 8) hx hb dX6_openImage_47 (by decide) ?_
      refine lv_iload_n hx hb dX6_openImage_49 rfl (lv_at hl 0 rfl) ?_
      refine lv_bipush (v := nI 64) hx hb dX6_openImage_50 (by decide) ?_
      refine q_imul (v := nI ((cntF fi) * 64)) hx hb dX6_openImage_52 (pk_mul (cntF fi) 64) ?_
      have hr64 := hT_23.1
      have hr4 := hT_23.2.1
      have hg1 := gcN_le1 ne (0 + cntF fi * 64)
      have hg2 := gsN_le (lim := 4096) (n := ne) (a := 0 + cntF fi * 64) (by omega)
      have hg3 := le_cpN 4096 ne (0 + cntF fi * 64)
      have hg4 := cpN_le (lim := 4096) (n := ne) (need := 0 + cntF fi * 64) (by omega) (by omega)
      have hg5 := n_le_cpN (lim := 4096) (n := ne) (need := 0 + cntF fi * 64) (by omega)
      refine ct_callV (wr := [(ho, .inr (4, [.ref hi, .ref he, .int (nI op)]))]) hx hb hml hown hts hK hP hD hS hA hG hl.1 (c_addRange l g he qe 4096 ne 0 fe hi qi 65535 ni si fi 8 ((cntF fi) * 64) (by omega) (by omega) (by omega) (by omega) (by assumption) (by omega) (by omega) (by omega) (by assumption) (by omega)) (cwV 3 hts gX6_openImage_X4_addRange rfl rfl rfl (by decide +kernel) ⟨Nat.le_of_ble_eq_true rfl, Nat.le_of_ble_eq_true rfl⟩) (va_recv hK hP (ci := 3) (q0 := 3) rfl rfl) rfl rfl (Nat.le_of_ble_eq_true rfl) dX6_openImage_53 ⟨show 0 + (gcN ne (0 + ((cntF fi) * 64))) ≤ 1 by omega, show 0 + (gsN 4096 ne (0 + ((cntF fi) * 64))) ≤ 4096 by omega⟩ [3, 4, 1, 2] [0] rfl rfl (by decide) (by decide) (by decide) (fun r_ w_ H locs hp_ hP hD hS => ?_)
      obtain ⟨q1_53, n1_53, f1_53, rfl, rfl, en_53, ef_53, ec_53, ft_53⟩ := hp_
      have hP : va_P (gD g) vwCl [(ho, .inr (4, [.ref hi, .ref he, .int (nI op)])), (he, .inr (3, [.int (nI 4096), .ref q1_53, .int (nI (0 + ((cntF fi) * 64)))])), (q1_53, .inl (gB g, n1_53, .inl f1_53)), (hi, .inr (3, [.int (nI 65535), .ref qi, .int (nI si)])), (qi, .inl (gB g, ni, .inl fi))] H := hP
      have hD : va_D A [(ho, .inr (4, [.ref hi, .ref he, .int (nI op)])), (he, .inr (3, [.int (nI 4096), .ref q1_53, .int (nI (0 + ((cntF fi) * 64)))])), (q1_53, .inl (gB g, n1_53, .inl f1_53)), (hi, .inr (3, [.int (nI 65535), .ref qi, .int (nI si)])), (qi, .inl (gB g, ni, .inl fi))] := hD
      have en_53 : n1_53 = cpN 4096 ne (0 + ((cntF fi) * 64)) := en_53
      have ef_53 : ∀ j, j < 0 → f1_53 j = fe j := ef_53
      have ec_53 : ∀ j, j < ((cntF fi) * 64) → f1_53 (0 + j) = fi (8 + j) := ec_53
      have ft_53 : sb_Fit f1_53 := ft_53
      refine W.widen (k := gcN ne (0 + ((cntF fi) * 64))) (n := gsN 4096 ne (0 + ((cntF fi) * 64))) (by omega) (by omega) ?_
      refine W.eq (g2 := F0 m 56 ls []) rfl ?_
      refine lv_aload_n hx hb dX6_openImage_56 rfl (lv_at hl 1 rfl) ?_
      refine lv_iconst (v := nI 1) hx hb dX6_openImage_57 (by decide) ?_
      refine va_put (D := gD g) (ci := 4) (v := .int (nI 1)) (ty := .boolean) (C := RX6) (T := TX6) (N := 3) hx hb hts hinX6 tyX6 tyX6_ok nmX6 hown hK hP hD hS 0 rfl rfl 2 (by decide) hf24 (fun _ h9 => h9) rfl (by decide +kernel) rfl rfl (Nat.le_of_ble_eq_true rfl) dX6_openImage_58 (fun H locs hP hD hS => ?_)
      have hP : va_P (gD g) vwCl [(ho, .inr (4, [.ref hi, .ref he, .int (nI 1)])), (he, .inr (3, [.int (nI 4096), .ref q1_53, .int (nI (0 + ((cntF fi) * 64)))])), (q1_53, .inl (gB g, n1_53, .inl f1_53)), (hi, .inr (3, [.int (nI 65535), .ref qi, .int (nI si)])), (qi, .inl (gB g, ni, .inl fi))] H := hP
      have hD : va_D A [(ho, .inr (4, [.ref hi, .ref he, .int (nI 1)])), (he, .inr (3, [.int (nI 4096), .ref q1_53, .int (nI (0 + ((cntF fi) * 64)))])), (q1_53, .inl (gB g, n1_53, .inl f1_53)), (hi, .inr (3, [.int (nI 65535), .ref qi, .int (nI si)])), (qi, .inl (gB g, ni, .inl fi))] := hD
      refine lv_iload_n hx hb dX6_openImage_61 rfl (lv_at hl 0 rfl) ?_
      refine ct_iret (w := [(ho, .inr (4, [.ref hi, .ref he, .int (nI 1)])), (hi, .inr (3, [.int (nI 65535), .ref qi, .int (nI si)])), (qi, .inl (gB g, ni, .inl fi)), (he, .inr (3, [.int (nI 4096), .ref q1_53, .int (nI (0 + ((cntF fi) * 64)))])), (q1_53, .inl (gB g, n1_53, .inl f1_53))]) hx hb hr rfl hlocks hQ hAe hK (hP.sub [0, 3, 4, 1, 2] rfl) (hD.sub [0, 3, 4, 1, 2] (by decide) rfl) hS (by omega) (by omega) dX6_openImage_62 ?_
      refine Or.inr ((?_))
      exact ⟨q1_53, n1_53, f1_53, rfl, (by first | rfl | simp only [Nat.zero_add]), by omega, by assumption, by rw [en_53]; omega, by exact fun j hj => (by have e_ := ec_53 j hj; rwa [Nat.zero_add] at e_), by assumption⟩
    · skip
      have hP : va_P (gD g) vwCl [(he, .inr (3, [.int (nI 4096), .ref qe, .int (nI se)])), (qe, .inl (gB g, ne, .inl fe)), (ho, .inr (4, [.ref hi, .ref he, .int (nI op)])), (hi, .inr (3, [.int (nI 65535), .ref qi, .int (nI si)])), (qi, .inl (gB g, ni, .inl fi))] H := hP
      have hD : va_D A [(he, .inr (3, [.int (nI 4096), .ref qe, .int (nI se)])), (qe, .inl (gB g, ne, .inl fe)), (ho, .inr (4, [.ref hi, .ref he, .int (nI op)])), (hi, .inr (3, [.int (nI 65535), .ref qi, .int (nI si)])), (qi, .inl (gB g, ni, .inl fi))] := hD
      have hF_23 : ¬ (pRight fi si (cntF fi)) := hF_23
      refine W.eq (g2 := F0 m 26 ls [.int (nI 0)]) rfl ?_
      refine lv_if_ne (tgt := 31) hx hb dX6_openImage_26 (by decide) (fun c26 => absurd (by decide) c26) (fun _ => ?_)
      refine lv_iconst (v := (-1)) hx hb dX6_openImage_29 (by decide) ?_
      refine ct_iret (w := [(ho, .inr (4, [.ref hi, .ref he, .int (nI op)])), (hi, .inr (3, [.int (nI 65535), .ref qi, .int (nI si)])), (qi, .inl (gB g, ni, .inl fi)), (he, .inr (3, [.int (nI 4096), .ref qe, .int (nI se)])), (qe, .inl (gB g, ne, .inl fe))]) hx hb hr rfl hlocks hQ hAe hK (hP.sub [2, 3, 4, 0, 1] rfl) (hD.sub [2, 3, 4, 0, 1] (by decide) rfl) hS (by omega) (by omega) dX6_openImage_30 ?_
      refine Or.inl (?_)
      exact ⟨rfl, (by first | rfl | simp only [Nat.zero_add]), by first | exact fun z => absurd z.1 (by omega) | exact fun z => hF_23 z.2⟩
  · skip
    refine lv_aload_n hx hb dX6_openImage_0 rfl (lv_at hl 0 rfl) ?_
    refine va_get (D := gD g) (ci := 4) (v := .ref hi) (C := RX6) (T := TX6) (N := 3) hx hb hts hinX6 hown hK hP 0 rfl rfl 0 (by decide) hf15 (fun _ h9 => h9) rfl dX6_openImage_1 ?_
    refine lv_iconst (v := nI 4) hx hb dX6_openImage_4 (by decide) ?_
    refine ct_callV (wr := [(ho, .inr (4, [.ref hi, .ref he, .int (nI op)])), (he, .inr (3, [.int (nI 4096), .ref qe, .int (nI se)])), (qe, .inl (gB g, ne, .inl fe))]) hx hb hml hown hts hK hP hD hS hA hG hl.1 (c_getAny l g hi qi 65535 ni si fi (nI 4) (by omega) (by omega)) (cwV 1 hts gX6_openImage_X4_get rfl rfl rfl (by decide +kernel) ⟨Nat.le_of_ble_eq_true rfl, Nat.le_of_ble_eq_true rfl⟩) (va_recv hK hP (ci := 3) (q0 := 1) rfl rfl) rfl rfl (Nat.le_of_ble_eq_true rfl) dX6_openImage_5 ⟨show 0 + 0 ≤ 1 by omega, show 0 + 0 ≤ 4096 by omega⟩ [1, 2] [0, 3, 4] rfl rfl (by decide) (by decide) (by decide) (fun r_ w_ H locs hp_ hP hD hS => ?_)
    rcases hp_ with ⟨rfl, rfl, hx1_5⟩ | ⟨j_5, rfl, rfl, hj_5, hj2_5⟩
    · skip
      have hP : va_P (gD g) vwCl [(ho, .inr (4, [.ref hi, .ref he, .int (nI op)])), (he, .inr (3, [.int (nI 4096), .ref qe, .int (nI se)])), (qe, .inl (gB g, ne, .inl fe)), (hi, .inr (3, [.int (nI 65535), .ref qi, .int (nI si)])), (qi, .inl (gB g, ni, .inl fi))] H := hP
      have hD : va_D A [(ho, .inr (4, [.ref hi, .ref he, .int (nI op)])), (he, .inr (3, [.int (nI 4096), .ref qe, .int (nI se)])), (qe, .inl (gB g, ne, .inl fe)), (hi, .inr (3, [.int (nI 65535), .ref qi, .int (nI si)])), (qi, .inl (gB g, ni, .inl fi))] := hD
      have hx1_5 : (nI 4) < 0 ∨ nI si ≤ (nI 4) := hx1_5
      refine W.eq (g2 := F0 m 8 ls [.int (-1)]) rfl ?_
      refine lv_bipush (v := nI 8) hx hb dX6_openImage_8 (by decide) ?_
      refine q_ishl (v := (-1) <<< (nI 8 &&& 31)) hx hb dX6_openImage_10 (rfl) ?_
      refine lv_aload_n hx hb dX6_openImage_11 rfl (lv_at hl 0 rfl) ?_
      refine va_get (D := gD g) (ci := 4) (v := .ref hi) (C := RX6) (T := TX6) (N := 3) hx hb hts hinX6 hown hK hP 0 rfl rfl 0 (by decide) hf15 (fun _ h9 => h9) rfl dX6_openImage_12 ?_
      refine lv_iconst (v := nI 5) hx hb dX6_openImage_15 (by decide) ?_
      refine ct_callV (wr := [(ho, .inr (4, [.ref hi, .ref he, .int (nI op)])), (he, .inr (3, [.int (nI 4096), .ref qe, .int (nI se)])), (qe, .inl (gB g, ne, .inl fe))]) hx hb hml hown hts hK hP hD hS hA hG hl.1 (c_getOut l g hi qi 65535 ni si fi 5 (by omega) (by omega) (by omega) (by omega)) (cwV 1 hts gX6_openImage_X4_get rfl rfl rfl (by decide +kernel) ⟨Nat.le_of_ble_eq_true rfl, Nat.le_of_ble_eq_true rfl⟩) (va_recv hK hP (ci := 3) (q0 := 3) rfl rfl) rfl rfl (Nat.le_of_ble_eq_true rfl) dX6_openImage_16 ⟨show 0 + 0 ≤ 1 by omega, show 0 + 0 ≤ 4096 by omega⟩ [3, 4] [0, 1, 2] rfl rfl (by decide) (by decide) (by decide) (fun r_ w_ H locs hp_ hP hD hS => ?_)
      obtain ⟨rfl, rfl⟩ := hp_
      have hP : va_P (gD g) vwCl [(ho, .inr (4, [.ref hi, .ref he, .int (nI op)])), (he, .inr (3, [.int (nI 4096), .ref qe, .int (nI se)])), (qe, .inl (gB g, ne, .inl fe)), (hi, .inr (3, [.int (nI 65535), .ref qi, .int (nI si)])), (qi, .inl (gB g, ni, .inl fi))] H := hP
      have hD : va_D A [(ho, .inr (4, [.ref hi, .ref he, .int (nI op)])), (he, .inr (3, [.int (nI 4096), .ref qe, .int (nI se)])), (qe, .inl (gB g, ne, .inl fe)), (hi, .inr (3, [.int (nI 65535), .ref qi, .int (nI si)])), (qi, .inl (gB g, ni, .inl fi))] := hD
      refine W.eq (g2 := F0 m 19 ls [.int (-1), .int ((-1) <<< (nI 8 &&& 31))]) rfl ?_
      refine q_ior (v := -1) hx hb dX6_openImage_19 (or_m1 _) ?_
      refine lv_istore_n (lv' := [(1, .int (-1)), (0, .ref ho)]) hx hb dX6_openImage_20 rfl hl (by decide) rfl (fun ls hl => ?_)
      refine lv_aload_n hx hb dX6_openImage_21 rfl (lv_at hl 1 rfl) ?_
      refine lv_iload_n hx hb dX6_openImage_22 rfl (lv_at hl 0 rfl) ?_
      refine ct_callV (wr := [(he, .inr (3, [.int (nI 4096), .ref qe, .int (nI se)])), (qe, .inl (gB g, ne, .inl fe))]) hx hb hml hown hts hK hP hD hS hA hG hl.1 (c_isRightN l g ho hi he op qi ni si fi (by omega) (by omega)) (cwV 1 hts gX6_openImage_X6_isRight rfl rfl rfl (by decide +kernel) ⟨Nat.le_of_ble_eq_true rfl, Nat.le_of_ble_eq_true rfl⟩) (va_recv hK hP (ci := 4) (q0 := 0) rfl rfl) rfl rfl (Nat.le_of_ble_eq_true rfl) dX6_openImage_23 ⟨show 0 + 0 ≤ 1 by omega, show 0 + 0 ≤ 4096 by omega⟩ [0, 3, 4] [1, 2] rfl rfl (by decide) (by decide) (by decide) (fun r_ w_ H locs hp_ hP hD hS => ?_)
      obtain ⟨rfl, rfl⟩ := hp_
      have hP : va_P (gD g) vwCl [(he, .inr (3, [.int (nI 4096), .ref qe, .int (nI se)])), (qe, .inl (gB g, ne, .inl fe)), (ho, .inr (4, [.ref hi, .ref he, .int (nI op)])), (hi, .inr (3, [.int (nI 65535), .ref qi, .int (nI si)])), (qi, .inl (gB g, ni, .inl fi))] H := hP
      have hD : va_D A [(he, .inr (3, [.int (nI 4096), .ref qe, .int (nI se)])), (qe, .inl (gB g, ne, .inl fe)), (ho, .inr (4, [.ref hi, .ref he, .int (nI op)])), (hi, .inr (3, [.int (nI 65535), .ref qi, .int (nI si)])), (qi, .inl (gB g, ni, .inl fi))] := hD
      refine W.eq (g2 := F0 m 26 ls [.int (nI 0)]) rfl ?_
      refine lv_if_ne (tgt := 31) hx hb dX6_openImage_26 (by decide) (fun c26 => absurd (by decide) c26) (fun _ => ?_)
      refine lv_iconst (v := (-1)) hx hb dX6_openImage_29 (by decide) ?_
      refine ct_iret (w := [(ho, .inr (4, [.ref hi, .ref he, .int (nI op)])), (hi, .inr (3, [.int (nI 65535), .ref qi, .int (nI si)])), (qi, .inl (gB g, ni, .inl fi)), (he, .inr (3, [.int (nI 4096), .ref qe, .int (nI se)])), (qe, .inl (gB g, ne, .inl fe))]) hx hb hr rfl hlocks hQ hAe hK (hP.sub [2, 3, 4, 0, 1] rfl) (hD.sub [2, 3, 4, 0, 1] (by decide) rfl) hS (by omega) (by omega) dX6_openImage_30 ?_
      refine Or.inl (?_)
      exact ⟨rfl, (by first | rfl | simp only [Nat.zero_add]), by first | exact fun z => absurd z.1 (by omega) | exact fun z => hF_23 z.2⟩
    · skip
      have hP : va_P (gD g) vwCl [(ho, .inr (4, [.ref hi, .ref he, .int (nI op)])), (he, .inr (3, [.int (nI 4096), .ref qe, .int (nI se)])), (qe, .inl (gB g, ne, .inl fe)), (hi, .inr (3, [.int (nI 65535), .ref qi, .int (nI si)])), (qi, .inl (gB g, ni, .inl fi))] H := hP
      have hD : va_D A [(ho, .inr (4, [.ref hi, .ref he, .int (nI op)])), (he, .inr (3, [.int (nI 4096), .ref qe, .int (nI se)])), (qe, .inl (gB g, ne, .inl fe)), (hi, .inr (3, [.int (nI 65535), .ref qi, .int (nI si)])), (qi, .inl (gB g, ni, .inl fi))] := hD
      have hj_5 : (nI 4) = nI j_5 := hj_5
      have hj2_5 : j_5 < si := hj2_5
      refine W.eq (g2 := F0 m 8 ls [.int (fi j_5 &&& 255)]) rfl ?_
      refine lv_bipush (v := nI 8) hx hb dX6_openImage_8 (by decide) ?_
      refine q_ishl (v := (fi j_5 &&& 255) <<< (nI 8 &&& 31)) hx hb dX6_openImage_10 (rfl) ?_
      refine lv_aload_n hx hb dX6_openImage_11 rfl (lv_at hl 0 rfl) ?_
      refine va_get (D := gD g) (ci := 4) (v := .ref hi) (C := RX6) (T := TX6) (N := 3) hx hb hts hinX6 hown hK hP 0 rfl rfl 0 (by decide) hf15 (fun _ h9 => h9) rfl dX6_openImage_12 ?_
      refine lv_iconst (v := nI 5) hx hb dX6_openImage_15 (by decide) ?_
      refine ct_callV (wr := [(ho, .inr (4, [.ref hi, .ref he, .int (nI op)])), (he, .inr (3, [.int (nI 4096), .ref qe, .int (nI se)])), (qe, .inl (gB g, ne, .inl fe))]) hx hb hml hown hts hK hP hD hS hA hG hl.1 (c_getOut l g hi qi 65535 ni si fi 5 (by omega) (by omega) (by omega) (by omega)) (cwV 1 hts gX6_openImage_X4_get rfl rfl rfl (by decide +kernel) ⟨Nat.le_of_ble_eq_true rfl, Nat.le_of_ble_eq_true rfl⟩) (va_recv hK hP (ci := 3) (q0 := 3) rfl rfl) rfl rfl (Nat.le_of_ble_eq_true rfl) dX6_openImage_16 ⟨show 0 + 0 ≤ 1 by omega, show 0 + 0 ≤ 4096 by omega⟩ [3, 4] [0, 1, 2] rfl rfl (by decide) (by decide) (by decide) (fun r_ w_ H locs hp_ hP hD hS => ?_)
      obtain ⟨rfl, rfl⟩ := hp_
      have hP : va_P (gD g) vwCl [(ho, .inr (4, [.ref hi, .ref he, .int (nI op)])), (he, .inr (3, [.int (nI 4096), .ref qe, .int (nI se)])), (qe, .inl (gB g, ne, .inl fe)), (hi, .inr (3, [.int (nI 65535), .ref qi, .int (nI si)])), (qi, .inl (gB g, ni, .inl fi))] H := hP
      have hD : va_D A [(ho, .inr (4, [.ref hi, .ref he, .int (nI op)])), (he, .inr (3, [.int (nI 4096), .ref qe, .int (nI se)])), (qe, .inl (gB g, ne, .inl fe)), (hi, .inr (3, [.int (nI 65535), .ref qi, .int (nI si)])), (qi, .inl (gB g, ni, .inl fi))] := hD
      refine W.eq (g2 := F0 m 19 ls [.int (-1), .int ((fi j_5 &&& 255) <<< (nI 8 &&& 31))]) rfl ?_
      refine q_ior (v := -1) hx hb dX6_openImage_19 (or_m1 _) ?_
      refine lv_istore_n (lv' := [(1, .int (-1)), (0, .ref ho)]) hx hb dX6_openImage_20 rfl hl (by decide) rfl (fun ls hl => ?_)
      refine lv_aload_n hx hb dX6_openImage_21 rfl (lv_at hl 1 rfl) ?_
      refine lv_iload_n hx hb dX6_openImage_22 rfl (lv_at hl 0 rfl) ?_
      refine ct_callV (wr := [(he, .inr (3, [.int (nI 4096), .ref qe, .int (nI se)])), (qe, .inl (gB g, ne, .inl fe))]) hx hb hml hown hts hK hP hD hS hA hG hl.1 (c_isRightN l g ho hi he op qi ni si fi (by omega) (by omega)) (cwV 1 hts gX6_openImage_X6_isRight rfl rfl rfl (by decide +kernel) ⟨Nat.le_of_ble_eq_true rfl, Nat.le_of_ble_eq_true rfl⟩) (va_recv hK hP (ci := 4) (q0 := 0) rfl rfl) rfl rfl (Nat.le_of_ble_eq_true rfl) dX6_openImage_23 ⟨show 0 + 0 ≤ 1 by omega, show 0 + 0 ≤ 4096 by omega⟩ [0, 3, 4] [1, 2] rfl rfl (by decide) (by decide) (by decide) (fun r_ w_ H locs hp_ hP hD hS => ?_)
      obtain ⟨rfl, rfl⟩ := hp_
      have hP : va_P (gD g) vwCl [(he, .inr (3, [.int (nI 4096), .ref qe, .int (nI se)])), (qe, .inl (gB g, ne, .inl fe)), (ho, .inr (4, [.ref hi, .ref he, .int (nI op)])), (hi, .inr (3, [.int (nI 65535), .ref qi, .int (nI si)])), (qi, .inl (gB g, ni, .inl fi))] H := hP
      have hD : va_D A [(he, .inr (3, [.int (nI 4096), .ref qe, .int (nI se)])), (qe, .inl (gB g, ne, .inl fe)), (ho, .inr (4, [.ref hi, .ref he, .int (nI op)])), (hi, .inr (3, [.int (nI 65535), .ref qi, .int (nI si)])), (qi, .inl (gB g, ni, .inl fi))] := hD
      refine W.eq (g2 := F0 m 26 ls [.int (nI 0)]) rfl ?_
      refine lv_if_ne (tgt := 31) hx hb dX6_openImage_26 (by decide) (fun c26 => absurd (by decide) c26) (fun _ => ?_)
      refine lv_iconst (v := (-1)) hx hb dX6_openImage_29 (by decide) ?_
      refine ct_iret (w := [(ho, .inr (4, [.ref hi, .ref he, .int (nI op)])), (hi, .inr (3, [.int (nI 65535), .ref qi, .int (nI si)])), (qi, .inl (gB g, ni, .inl fi)), (he, .inr (3, [.int (nI 4096), .ref qe, .int (nI se)])), (qe, .inl (gB g, ne, .inl fe))]) hx hb hr rfl hlocks hQ hAe hK (hP.sub [2, 3, 4, 0, 1] rfl) (hD.sub [2, 3, 4, 0, 1] (by decide) rfl) hS (by omega) (by omega) dX6_openImage_30 ?_
      refine Or.inl (?_)
      exact ⟨rfl, (by first | rfl | simp only [Nat.zero_add]), by first | exact fun z => absurd z.1 (by omega) | exact fun z => hF_23 z.2⟩

set_option maxHeartbeats 4000000 in
set_option maxRecDepth 100000 in
theorem c_replaceImage (l : Launch) (g : GT) (ho : Nat) (hi : Nat) (he : Nat) (op : Nat) (qi : Nat) (ni : Nat) (si : Nat) (fi : Nat → Int32) (qe : Nat) (ne : Nat) (se : Nat) (fe : Nat → Int32) (ht : Nat) (qt : Nat) (lt : Nat) (nt : Nat) (st : Nat) (ft0 : Nat → Int32) (hi1 : si ≤ ni) (hi2 : ni ≤ 65535) (he1 : se ≤ ne) (he2 : ne ≤ 4096) (ht1 : st ≤ nt) (ht2 : nt < 2 ^ 27) (hfi : sb_Fit fi) (hfe : sb_Fit fe) (hft : sb_Fit ft0) (hst : st ≤ 65535) : CT l g yX6_replaceImage wsX6_replaceImage ({ frames := 3, cells := gcN ni st, slots := gsN 65535 ni st, locals := 86 } : Room) [.ref ho, .ref ht] [(ho, .inr (4, [.ref hi, .ref he, .int (nI op)])), (hi, .inr (3, [.int (nI 65535), .ref qi, .int (nI si)])), (qi, .inl (gB g, ni, .inl fi)), (he, .inr (3, [.int (nI 4096), .ref qe, .int (nI se)])), (qe, .inl (gB g, ne, .inl fe)), (ht, .inr (3, [.int (nI lt), .ref qt, .int (nI st)])), (qt, .inl (gB g, nt, .inl ft0))] (fun r w => (∃ (q1 : Nat) (n1 : Nat) (f1 : Nat → Int32), r = none ∧ w = [(ho, .inr (4, [.ref hi, .ref he, .int (nI 0)])), (hi, .inr (3, [.int (nI 65535), .ref q1, .int (nI st)])), (q1, .inl (gB g, n1, .inl f1)), (he, .inr (3, [.int (nI 4096), .ref qe, .int (nI 0)])), (qe, .inl (gB g, ne, .inl fe)), (ht, .inr (3, [.int (nI lt), .ref qt, .int (nI st)])), (qt, .inl (gB g, nt, .inl ft0))] ∧ (n1 = cpN 65535 ni st) ∧ (∀ j, j < st → f1 j = ft0 j) ∧ (sb_Fit f1))) (gcN ni st) (gsN 65535 ni st) := by
  refine ct_of (cc := cX6_replaceImage) (maxL := 2) (ret := none) (by decide) rfl (Nat.le_of_ble_eq_true rfl) ?_
  intro p e s m args below meth c A Q hx hb hr hml hown hts hlocks hnam hAe hQ hA hG hK hP hD hS ls hl
  have hl : lv_has ls 2 [(0, .ref ho), (1, .ref ht)] := hl
  have hown : s.vm.findClass RX6 = some m.cls := hown
  have hinX6 : ∀ w ∈ u_ws RX6 TX6 3, w ∈ wsX6_replaceImage := by decide +kernel
  have hf15 := hts (.fieldLink RX6 15 "RequestReader$Store" "image" "LRequestReader$Row;") (by decide +kernel)
  have hf21 := hts (.fieldLink RX6 21 "RequestReader$Store" "entries" "LRequestReader$Row;") (by decide +kernel)
  have hf24 := hts (.fieldLink RX6 24 "RequestReader$Store" "isOpen" "Z") (by decide +kernel)
  refine lv_aload_n hx hb dX6_replaceImage_0 rfl (lv_at hl 0 rfl) ?_
  refine va_get (D := gD g) (ci := 4) (v := .ref hi) (C := RX6) (T := TX6) (N := 3) hx hb hts hinX6 hown hK hP 0 rfl rfl 0 (by decide) hf15 (fun _ h9 => h9) rfl dX6_replaceImage_1 ?_
  refine lv_iconst (v := nI 0) hx hb dX6_replaceImage_4 (by decide) ?_
  refine ct_callV (wr := [(ho, .inr (4, [.ref hi, .ref he, .int (nI op)])), (he, .inr (3, [.int (nI 4096), .ref qe, .int (nI se)])), (qe, .inl (gB g, ne, .inl fe)), (ht, .inr (3, [.int (nI lt), .ref qt, .int (nI st)])), (qt, .inl (gB g, nt, .inl ft0))]) hx hb hml hown hts hK hP hD hS hA hG hl.1 (c_cut0 l g hi qi 65535 ni si fi (by omega) (by omega)) (cwV 1 hts gX6_replaceImage_X4_cutTo rfl rfl rfl (by decide +kernel) ⟨Nat.le_of_ble_eq_true rfl, Nat.le_of_ble_eq_true rfl⟩) (va_recv hK hP (ci := 3) (q0 := 1) rfl rfl) rfl rfl (Nat.le_of_ble_eq_true rfl) dX6_replaceImage_5 ⟨show 0 + 0 ≤ gcN ni st by first | omega | (simp only [Nat.zero_add]; omega), show 0 + 0 ≤ gsN 65535 ni st by first | omega | (simp only [Nat.zero_add]; omega)⟩ [1, 2] [0, 3, 4, 5, 6] rfl rfl (by decide) (by decide) (by decide) (fun r_ w_ H locs hp_ hP hD hS => ?_)
  obtain ⟨rfl, rfl⟩ := hp_
  have hP : va_P (gD g) vwCl [(ho, .inr (4, [.ref hi, .ref he, .int (nI op)])), (he, .inr (3, [.int (nI 4096), .ref qe, .int (nI se)])), (qe, .inl (gB g, ne, .inl fe)), (ht, .inr (3, [.int (nI lt), .ref qt, .int (nI st)])), (qt, .inl (gB g, nt, .inl ft0)), (hi, .inr (3, [.int (nI 65535), .ref qi, .int (nI 0)])), (qi, .inl (gB g, ni, .inl fi))] H := hP
  have hD : va_D A [(ho, .inr (4, [.ref hi, .ref he, .int (nI op)])), (he, .inr (3, [.int (nI 4096), .ref qe, .int (nI se)])), (qe, .inl (gB g, ne, .inl fe)), (ht, .inr (3, [.int (nI lt), .ref qt, .int (nI st)])), (qt, .inl (gB g, nt, .inl ft0)), (hi, .inr (3, [.int (nI 65535), .ref qi, .int (nI 0)])), (qi, .inl (gB g, ni, .inl fi))] := hD
  refine W.eq (g2 := F0 m 8 ls []) rfl ?_
  refine lv_aload_n hx hb dX6_replaceImage_8 rfl (lv_at hl 0 rfl) ?_
  refine va_get (D := gD g) (ci := 4) (v := .ref hi) (C := RX6) (T := TX6) (N := 3) hx hb hts hinX6 hown hK hP 0 rfl rfl 0 (by decide) hf15 (fun _ h9 => h9) rfl dX6_replaceImage_9 ?_
  refine lv_aload_n hx hb dX6_replaceImage_12 rfl (lv_at hl 1 rfl) ?_
  refine lv_iconst (v := nI 0) hx hb dX6_replaceImage_13 (by decide) ?_
  refine lv_aload_n hx hb dX6_replaceImage_14 rfl (lv_at hl 1 rfl) ?_
  refine ct_callV (wr := [(ho, .inr (4, [.ref hi, .ref he, .int (nI op)])), (he, .inr (3, [.int (nI 4096), .ref qe, .int (nI se)])), (qe, .inl (gB g, ne, .inl fe)), (hi, .inr (3, [.int (nI 65535), .ref qi, .int (nI 0)])), (qi, .inl (gB g, ni, .inl fi))]) hx hb hml hown hts hK hP hD hS hA hG hl.1 (c_count l g ht qt lt nt st ft0 ) (cwV 0 hts gX6_replaceImage_X4_count rfl rfl rfl (by decide +kernel) ⟨Nat.le_of_ble_eq_true rfl, Nat.le_of_ble_eq_true rfl⟩) (va_recv hK hP (ci := 3) (q0 := 3) rfl rfl) rfl rfl (Nat.le_of_ble_eq_true rfl) dX6_replaceImage_15 ⟨show 0 + 0 ≤ gcN ni st by first | omega | (simp only [Nat.zero_add]; omega), show 0 + 0 ≤ gsN 65535 ni st by first | omega | (simp only [Nat.zero_add]; omega)⟩ [3, 4] [0, 1, 2, 5, 6] rfl rfl (by decide) (by decide) (by decide) (fun r_ w_ H locs hp_ hP hD hS => ?_)
  obtain ⟨rfl, rfl⟩ := hp_
  have hP : va_P (gD g) vwCl [(ho, .inr (4, [.ref hi, .ref he, .int (nI op)])), (he, .inr (3, [.int (nI 4096), .ref qe, .int (nI se)])), (qe, .inl (gB g, ne, .inl fe)), (hi, .inr (3, [.int (nI 65535), .ref qi, .int (nI 0)])), (qi, .inl (gB g, ni, .inl fi)), (ht, .inr (3, [.int (nI lt), .ref qt, .int (nI st)])), (qt, .inl (gB g, nt, .inl ft0))] H := hP
  have hD : va_D A [(ho, .inr (4, [.ref hi, .ref he, .int (nI op)])), (he, .inr (3, [.int (nI 4096), .ref qe, .int (nI se)])), (qe, .inl (gB g, ne, .inl fe)), (hi, .inr (3, [.int (nI 65535), .ref qi, .int (nI 0)])), (qi, .inl (gB g, ni, .inl fi)), (ht, .inr (3, [.int (nI lt), .ref qt, .int (nI st)])), (qt, .inl (gB g, nt, .inl ft0))] := hD
  refine W.eq (g2 := F0 m 18 ls [.int (nI st), .int (nI 0), .ref ht, .ref hi]) rfl ?_
  refine ct_callV (wr := [(ho, .inr (4, [.ref hi, .ref he, .int (nI op)])), (he, .inr (3, [.int (nI 4096), .ref qe, .int (nI se)])), (qe, .inl (gB g, ne, .inl fe))]) hx hb hml hown hts hK hP hD hS hA hG hl.1 (c_addRange l g hi qi 65535 ni 0 fi ht qt lt nt st ft0 0 st (by omega) (by omega) (by omega) (by omega) (by assumption) (by omega) (by omega) (by omega) (by assumption) (by omega)) (cwV 3 hts gX6_replaceImage_X4_addRange rfl rfl rfl (by decide +kernel) ⟨Nat.le_of_ble_eq_true rfl, Nat.le_of_ble_eq_true rfl⟩) (va_recv hK hP (ci := 3) (q0 := 3) rfl rfl) rfl rfl (Nat.le_of_ble_eq_true rfl) dX6_replaceImage_18 ⟨show 0 + (gcN ni (0 + st)) ≤ gcN ni st by first | omega | (simp only [Nat.zero_add]; omega), show 0 + (gsN 65535 ni (0 + st)) ≤ gsN 65535 ni st by first | omega | (simp only [Nat.zero_add]; omega)⟩ [3, 4, 5, 6] [0, 1, 2] rfl rfl (by decide) (by decide) (by decide) (fun r_ w_ H locs hp_ hP hD hS => ?_)
  obtain ⟨q1_18, n1_18, f1_18, rfl, rfl, en_18, ef_18, ec_18, ft_18⟩ := hp_
  have hP : va_P (gD g) vwCl [(ho, .inr (4, [.ref hi, .ref he, .int (nI op)])), (he, .inr (3, [.int (nI 4096), .ref qe, .int (nI se)])), (qe, .inl (gB g, ne, .inl fe)), (hi, .inr (3, [.int (nI 65535), .ref q1_18, .int (nI (0 + st))])), (q1_18, .inl (gB g, n1_18, .inl f1_18)), (ht, .inr (3, [.int (nI lt), .ref qt, .int (nI st)])), (qt, .inl (gB g, nt, .inl ft0))] H := hP
  have hD : va_D A [(ho, .inr (4, [.ref hi, .ref he, .int (nI op)])), (he, .inr (3, [.int (nI 4096), .ref qe, .int (nI se)])), (qe, .inl (gB g, ne, .inl fe)), (hi, .inr (3, [.int (nI 65535), .ref q1_18, .int (nI (0 + st))])), (q1_18, .inl (gB g, n1_18, .inl f1_18)), (ht, .inr (3, [.int (nI lt), .ref qt, .int (nI st)])), (qt, .inl (gB g, nt, .inl ft0))] := hD
  have en_18 : n1_18 = cpN 65535 ni (0 + st) := en_18
  have ef_18 : ∀ j, j < 0 → f1_18 j = fi j := ef_18
  have ec_18 : ∀ j, j < st → f1_18 (0 + j) = ft0 (0 + j) := ec_18
  have ft_18 : sb_Fit f1_18 := ft_18
  refine W.widen (k := gcN ni (0 + st)) (n := gsN 65535 ni (0 + st)) (by omega) (by omega) ?_
  refine W.eq (g2 := F0 m 21 ls []) rfl ?_
  refine lv_aload_n hx hb dX6_replaceImage_21 rfl (lv_at hl 0 rfl) ?_
  refine va_get (D := gD g) (ci := 4) (v := .ref he) (C := RX6) (T := TX6) (N := 3) hx hb hts hinX6 hown hK hP 0 rfl rfl 1 (by decide) hf21 (fun _ h9 => h9) rfl dX6_replaceImage_22 ?_
  refine lv_iconst (v := nI 0) hx hb dX6_replaceImage_25 (by decide) ?_
  refine ct_callV (wr := [(ho, .inr (4, [.ref hi, .ref he, .int (nI op)])), (hi, .inr (3, [.int (nI 65535), .ref q1_18, .int (nI (0 + st))])), (q1_18, .inl (gB g, n1_18, .inl f1_18)), (ht, .inr (3, [.int (nI lt), .ref qt, .int (nI st)])), (qt, .inl (gB g, nt, .inl ft0))]) hx hb hml hown hts hK hP hD hS hA hG hl.1 (c_cut0 l g he qe 4096 ne se fe (by omega) (by omega)) (cwV 1 hts gX6_replaceImage_X4_cutTo rfl rfl rfl (by decide +kernel) ⟨Nat.le_of_ble_eq_true rfl, Nat.le_of_ble_eq_true rfl⟩) (va_recv hK hP (ci := 3) (q0 := 1) rfl rfl) rfl rfl (Nat.le_of_ble_eq_true rfl) dX6_replaceImage_26 ⟨show gcN ni (0 + st) + 0 ≤ gcN ni st by first | omega | (simp only [Nat.zero_add]; omega), show gsN 65535 ni (0 + st) + 0 ≤ gsN 65535 ni st by first | omega | (simp only [Nat.zero_add]; omega)⟩ [1, 2] [0, 3, 4, 5, 6] rfl rfl (by decide) (by decide) (by decide) (fun r_ w_ H locs hp_ hP hD hS => ?_)
  obtain ⟨rfl, rfl⟩ := hp_
  have hP : va_P (gD g) vwCl [(ho, .inr (4, [.ref hi, .ref he, .int (nI op)])), (hi, .inr (3, [.int (nI 65535), .ref q1_18, .int (nI (0 + st))])), (q1_18, .inl (gB g, n1_18, .inl f1_18)), (ht, .inr (3, [.int (nI lt), .ref qt, .int (nI st)])), (qt, .inl (gB g, nt, .inl ft0)), (he, .inr (3, [.int (nI 4096), .ref qe, .int (nI 0)])), (qe, .inl (gB g, ne, .inl fe))] H := hP
  have hD : va_D A [(ho, .inr (4, [.ref hi, .ref he, .int (nI op)])), (hi, .inr (3, [.int (nI 65535), .ref q1_18, .int (nI (0 + st))])), (q1_18, .inl (gB g, n1_18, .inl f1_18)), (ht, .inr (3, [.int (nI lt), .ref qt, .int (nI st)])), (qt, .inl (gB g, nt, .inl ft0)), (he, .inr (3, [.int (nI 4096), .ref qe, .int (nI 0)])), (qe, .inl (gB g, ne, .inl fe))] := hD
  refine W.eq (g2 := F0 m 29 ls []) rfl ?_
  refine lv_aload_n hx hb dX6_replaceImage_29 rfl (lv_at hl 0 rfl) ?_
  refine lv_iconst (v := nI 0) hx hb dX6_replaceImage_30 (by decide) ?_
  refine va_put (D := gD g) (ci := 4) (v := .int (nI 0)) (ty := .boolean) (C := RX6) (T := TX6) (N := 3) hx hb hts hinX6 tyX6 tyX6_ok nmX6 hown hK hP hD hS 0 rfl rfl 2 (by decide) hf24 (fun _ h9 => h9) rfl (by decide +kernel) rfl rfl (Nat.le_of_ble_eq_true rfl) dX6_replaceImage_31 (fun H locs hP hD hS => ?_)
  have hP : va_P (gD g) vwCl [(ho, .inr (4, [.ref hi, .ref he, .int (nI 0)])), (hi, .inr (3, [.int (nI 65535), .ref q1_18, .int (nI (0 + st))])), (q1_18, .inl (gB g, n1_18, .inl f1_18)), (ht, .inr (3, [.int (nI lt), .ref qt, .int (nI st)])), (qt, .inl (gB g, nt, .inl ft0)), (he, .inr (3, [.int (nI 4096), .ref qe, .int (nI 0)])), (qe, .inl (gB g, ne, .inl fe))] H := hP
  have hD : va_D A [(ho, .inr (4, [.ref hi, .ref he, .int (nI 0)])), (hi, .inr (3, [.int (nI 65535), .ref q1_18, .int (nI (0 + st))])), (q1_18, .inl (gB g, n1_18, .inl f1_18)), (ht, .inr (3, [.int (nI lt), .ref qt, .int (nI st)])), (qt, .inl (gB g, nt, .inl ft0)), (he, .inr (3, [.int (nI 4096), .ref qe, .int (nI 0)])), (qe, .inl (gB g, ne, .inl fe))] := hD
  refine ct_vret (w := [(ho, .inr (4, [.ref hi, .ref he, .int (nI 0)])), (hi, .inr (3, [.int (nI 65535), .ref q1_18, .int (nI (0 + st))])), (q1_18, .inl (gB g, n1_18, .inl f1_18)), (he, .inr (3, [.int (nI 4096), .ref qe, .int (nI 0)])), (qe, .inl (gB g, ne, .inl fe)), (ht, .inr (3, [.int (nI lt), .ref qt, .int (nI st)])), (qt, .inl (gB g, nt, .inl ft0))]) hx hb hr hlocks hQ hAe hK (hP.sub [0, 1, 2, 5, 6, 3, 4] rfl) (hD.sub [0, 1, 2, 5, 6, 3, 4] (by decide) rfl) hS (by first | omega | (simp only [Nat.zero_add]; omega)) (by first | omega | (simp only [Nat.zero_add]; omega)) dX6_replaceImage_34 ?_
  exact ⟨q1_18, n1_18, f1_18, rfl, (by first | rfl | simp only [Nat.zero_add]), by rw [en_18, Nat.zero_add], by exact fun j hj => (by simpa only [Nat.zero_add] using ec_18 j hj), by assumption⟩

set_option maxHeartbeats 4000000 in
set_option maxRecDepth 100000 in
theorem c_isNamed (l : Launch) (g : GT) (ho : Nat) (hi : Nat) (he : Nat) (op : Nat) (qe : Nat) (ne : Nat) (se : Nat) (fe : Nat → Int32) (hn : Nat) (qn : Nat) (ln : Nat) (nn : Nat) (sn : Nat) (fn : Nat → Int32) (t : Nat) (he1 : se ≤ ne) (he2 : ne ≤ 4096) (hn1 : sn ≤ nn) (hn2 : nn < 2 ^ 27) (hts2 : t * 64 + 64 ≤ se) : CT l g yX6_isNamed wsX6_isNamed ({ frames := 1, cells := 0, slots := 0, locals := 21 } : Room) [.ref ho, .int (nI t), .ref hn] [(ho, .inr (4, [.ref hi, .ref he, .int (nI op)])), (he, .inr (3, [.int (nI 4096), .ref qe, .int (nI se)])), (qe, .inl (gB g, ne, .inl fe)), (hn, .inr (3, [.int (nI ln), .ref qn, .int (nI sn)])), (qn, .inl (gB g, nn, .inl fn))] (fun r w => (r = some (.int (nI 1)) ∧ w = [(ho, .inr (4, [.ref hi, .ref he, .int (nI op)])), (he, .inr (3, [.int (nI 4096), .ref qe, .int (nI se)])), (qe, .inl (gB g, ne, .inl fe)), (hn, .inr (3, [.int (nI ln), .ref qn, .int (nI sn)])), (qn, .inl (gB g, nn, .inl fn))] ∧ (pNamed fe t fn sn)) ∨ (r = some (.int (nI 0)) ∧ w = [(ho, .inr (4, [.ref hi, .ref he, .int (nI op)])), (he, .inr (3, [.int (nI 4096), .ref qe, .int (nI se)])), (qe, .inl (gB g, ne, .inl fe)), (hn, .inr (3, [.int (nI ln), .ref qn, .int (nI sn)])), (qn, .inl (gB g, nn, .inl fn))] ∧ (¬ (pNamed fe t fn sn)))) (0) (0) := by
  refine ct_of (cc := cX6_isNamed) (maxL := 6) (ret := (some .boolean)) (by decide) rfl (Nat.le_of_ble_eq_true rfl) ?_
  intro p e s m args below meth c A Q hx hb hr hml hown hts hlocks hnam hAe hQ hA hG hK hP hD hS ls hl
  have hl : lv_has ls 6 [(0, .ref ho), (1, .int (nI t)), (2, .ref hn)] := hl
  have hown : s.vm.findClass RX6 = some m.cls := hown
  have hinX6 : ∀ w ∈ u_ws RX6 TX6 3, w ∈ wsX6_isNamed := by decide +kernel
  have hf21 := hts (.fieldLink RX6 21 "RequestReader$Store" "entries" "LRequestReader$Row;") (by decide +kernel)
  refine lv_iconst (v := nI 1) hx hb dX6_isNamed_0 (by decide) ?_
  refine lv_istore_n (lv' := [(3, .int (nI 1)), (0, .ref ho), (1, .int (nI t)), (2, .ref hn)]) hx hb dX6_isNamed_1 rfl hl (by decide) rfl (fun ls hl => ?_)
  refine lv_iconst (v := nI 0) hx hb dX6_isNamed_2 (by decide) ?_
  refine lv_istore (lv' := [(4, .int (nI 0)), (3, .int (nI 1)), (0, .ref ho), (1, .int (nI t)), (2, .ref hn)]) hx hb dX6_isNamed_3 hl (by decide) rfl (fun ls hl => ?_)
  have K5 : ∀ (N_ : Nat) (i : Nat), (i ≤ 48) → (∀ j, j < i → fe (t * 64 + j) &&& 255 = if j < sn then fn j &&& 255 else nI 0) → (48 - i) < N_ → ∀ (H : Heap) (locs : List Loc) (ls : Array Slot), va_P (gD g) vwCl [(ho, .inr (4, [.ref hi, .ref he, .int (nI op)])), (he, .inr (3, [.int (nI 4096), .ref qe, .int (nI se)])), (qe, .inl (gB g, ne, .inl fe)), (hn, .inr (3, [.int (nI ln), .ref qn, .int (nI sn)])), (qn, .inl (gB g, nn, .inl fn))] H → va_D A [(ho, .inr (4, [.ref hi, .ref he, .int (nI op)])), (he, .inr (3, [.int (nI 4096), .ref qe, .int (nI se)])), (qe, .inl (gB g, ne, .inl fe)), (hn, .inr (3, [.int (nI ln), .ref qn, .int (nI sn)])), (qn, .inl (gB g, nn, .inl fn))] → va_S A s.heap H locs → lv_has ls 6 [(0, .ref ho), (1, .int (nI t)), (2, .ref hn), (3, .int (nI 1)), (4, .int (nI i))] → W p l e ({ frames := 1, cells := 0, slots := 0, locals := 21 } : Room) s m args below meth c H locs (0) (0) Q (F0 m 5 ls []) := by
    intro N_
    induction N_ with
    | zero => intro i hi4 hall hm_; exact absurd hm_ (Nat.not_lt_zero _)
    | succ N_ ih_K5 =>
      intro i hi4 hall hm_ H locs ls hP hD hS hl
      refine lv_iload_n hx hb dX6_isNamed_5 rfl (lv_at hl 3 rfl) ?_
      refine lv_if_eq (tgt := 68) hx hb dX6_isNamed_6 (by decide) (fun c6 => absurd c6 (by decide)) (fun _ => ?_)
      refine lv_iload hx hb dX6_isNamed_9 (lv_at hl 4 rfl) ?_
      refine lv_bipush (v := nI 48) hx hb dX6_isNamed_11 (by decide) ?_
      refine lv_icmp_ge (tgt := 68) hx hb dX6_isNamed_13 (by decide) (fun c13 => ?_) (fun c13 => ?_)
      · skip
        have c13 : 48 ≤ i := (nI_leI (a := 48) (b := i) (by omega) (by omega)).mp c13
        refine lv_iload_n hx hb dX6_isNamed_68 rfl (lv_at hl 3 rfl) ?_
        refine ct_iret (w := [(ho, .inr (4, [.ref hi, .ref he, .int (nI op)])), (he, .inr (3, [.int (nI 4096), .ref qe, .int (nI se)])), (qe, .inl (gB g, ne, .inl fe)), (hn, .inr (3, [.int (nI ln), .ref qn, .int (nI sn)])), (qn, .inl (gB g, nn, .inl fn))]) hx hb hr rfl hlocks hQ hAe hK (hP.sub [0, 1, 2, 3, 4] rfl) (hD.sub [0, 1, 2, 3, 4] (by decide) rfl) hS (by omega) (by omega) dX6_isNamed_69 ?_
        refine Or.inl (?_)
        exact ⟨rfl, rfl, by exact fun j hj => hall j (by omega)⟩
      · skip
        have c13 : ¬ (48 ≤ i) := fun z => c13 ((nI_leI (a := 48) (b := i) (by omega) (by omega)).mpr z)
        refine lv_iload hx hb dX6_isNamed_16 (lv_at hl 4 rfl) ?_
        refine lv_aload_n hx hb dX6_isNamed_18 rfl (lv_at hl 2 rfl) ?_
        refine ct_callV (wr := [(ho, .inr (4, [.ref hi, .ref he, .int (nI op)])), (he, .inr (3, [.int (nI 4096), .ref qe, .int (nI se)])), (qe, .inl (gB g, ne, .inl fe))]) hx hb hml hown hts hK hP hD hS hA hG hl.1 (c_count l g hn qn ln nn sn fn ) (cwV 0 hts gX6_isNamed_X4_count rfl rfl rfl (by decide +kernel) ⟨Nat.le_of_ble_eq_true rfl, Nat.le_of_ble_eq_true rfl⟩) (va_recv hK hP (ci := 3) (q0 := 3) rfl rfl) rfl rfl (Nat.le_of_ble_eq_true rfl) dX6_isNamed_19 ⟨show 0 + 0 ≤ 0 by omega, show 0 + 0 ≤ 0 by omega⟩ [3, 4] [0, 1, 2] rfl rfl (by decide) (by decide) (by decide) (fun r_ w_ H locs hp_ hP hD hS => ?_)
        obtain ⟨rfl, rfl⟩ := hp_
        have hP : va_P (gD g) vwCl [(ho, .inr (4, [.ref hi, .ref he, .int (nI op)])), (he, .inr (3, [.int (nI 4096), .ref qe, .int (nI se)])), (qe, .inl (gB g, ne, .inl fe)), (hn, .inr (3, [.int (nI ln), .ref qn, .int (nI sn)])), (qn, .inl (gB g, nn, .inl fn))] H := hP
        have hD : va_D A [(ho, .inr (4, [.ref hi, .ref he, .int (nI op)])), (he, .inr (3, [.int (nI 4096), .ref qe, .int (nI se)])), (qe, .inl (gB g, ne, .inl fe)), (hn, .inr (3, [.int (nI ln), .ref qn, .int (nI sn)])), (qn, .inl (gB g, nn, .inl fn))] := hD
        refine W.eq (g2 := F0 m 22 ls [.int (nI sn), .int (nI i)]) rfl ?_
        refine lv_icmp_ge (tgt := 34) hx hb dX6_isNamed_22 (by decide) (fun c22 => ?_) (fun c22 => ?_)
        · skip
          have c22 : sn ≤ i := (nI_leI (a := sn) (b := i) (by omega) (by omega)).mp c22
          refine lv_iconst (v := nI 0) hx hb dX6_isNamed_34 (by decide) ?_
          refine lv_istore (lv' := [(5, .int (nI 0)), (0, .ref ho), (1, .int (nI t)), (2, .ref hn), (3, .int (nI 1)), (4, .int (nI i))]) hx hb dX6_isNamed_35 hl (by decide) rfl (fun ls hl => ?_)
          refine lv_aload_n hx hb dX6_isNamed_37 rfl (lv_at hl 1 rfl) ?_
          refine va_get (D := gD g) (ci := 4) (v := .ref he) (C := RX6) (T := TX6) (N := 3) hx hb hts hinX6 hown hK hP 0 rfl rfl 1 (by decide) hf21 (fun _ h9 => h9) rfl dX6_isNamed_38 ?_
          refine lv_iload_n hx hb dX6_isNamed_41 rfl (lv_at hl 2 rfl) ?_
          refine lv_bipush (v := nI 64) hx hb dX6_isNamed_42 (by decide) ?_
          refine q_imul (v := nI (t * 64)) hx hb dX6_isNamed_44 (pk_mul t 64) ?_
          refine lv_iload hx hb dX6_isNamed_45 (lv_at hl 5 rfl) ?_
          refine q_iadd (v := nI (t * 64 + i)) hx hb dX6_isNamed_47 (nI_add (t * 64) i) ?_
          refine ct_callV (wr := [(ho, .inr (4, [.ref hi, .ref he, .int (nI op)])), (hn, .inr (3, [.int (nI ln), .ref qn, .int (nI sn)])), (qn, .inl (gB g, nn, .inl fn))]) hx hb hml hown hts hK hP hD hS hA hG hl.1 (c_getIn l g he qe 4096 ne se fe (t * 64 + i) (by omega) (by omega) (by omega)) (cwV 1 hts gX6_isNamed_X4_get rfl rfl rfl (by decide +kernel) ⟨Nat.le_of_ble_eq_true rfl, Nat.le_of_ble_eq_true rfl⟩) (va_recv hK hP (ci := 3) (q0 := 1) rfl rfl) rfl rfl (Nat.le_of_ble_eq_true rfl) dX6_isNamed_48 ⟨show 0 + 0 ≤ 0 by omega, show 0 + 0 ≤ 0 by omega⟩ [1, 2] [0, 3, 4] rfl rfl (by decide) (by decide) (by decide) (fun r_ w_ H locs hp_ hP hD hS => ?_)
          obtain ⟨rfl, rfl⟩ := hp_
          have hP : va_P (gD g) vwCl [(ho, .inr (4, [.ref hi, .ref he, .int (nI op)])), (hn, .inr (3, [.int (nI ln), .ref qn, .int (nI sn)])), (qn, .inl (gB g, nn, .inl fn)), (he, .inr (3, [.int (nI 4096), .ref qe, .int (nI se)])), (qe, .inl (gB g, ne, .inl fe))] H := hP
          have hD : va_D A [(ho, .inr (4, [.ref hi, .ref he, .int (nI op)])), (hn, .inr (3, [.int (nI ln), .ref qn, .int (nI sn)])), (qn, .inl (gB g, nn, .inl fn)), (he, .inr (3, [.int (nI 4096), .ref qe, .int (nI se)])), (qe, .inl (gB g, ne, .inl fe))] := hD
          refine W.eq (g2 := F0 m 51 ls [.int (fe (t * 64 + i) &&& 255)]) rfl ?_
          refine lv_iload hx hb dX6_isNamed_51 (lv_at hl 0 rfl) ?_
          refine lv_icmp_ne (tgt := 60) hx hb dX6_isNamed_53 (by decide) (fun c53 => ?_) (fun c53 => ?_)
          · skip
            refine lv_iconst (v := nI 0) hx hb dX6_isNamed_60 (by decide) ?_
            refine lv_istore_n (lv' := [(3, .int (nI 0)), (5, .int (nI 0)), (0, .ref ho), (1, .int (nI t)), (2, .ref hn), (4, .int (nI i))]) hx hb dX6_isNamed_61 rfl hl (by decide) rfl (fun ls hl => ?_)
            refine lv_iinc (v := nI (i + 1)) (lv' := [(4, .int (nI (i + 1))), (3, .int (nI 0)), (5, .int (nI 0)), (0, .ref ho), (1, .int (nI t)), (2, .ref hn)]) hx hb dX6_isNamed_62 hl (k := 5) rfl (nI_inc i 1) (by decide) rfl (fun ls hl => ?_)
            refine lv_goto (tgt := 5) hx hb dX6_isNamed_65 (by decide) ?_
            refine lv_iload_n hx hb dX6_isNamed_5 rfl (lv_at hl 1 rfl) ?_
            refine lv_if_eq (tgt := 68) hx hb dX6_isNamed_6 (by decide) (fun _ => ?_) (fun c6 => absurd (by decide) c6)
            refine lv_iload_n hx hb dX6_isNamed_68 rfl (lv_at hl 1 rfl) ?_
            refine ct_iret (w := [(ho, .inr (4, [.ref hi, .ref he, .int (nI op)])), (he, .inr (3, [.int (nI 4096), .ref qe, .int (nI se)])), (qe, .inl (gB g, ne, .inl fe)), (hn, .inr (3, [.int (nI ln), .ref qn, .int (nI sn)])), (qn, .inl (gB g, nn, .inl fn))]) hx hb hr rfl hlocks hQ hAe hK (hP.sub [0, 3, 4, 1, 2] rfl) (hD.sub [0, 3, 4, 1, 2] (by decide) rfl) hS (by omega) (by omega) dX6_isNamed_69 ?_
            refine Or.inr ((?_))
            exact ⟨rfl, rfl, by first | exact fun z => c53 ((z i (by omega)).trans (if_pos (by omega))) | exact fun z => c53 ((z i (by omega)).trans (if_neg (by omega)))⟩
          · skip
            refine lv_iconst (v := nI 1) hx hb dX6_isNamed_56 (by decide) ?_
            refine lv_goto (tgt := 61) hx hb dX6_isNamed_57 (by decide) ?_
            refine lv_istore_n (lv' := [(3, .int (nI 1)), (5, .int (nI 0)), (0, .ref ho), (1, .int (nI t)), (2, .ref hn), (4, .int (nI i))]) hx hb dX6_isNamed_61 rfl hl (by decide) rfl (fun ls hl => ?_)
            refine lv_iinc (v := nI (i + 1)) (lv' := [(4, .int (nI (i + 1))), (3, .int (nI 1)), (5, .int (nI 0)), (0, .ref ho), (1, .int (nI t)), (2, .ref hn)]) hx hb dX6_isNamed_62 hl (k := 5) rfl (nI_inc i 1) (by decide) rfl (fun ls hl => ?_)
            refine lv_goto (tgt := 5) hx hb dX6_isNamed_65 (by decide) ?_
            exact ih_K5 (i + 1) (by omega) (by first | exact lt_s hall (c53.trans (if_pos (by omega)).symm) | exact lt_s hall (c53.trans (if_neg (by omega)).symm)) (by omega) _ _ _ (hP.sub [0, 3, 4, 1, 2] rfl) (hD.sub [0, 3, 4, 1, 2] (by decide) rfl) hS (lv_sub hl [3, 4, 5, 1, 0] rfl)
        · skip
          have c22 : ¬ (sn ≤ i) := fun z => c22 ((nI_leI (a := sn) (b := i) (by omega) (by omega)).mpr z)
          refine lv_aload_n hx hb dX6_isNamed_25 rfl (lv_at hl 2 rfl) ?_
          refine lv_iload hx hb dX6_isNamed_26 (lv_at hl 4 rfl) ?_
          refine ct_callV (wr := [(ho, .inr (4, [.ref hi, .ref he, .int (nI op)])), (he, .inr (3, [.int (nI 4096), .ref qe, .int (nI se)])), (qe, .inl (gB g, ne, .inl fe))]) hx hb hml hown hts hK hP hD hS hA hG hl.1 (c_getIn l g hn qn ln nn sn fn i (by omega) (by omega) (by omega)) (cwV 1 hts gX6_isNamed_X4_get rfl rfl rfl (by decide +kernel) ⟨Nat.le_of_ble_eq_true rfl, Nat.le_of_ble_eq_true rfl⟩) (va_recv hK hP (ci := 3) (q0 := 3) rfl rfl) rfl rfl (Nat.le_of_ble_eq_true rfl) dX6_isNamed_28 ⟨show 0 + 0 ≤ 0 by omega, show 0 + 0 ≤ 0 by omega⟩ [3, 4] [0, 1, 2] rfl rfl (by decide) (by decide) (by decide) (fun r_ w_ H locs hp_ hP hD hS => ?_)
          obtain ⟨rfl, rfl⟩ := hp_
          have hP : va_P (gD g) vwCl [(ho, .inr (4, [.ref hi, .ref he, .int (nI op)])), (he, .inr (3, [.int (nI 4096), .ref qe, .int (nI se)])), (qe, .inl (gB g, ne, .inl fe)), (hn, .inr (3, [.int (nI ln), .ref qn, .int (nI sn)])), (qn, .inl (gB g, nn, .inl fn))] H := hP
          have hD : va_D A [(ho, .inr (4, [.ref hi, .ref he, .int (nI op)])), (he, .inr (3, [.int (nI 4096), .ref qe, .int (nI se)])), (qe, .inl (gB g, ne, .inl fe)), (hn, .inr (3, [.int (nI ln), .ref qn, .int (nI sn)])), (qn, .inl (gB g, nn, .inl fn))] := hD
          refine W.eq (g2 := F0 m 31 ls [.int (fn i &&& 255)]) rfl ?_
          refine lv_goto (tgt := 35) hx hb dX6_isNamed_31 (by decide) ?_
          refine lv_istore (lv' := [(5, .int (fn i &&& 255)), (0, .ref ho), (1, .int (nI t)), (2, .ref hn), (3, .int (nI 1)), (4, .int (nI i))]) hx hb dX6_isNamed_35 hl (by decide) rfl (fun ls hl => ?_)
          refine lv_aload_n hx hb dX6_isNamed_37 rfl (lv_at hl 1 rfl) ?_
          refine va_get (D := gD g) (ci := 4) (v := .ref he) (C := RX6) (T := TX6) (N := 3) hx hb hts hinX6 hown hK hP 0 rfl rfl 1 (by decide) hf21 (fun _ h9 => h9) rfl dX6_isNamed_38 ?_
          refine lv_iload_n hx hb dX6_isNamed_41 rfl (lv_at hl 2 rfl) ?_
          refine lv_bipush (v := nI 64) hx hb dX6_isNamed_42 (by decide) ?_
          refine q_imul (v := nI (t * 64)) hx hb dX6_isNamed_44 (pk_mul t 64) ?_
          refine lv_iload hx hb dX6_isNamed_45 (lv_at hl 5 rfl) ?_
          refine q_iadd (v := nI (t * 64 + i)) hx hb dX6_isNamed_47 (nI_add (t * 64) i) ?_
          refine ct_callV (wr := [(ho, .inr (4, [.ref hi, .ref he, .int (nI op)])), (hn, .inr (3, [.int (nI ln), .ref qn, .int (nI sn)])), (qn, .inl (gB g, nn, .inl fn))]) hx hb hml hown hts hK hP hD hS hA hG hl.1 (c_getIn l g he qe 4096 ne se fe (t * 64 + i) (by omega) (by omega) (by omega)) (cwV 1 hts gX6_isNamed_X4_get rfl rfl rfl (by decide +kernel) ⟨Nat.le_of_ble_eq_true rfl, Nat.le_of_ble_eq_true rfl⟩) (va_recv hK hP (ci := 3) (q0 := 1) rfl rfl) rfl rfl (Nat.le_of_ble_eq_true rfl) dX6_isNamed_48 ⟨show 0 + 0 ≤ 0 by omega, show 0 + 0 ≤ 0 by omega⟩ [1, 2] [0, 3, 4] rfl rfl (by decide) (by decide) (by decide) (fun r_ w_ H locs hp_ hP hD hS => ?_)
          obtain ⟨rfl, rfl⟩ := hp_
          have hP : va_P (gD g) vwCl [(ho, .inr (4, [.ref hi, .ref he, .int (nI op)])), (hn, .inr (3, [.int (nI ln), .ref qn, .int (nI sn)])), (qn, .inl (gB g, nn, .inl fn)), (he, .inr (3, [.int (nI 4096), .ref qe, .int (nI se)])), (qe, .inl (gB g, ne, .inl fe))] H := hP
          have hD : va_D A [(ho, .inr (4, [.ref hi, .ref he, .int (nI op)])), (hn, .inr (3, [.int (nI ln), .ref qn, .int (nI sn)])), (qn, .inl (gB g, nn, .inl fn)), (he, .inr (3, [.int (nI 4096), .ref qe, .int (nI se)])), (qe, .inl (gB g, ne, .inl fe))] := hD
          refine W.eq (g2 := F0 m 51 ls [.int (fe (t * 64 + i) &&& 255)]) rfl ?_
          refine lv_iload hx hb dX6_isNamed_51 (lv_at hl 0 rfl) ?_
          refine lv_icmp_ne (tgt := 60) hx hb dX6_isNamed_53 (by decide) (fun c53 => ?_) (fun c53 => ?_)
          · skip
            refine lv_iconst (v := nI 0) hx hb dX6_isNamed_60 (by decide) ?_
            refine lv_istore_n (lv' := [(3, .int (nI 0)), (5, .int (fn i &&& 255)), (0, .ref ho), (1, .int (nI t)), (2, .ref hn), (4, .int (nI i))]) hx hb dX6_isNamed_61 rfl hl (by decide) rfl (fun ls hl => ?_)
            refine lv_iinc (v := nI (i + 1)) (lv' := [(4, .int (nI (i + 1))), (3, .int (nI 0)), (5, .int (fn i &&& 255)), (0, .ref ho), (1, .int (nI t)), (2, .ref hn)]) hx hb dX6_isNamed_62 hl (k := 5) rfl (nI_inc i 1) (by decide) rfl (fun ls hl => ?_)
            refine lv_goto (tgt := 5) hx hb dX6_isNamed_65 (by decide) ?_
            refine lv_iload_n hx hb dX6_isNamed_5 rfl (lv_at hl 1 rfl) ?_
            refine lv_if_eq (tgt := 68) hx hb dX6_isNamed_6 (by decide) (fun _ => ?_) (fun c6 => absurd (by decide) c6)
            refine lv_iload_n hx hb dX6_isNamed_68 rfl (lv_at hl 1 rfl) ?_
            refine ct_iret (w := [(ho, .inr (4, [.ref hi, .ref he, .int (nI op)])), (he, .inr (3, [.int (nI 4096), .ref qe, .int (nI se)])), (qe, .inl (gB g, ne, .inl fe)), (hn, .inr (3, [.int (nI ln), .ref qn, .int (nI sn)])), (qn, .inl (gB g, nn, .inl fn))]) hx hb hr rfl hlocks hQ hAe hK (hP.sub [0, 3, 4, 1, 2] rfl) (hD.sub [0, 3, 4, 1, 2] (by decide) rfl) hS (by omega) (by omega) dX6_isNamed_69 ?_
            refine Or.inr ((?_))
            exact ⟨rfl, rfl, by first | exact fun z => c53 ((z i (by omega)).trans (if_pos (by omega))) | exact fun z => c53 ((z i (by omega)).trans (if_neg (by omega)))⟩
          · skip
            refine lv_iconst (v := nI 1) hx hb dX6_isNamed_56 (by decide) ?_
            refine lv_goto (tgt := 61) hx hb dX6_isNamed_57 (by decide) ?_
            refine lv_istore_n (lv' := [(3, .int (nI 1)), (5, .int (fn i &&& 255)), (0, .ref ho), (1, .int (nI t)), (2, .ref hn), (4, .int (nI i))]) hx hb dX6_isNamed_61 rfl hl (by decide) rfl (fun ls hl => ?_)
            refine lv_iinc (v := nI (i + 1)) (lv' := [(4, .int (nI (i + 1))), (3, .int (nI 1)), (5, .int (fn i &&& 255)), (0, .ref ho), (1, .int (nI t)), (2, .ref hn)]) hx hb dX6_isNamed_62 hl (k := 5) rfl (nI_inc i 1) (by decide) rfl (fun ls hl => ?_)
            refine lv_goto (tgt := 5) hx hb dX6_isNamed_65 (by decide) ?_
            exact ih_K5 (i + 1) (by omega) (by first | exact lt_s hall (c53.trans (if_pos (by omega)).symm) | exact lt_s hall (c53.trans (if_neg (by omega)).symm)) (by omega) _ _ _ (hP.sub [0, 3, 4, 1, 2] rfl) (hD.sub [0, 3, 4, 1, 2] (by decide) rfl) hS (lv_sub hl [3, 4, 5, 1, 0] rfl)
  exact K5 ((48 - 0) + 1) 0 (by omega) (by intro j h1; omega) (Nat.lt_succ_self _) _ _ _ (hP.sub [0, 1, 2, 3, 4] rfl) (hD.sub [0, 1, 2, 3, 4] (by decide) rfl) hS (lv_sub hl [2, 3, 4, 1, 0] rfl)

set_option maxHeartbeats 4000000 in
set_option maxRecDepth 100000 in
theorem c_findFile (l : Launch) (g : GT) (ho : Nat) (hi : Nat) (he : Nat) (op : Nat) (qe : Nat) (ne : Nat) (fe : Nat → Int32) (hn : Nat) (qn : Nat) (ln : Nat) (nn : Nat) (sn : Nat) (fn : Nat → Int32) (c0 : Nat) (he1 : c0 * 64 ≤ ne) (he2 : ne ≤ 4096) (hn1 : sn ≤ nn) (hn2 : nn < 2 ^ 27) : CT l g yX6_find wsX6_find ({ frames := 2, cells := 0, slots := 0, locals := 46 } : Room) [.ref ho, .ref hn] [(ho, .inr (4, [.ref hi, .ref he, .int (nI op)])), (he, .inr (3, [.int (nI 4096), .ref qe, .int (nI (c0 * 64))])), (qe, .inl (gB g, ne, .inl fe)), (hn, .inr (3, [.int (nI ln), .ref qn, .int (nI sn)])), (qn, .inl (gB g, nn, .inl fn))] (fun r w => (∃ (k1 : Nat), r = some (.int (nI k1)) ∧ w = [(ho, .inr (4, [.ref hi, .ref he, .int (nI op)])), (he, .inr (3, [.int (nI 4096), .ref qe, .int (nI (c0 * 64))])), (qe, .inl (gB g, ne, .inl fe)), (hn, .inr (3, [.int (nI ln), .ref qn, .int (nI sn)])), (qn, .inl (gB g, nn, .inl fn))] ∧ (k1 < c0) ∧ (sn < 48) ∧ (pNamed fe k1 fn sn) ∧ (∀ t, t < k1 → ¬ pNamed fe t fn sn)) ∨ (r = some (.int (-1)) ∧ w = [(ho, .inr (4, [.ref hi, .ref he, .int (nI op)])), (he, .inr (3, [.int (nI 4096), .ref qe, .int (nI (c0 * 64))])), (qe, .inl (gB g, ne, .inl fe)), (hn, .inr (3, [.int (nI ln), .ref qn, .int (nI sn)])), (qn, .inl (gB g, nn, .inl fn))] ∧ (48 ≤ sn ∨ ∀ t, t < c0 → ¬ pNamed fe t fn sn))) (0) (0) := by
  refine ct_of (cc := cX6_find) (maxL := 3) (ret := (some .int)) (by decide) rfl (Nat.le_of_ble_eq_true rfl) ?_
  intro p e s m args below meth c A Q hx hb hr hml hown hts hlocks hnam hAe hQ hA hG hK hP hD hS ls hl
  have hl : lv_has ls 3 [(0, .ref ho), (1, .ref hn)] := hl
  have hown : s.vm.findClass RX6 = some m.cls := hown
  have hinX6 : ∀ w ∈ u_ws RX6 TX6 3, w ∈ wsX6_find := by decide +kernel
  have hf21 := hts (.fieldLink RX6 21 "RequestReader$Store" "entries" "LRequestReader$Row;") (by decide +kernel)
  refine lv_aload_n hx hb dX6_find_0 rfl (lv_at hl 1 rfl) ?_
  refine ct_callV (wr := [(ho, .inr (4, [.ref hi, .ref he, .int (nI op)])), (he, .inr (3, [.int (nI 4096), .ref qe, .int (nI (c0 * 64))])), (qe, .inl (gB g, ne, .inl fe))]) hx hb hml hown hts hK hP hD hS hA hG hl.1 (c_count l g hn qn ln nn sn fn ) (cwV 0 hts gX6_find_X4_count rfl rfl rfl (by decide +kernel) ⟨Nat.le_of_ble_eq_true rfl, Nat.le_of_ble_eq_true rfl⟩) (va_recv hK hP (ci := 3) (q0 := 3) rfl rfl) rfl rfl (Nat.le_of_ble_eq_true rfl) dX6_find_1 ⟨show 0 + 0 ≤ 0 by omega, show 0 + 0 ≤ 0 by omega⟩ [3, 4] [0, 1, 2] rfl rfl (by decide) (by decide) (by decide) (fun r_ w_ H locs hp_ hP hD hS => ?_)
  obtain ⟨rfl, rfl⟩ := hp_
  have hP : va_P (gD g) vwCl [(ho, .inr (4, [.ref hi, .ref he, .int (nI op)])), (he, .inr (3, [.int (nI 4096), .ref qe, .int (nI (c0 * 64))])), (qe, .inl (gB g, ne, .inl fe)), (hn, .inr (3, [.int (nI ln), .ref qn, .int (nI sn)])), (qn, .inl (gB g, nn, .inl fn))] H := hP
  have hD : va_D A [(ho, .inr (4, [.ref hi, .ref he, .int (nI op)])), (he, .inr (3, [.int (nI 4096), .ref qe, .int (nI (c0 * 64))])), (qe, .inl (gB g, ne, .inl fe)), (hn, .inr (3, [.int (nI ln), .ref qn, .int (nI sn)])), (qn, .inl (gB g, nn, .inl fn))] := hD
  refine W.eq (g2 := F0 m 4 ls [.int (nI sn)]) rfl ?_
  refine lv_bipush (v := nI 48) hx hb dX6_find_4 (by decide) ?_
  refine lv_icmp_lt (tgt := 11) hx hb dX6_find_6 (by decide) (fun c6 => ?_) (fun c6 => ?_)
  · skip
    have c6 : sn < 48 := (nI_ltI (a := sn) (b := 48) (by omega) (by omega)).mp c6
    refine lv_iconst (v := nI 0) hx hb dX6_find_11 (by decide) ?_
    refine lv_istore_n (lv' := [(2, .int (nI 0)), (0, .ref ho), (1, .ref hn)]) hx hb dX6_find_12 rfl hl (by decide) rfl (fun ls hl => ?_)
    have K13 : ∀ (N_ : Nat) (i : Nat), (i ≤ c0) → (∀ t, t < i → ¬ pNamed fe t fn sn) → (c0 - i) < N_ → ∀ (H : Heap) (locs : List Loc) (ls : Array Slot), va_P (gD g) vwCl [(ho, .inr (4, [.ref hi, .ref he, .int (nI op)])), (he, .inr (3, [.int (nI 4096), .ref qe, .int (nI (c0 * 64))])), (qe, .inl (gB g, ne, .inl fe)), (hn, .inr (3, [.int (nI ln), .ref qn, .int (nI sn)])), (qn, .inl (gB g, nn, .inl fn))] H → va_D A [(ho, .inr (4, [.ref hi, .ref he, .int (nI op)])), (he, .inr (3, [.int (nI 4096), .ref qe, .int (nI (c0 * 64))])), (qe, .inl (gB g, ne, .inl fe)), (hn, .inr (3, [.int (nI ln), .ref qn, .int (nI sn)])), (qn, .inl (gB g, nn, .inl fn))] → va_S A s.heap H locs → lv_has ls 3 [(0, .ref ho), (1, .ref hn), (2, .int (nI i))] → W p l e ({ frames := 2, cells := 0, slots := 0, locals := 46 } : Room) s m args below meth c H locs (0) (0) Q (F0 m 13 ls []) := by
      intro N_
      induction N_ with
      | zero => intro i hi4 hall hm_; exact absurd hm_ (Nat.not_lt_zero _)
      | succ N_ ih_K13 =>
        intro i hi4 hall hm_ H locs ls hP hD hS hl
        refine lv_iload_n hx hb dX6_find_13 rfl (lv_at hl 2 rfl) ?_
        refine lv_aload_n hx hb dX6_find_14 rfl (lv_at hl 0 rfl) ?_
        refine va_get (D := gD g) (ci := 4) (v := .ref he) (C := RX6) (T := TX6) (N := 3) hx hb hts hinX6 hown hK hP 0 rfl rfl 1 (by decide) hf21 (fun _ h9 => h9) rfl dX6_find_15 ?_
        refine ct_callV (wr := [(ho, .inr (4, [.ref hi, .ref he, .int (nI op)])), (hn, .inr (3, [.int (nI ln), .ref qn, .int (nI sn)])), (qn, .inl (gB g, nn, .inl fn))]) hx hb hml hown hts hK hP hD hS hA hG hl.1 (c_count l g he qe 4096 ne (c0 * 64) fe ) (cwV 0 hts gX6_find_X4_count rfl rfl rfl (by decide +kernel) ⟨Nat.le_of_ble_eq_true rfl, Nat.le_of_ble_eq_true rfl⟩) (va_recv hK hP (ci := 3) (q0 := 1) rfl rfl) rfl rfl (Nat.le_of_ble_eq_true rfl) dX6_find_18 ⟨show 0 + 0 ≤ 0 by omega, show 0 + 0 ≤ 0 by omega⟩ [1, 2] [0, 3, 4] rfl rfl (by decide) (by decide) (by decide) (fun r_ w_ H locs hp_ hP hD hS => ?_)
        obtain ⟨rfl, rfl⟩ := hp_
        have hP : va_P (gD g) vwCl [(ho, .inr (4, [.ref hi, .ref he, .int (nI op)])), (hn, .inr (3, [.int (nI ln), .ref qn, .int (nI sn)])), (qn, .inl (gB g, nn, .inl fn)), (he, .inr (3, [.int (nI 4096), .ref qe, .int (nI ((c0 * 64)))])), (qe, .inl (gB g, ne, .inl fe))] H := hP
        have hD : va_D A [(ho, .inr (4, [.ref hi, .ref he, .int (nI op)])), (hn, .inr (3, [.int (nI ln), .ref qn, .int (nI sn)])), (qn, .inl (gB g, nn, .inl fn)), (he, .inr (3, [.int (nI 4096), .ref qe, .int (nI ((c0 * 64)))])), (qe, .inl (gB g, ne, .inl fe))] := hD
        refine W.eq (g2 := F0 m 21 ls [.int (nI ((c0 * 64))), .int (nI i)]) rfl ?_
        refine lv_bipush (v := nI 64) hx hb dX6_find_21 (by decide) ?_
        refine q_idiv (v := nI c0) hx hb dX6_find_23 (by decide) (by rw [pk_div (by omega) (by omega) (by omega)]; congr 1; omega) ?_
        refine lv_icmp_ge (tgt := 44) hx hb dX6_find_24 (by decide) (fun c24 => ?_) (fun c24 => ?_)
        · skip
          have c24 : c0 ≤ i := (nI_leI (a := c0) (b := i) (by omega) (by omega)).mp c24
          refine lv_iconst (v := (-1)) hx hb dX6_find_44 (by decide) ?_
          refine ct_iret (w := [(ho, .inr (4, [.ref hi, .ref he, .int (nI op)])), (he, .inr (3, [.int (nI 4096), .ref qe, .int (nI ((c0 * 64)))])), (qe, .inl (gB g, ne, .inl fe)), (hn, .inr (3, [.int (nI ln), .ref qn, .int (nI sn)])), (qn, .inl (gB g, nn, .inl fn))]) hx hb hr rfl hlocks hQ hAe hK (hP.sub [0, 3, 4, 1, 2] rfl) (hD.sub [0, 3, 4, 1, 2] (by decide) rfl) hS (by omega) (by omega) dX6_find_45 ?_
          refine Or.inr ((?_))
          exact ⟨rfl, rfl, by first | exact Or.inl (by omega) | exact Or.inr (fun t ht => hall t (by omega))⟩
        · skip
          have c24 : ¬ (c0 ≤ i) := fun z => c24 ((nI_leI (a := c0) (b := i) (by omega) (by omega)).mpr z)
          refine lv_aload_n hx hb dX6_find_27 rfl (lv_at hl 0 rfl) ?_
          refine lv_iload_n hx hb dX6_find_28 rfl (lv_at hl 2 rfl) ?_
          refine lv_aload_n hx hb dX6_find_29 rfl (lv_at hl 1 rfl) ?_
          refine ct_callV (wr := []) hx hb hml hown hts hK hP hD hS hA hG hl.1 (c_isNamed l g ho hi he op qe ne ((c0 * 64)) fe hn qn ln nn sn fn i (by omega) (by omega) (by omega) (by omega) (by omega)) (cwV 2 hts gX6_find_X6_isNamed rfl rfl rfl (by decide +kernel) ⟨Nat.le_of_ble_eq_true rfl, Nat.le_of_ble_eq_true rfl⟩) (va_recv hK hP (ci := 4) (q0 := 0) rfl rfl) rfl rfl (Nat.le_of_ble_eq_true rfl) dX6_find_30 ⟨show 0 + 0 ≤ 0 by omega, show 0 + 0 ≤ 0 by omega⟩ [0, 3, 4, 1, 2] [] rfl rfl (by decide) (by decide) (by decide) (fun r_ w_ H locs hp_ hP hD hS => ?_)
          rcases hp_ with ⟨rfl, rfl, hT_30⟩ | ⟨rfl, rfl, hF_30⟩
          · skip
            have hP : va_P (gD g) vwCl [(ho, .inr (4, [.ref hi, .ref he, .int (nI op)])), (he, .inr (3, [.int (nI 4096), .ref qe, .int (nI (((c0 * 64))))])), (qe, .inl (gB g, ne, .inl fe)), (hn, .inr (3, [.int (nI ln), .ref qn, .int (nI sn)])), (qn, .inl (gB g, nn, .inl fn))] H := hP
            have hD : va_D A [(ho, .inr (4, [.ref hi, .ref he, .int (nI op)])), (he, .inr (3, [.int (nI 4096), .ref qe, .int (nI (((c0 * 64))))])), (qe, .inl (gB g, ne, .inl fe)), (hn, .inr (3, [.int (nI ln), .ref qn, .int (nI sn)])), (qn, .inl (gB g, nn, .inl fn))] := hD
            have hT_30 : pNamed fe i fn sn := hT_30
            refine W.eq (g2 := F0 m 33 ls [.int (nI 1)]) rfl ?_
            refine lv_if_eq (tgt := 38) hx hb dX6_find_33 (by decide) (fun c33 => absurd c33 (by decide)) (fun _ => ?_)
            refine lv_iload_n hx hb dX6_find_36 rfl (lv_at hl 2 rfl) ?_
            refine ct_iret (w := [(ho, .inr (4, [.ref hi, .ref he, .int (nI op)])), (he, .inr (3, [.int (nI 4096), .ref qe, .int (nI (((c0 * 64))))])), (qe, .inl (gB g, ne, .inl fe)), (hn, .inr (3, [.int (nI ln), .ref qn, .int (nI sn)])), (qn, .inl (gB g, nn, .inl fn))]) hx hb hr rfl hlocks hQ hAe hK (hP.sub [0, 1, 2, 3, 4] rfl) (hD.sub [0, 1, 2, 3, 4] (by decide) rfl) hS (by omega) (by omega) dX6_find_37 ?_
            refine Or.inl (?_)
            exact ⟨i, rfl, rfl, by omega, by omega, by exact hT_30, by exact hall⟩
          · skip
            have hP : va_P (gD g) vwCl [(ho, .inr (4, [.ref hi, .ref he, .int (nI op)])), (he, .inr (3, [.int (nI 4096), .ref qe, .int (nI (((c0 * 64))))])), (qe, .inl (gB g, ne, .inl fe)), (hn, .inr (3, [.int (nI ln), .ref qn, .int (nI sn)])), (qn, .inl (gB g, nn, .inl fn))] H := hP
            have hD : va_D A [(ho, .inr (4, [.ref hi, .ref he, .int (nI op)])), (he, .inr (3, [.int (nI 4096), .ref qe, .int (nI (((c0 * 64))))])), (qe, .inl (gB g, ne, .inl fe)), (hn, .inr (3, [.int (nI ln), .ref qn, .int (nI sn)])), (qn, .inl (gB g, nn, .inl fn))] := hD
            have hF_30 : ¬ (pNamed fe i fn sn) := hF_30
            refine W.eq (g2 := F0 m 33 ls [.int (nI 0)]) rfl ?_
            refine lv_if_eq (tgt := 38) hx hb dX6_find_33 (by decide) (fun _ => ?_) (fun c33 => absurd (by decide) c33)
            refine lv_iinc (v := nI (i + 1)) (lv' := [(2, .int (nI (i + 1))), (0, .ref ho), (1, .ref hn)]) hx hb dX6_find_38 hl (k := 2) rfl (nI_inc i 1) (by decide) rfl (fun ls hl => ?_)
            refine lv_goto (tgt := 13) hx hb dX6_find_41 (by decide) ?_
            exact ih_K13 (i + 1) (by omega) (by exact lt_s hall hF_30) (by omega) _ _ _ (hP.sub [0, 1, 2, 3, 4] rfl) (hD.sub [0, 1, 2, 3, 4] (by decide) rfl) hS (lv_sub hl [1, 2, 0] rfl)
    exact K13 ((c0 - 0) + 1) 0 (by omega) (by intro j h1; omega) (Nat.lt_succ_self _) _ _ _ (hP.sub [0, 1, 2, 3, 4] rfl) (hD.sub [0, 1, 2, 3, 4] (by decide) rfl) hS (lv_sub hl [1, 2, 0] rfl)
  · skip
    have c6 : ¬ (sn < 48) := fun z => c6 ((nI_ltI (a := sn) (b := 48) (by omega) (by omega)).mpr z)
    refine lv_iconst (v := (-1)) hx hb dX6_find_9 (by decide) ?_
    refine ct_iret (w := [(ho, .inr (4, [.ref hi, .ref he, .int (nI op)])), (he, .inr (3, [.int (nI 4096), .ref qe, .int (nI (c0 * 64))])), (qe, .inl (gB g, ne, .inl fe)), (hn, .inr (3, [.int (nI ln), .ref qn, .int (nI sn)])), (qn, .inl (gB g, nn, .inl fn))]) hx hb hr rfl hlocks hQ hAe hK (hP.sub [0, 1, 2, 3, 4] rfl) (hD.sub [0, 1, 2, 3, 4] (by decide) rfl) hS (by omega) (by omega) dX6_find_10 ?_
    refine Or.inr ((?_))
    exact ⟨rfl, rfl, by first | exact Or.inl (by omega) | exact Or.inr (fun t ht => hall t (by omega))⟩

set_option maxHeartbeats 4000000 in
set_option maxRecDepth 100000 in
theorem c_placeOf (l : Launch) (g : GT) (ho : Nat) (hi : Nat) (he : Nat) (op : Nat) (qe : Nat) (ne : Nat) (se : Nat) (fe : Nat → Int32) (t : Nat) (he1 : se ≤ ne) (he2 : ne ≤ 4096) (hts2 : t * 64 + 64 ≤ se) : CT l g yX6_placeOf wsX6_placeOf ({ frames := 2, cells := 0, slots := 0, locals := 42 } : Room) [.ref ho, .int (nI t)] [(ho, .inr (4, [.ref hi, .ref he, .int (nI op)])), (he, .inr (3, [.int (nI 4096), .ref qe, .int (nI se)])), (qe, .inl (gB g, ne, .inl fe))] (fun r w => (r = some (.int (be4 fe (t * 64 + 48))) ∧ w = [(ho, .inr (4, [.ref hi, .ref he, .int (nI op)])), (he, .inr (3, [.int (nI 4096), .ref qe, .int (nI se)])), (qe, .inl (gB g, ne, .inl fe))])) (0) (0) := by
  refine ct_of (cc := cX6_placeOf) (maxL := 2) (ret := (some .int)) (by decide) rfl (Nat.le_of_ble_eq_true rfl) ?_
  intro p e s m args below meth c A Q hx hb hr hml hown hts hlocks hnam hAe hQ hA hG hK hP hD hS ls hl
  have hl : lv_has ls 2 [(0, .ref ho), (1, .int (nI t))] := hl
  have hown : s.vm.findClass RX6 = some m.cls := hown
  have hinX6 : ∀ w ∈ u_ws RX6 TX6 3, w ∈ wsX6_placeOf := by decide +kernel
  have hf21 := hts (.fieldLink RX6 21 "RequestReader$Store" "entries" "LRequestReader$Row;") (by decide +kernel)
  refine lv_aload_n hx hb dX6_placeOf_0 rfl (lv_at hl 0 rfl) ?_
  refine va_get (D := gD g) (ci := 4) (v := .ref he) (C := RX6) (T := TX6) (N := 3) hx hb hts hinX6 hown hK hP 0 rfl rfl 1 (by decide) hf21 (fun _ h9 => h9) rfl dX6_placeOf_1 ?_
  refine lv_iload_n hx hb dX6_placeOf_4 rfl (lv_at hl 1 rfl) ?_
  refine lv_bipush (v := nI 64) hx hb dX6_placeOf_5 (by decide) ?_
  refine q_imul (v := nI (t * 64)) hx hb dX6_placeOf_7 (pk_mul t 64) ?_
  refine lv_bipush (v := nI 48) hx hb dX6_placeOf_8 (by decide) ?_
  refine q_iadd (v := nI (t * 64 + 48)) hx hb dX6_placeOf_10 (nI_add (t * 64) 48) ?_
  refine ct_callV (wr := [(ho, .inr (4, [.ref hi, .ref he, .int (nI op)]))]) hx hb hml hown hts hK hP hD hS hA hG hl.1 (c_intFrom l g he qe 4096 ne se fe (t * 64 + 48) (by omega) (by omega) (by omega)) (cwV 1 hts gX6_placeOf_X4_intFrom rfl rfl rfl (by decide +kernel) ⟨Nat.le_of_ble_eq_true rfl, Nat.le_of_ble_eq_true rfl⟩) (va_recv hK hP (ci := 3) (q0 := 1) rfl rfl) rfl rfl (Nat.le_of_ble_eq_true rfl) dX6_placeOf_11 ⟨show 0 + 0 ≤ 0 by omega, show 0 + 0 ≤ 0 by omega⟩ [1, 2] [0] rfl rfl (by decide) (by decide) (by decide) (fun r_ w_ H locs hp_ hP hD hS => ?_)
  obtain ⟨rfl, rfl⟩ := hp_
  have hP : va_P (gD g) vwCl [(ho, .inr (4, [.ref hi, .ref he, .int (nI op)])), (he, .inr (3, [.int (nI 4096), .ref qe, .int (nI se)])), (qe, .inl (gB g, ne, .inl fe))] H := hP
  have hD : va_D A [(ho, .inr (4, [.ref hi, .ref he, .int (nI op)])), (he, .inr (3, [.int (nI 4096), .ref qe, .int (nI se)])), (qe, .inl (gB g, ne, .inl fe))] := hD
  refine W.eq (g2 := F0 m 14 ls [.int (be4 fe (t * 64 + 48))]) rfl ?_
  refine ct_iret (w := [(ho, .inr (4, [.ref hi, .ref he, .int (nI op)])), (he, .inr (3, [.int (nI 4096), .ref qe, .int (nI se)])), (qe, .inl (gB g, ne, .inl fe))]) hx hb hr rfl hlocks hQ hAe hK (hP.sub [0, 1, 2] rfl) (hD.sub [0, 1, 2] (by decide) rfl) hS (by omega) (by omega) dX6_placeOf_14 ?_
  exact ⟨rfl, rfl⟩

set_option maxHeartbeats 4000000 in
set_option maxRecDepth 100000 in
theorem c_lengthOf (l : Launch) (g : GT) (ho : Nat) (hi : Nat) (he : Nat) (op : Nat) (qe : Nat) (ne : Nat) (se : Nat) (fe : Nat → Int32) (t : Nat) (he1 : se ≤ ne) (he2 : ne ≤ 4096) (hts2 : t * 64 + 64 ≤ se) : CT l g yX6_lengthOf wsX6_lengthOf ({ frames := 2, cells := 0, slots := 0, locals := 42 } : Room) [.ref ho, .int (nI t)] [(ho, .inr (4, [.ref hi, .ref he, .int (nI op)])), (he, .inr (3, [.int (nI 4096), .ref qe, .int (nI se)])), (qe, .inl (gB g, ne, .inl fe))] (fun r w => (r = some (.int (be4 fe (t * 64 + 52))) ∧ w = [(ho, .inr (4, [.ref hi, .ref he, .int (nI op)])), (he, .inr (3, [.int (nI 4096), .ref qe, .int (nI se)])), (qe, .inl (gB g, ne, .inl fe))])) (0) (0) := by
  refine ct_of (cc := cX6_lengthOf) (maxL := 2) (ret := (some .int)) (by decide) rfl (Nat.le_of_ble_eq_true rfl) ?_
  intro p e s m args below meth c A Q hx hb hr hml hown hts hlocks hnam hAe hQ hA hG hK hP hD hS ls hl
  have hl : lv_has ls 2 [(0, .ref ho), (1, .int (nI t))] := hl
  have hown : s.vm.findClass RX6 = some m.cls := hown
  have hinX6 : ∀ w ∈ u_ws RX6 TX6 3, w ∈ wsX6_lengthOf := by decide +kernel
  have hf21 := hts (.fieldLink RX6 21 "RequestReader$Store" "entries" "LRequestReader$Row;") (by decide +kernel)
  refine lv_aload_n hx hb dX6_lengthOf_0 rfl (lv_at hl 0 rfl) ?_
  refine va_get (D := gD g) (ci := 4) (v := .ref he) (C := RX6) (T := TX6) (N := 3) hx hb hts hinX6 hown hK hP 0 rfl rfl 1 (by decide) hf21 (fun _ h9 => h9) rfl dX6_lengthOf_1 ?_
  refine lv_iload_n hx hb dX6_lengthOf_4 rfl (lv_at hl 1 rfl) ?_
  refine lv_bipush (v := nI 64) hx hb dX6_lengthOf_5 (by decide) ?_
  refine q_imul (v := nI (t * 64)) hx hb dX6_lengthOf_7 (pk_mul t 64) ?_
  refine lv_bipush (v := nI 52) hx hb dX6_lengthOf_8 (by decide) ?_
  refine q_iadd (v := nI (t * 64 + 52)) hx hb dX6_lengthOf_10 (nI_add (t * 64) 52) ?_
  refine ct_callV (wr := [(ho, .inr (4, [.ref hi, .ref he, .int (nI op)]))]) hx hb hml hown hts hK hP hD hS hA hG hl.1 (c_intFrom l g he qe 4096 ne se fe (t * 64 + 52) (by omega) (by omega) (by omega)) (cwV 1 hts gX6_lengthOf_X4_intFrom rfl rfl rfl (by decide +kernel) ⟨Nat.le_of_ble_eq_true rfl, Nat.le_of_ble_eq_true rfl⟩) (va_recv hK hP (ci := 3) (q0 := 1) rfl rfl) rfl rfl (Nat.le_of_ble_eq_true rfl) dX6_lengthOf_11 ⟨show 0 + 0 ≤ 0 by omega, show 0 + 0 ≤ 0 by omega⟩ [1, 2] [0] rfl rfl (by decide) (by decide) (by decide) (fun r_ w_ H locs hp_ hP hD hS => ?_)
  obtain ⟨rfl, rfl⟩ := hp_
  have hP : va_P (gD g) vwCl [(ho, .inr (4, [.ref hi, .ref he, .int (nI op)])), (he, .inr (3, [.int (nI 4096), .ref qe, .int (nI se)])), (qe, .inl (gB g, ne, .inl fe))] H := hP
  have hD : va_D A [(ho, .inr (4, [.ref hi, .ref he, .int (nI op)])), (he, .inr (3, [.int (nI 4096), .ref qe, .int (nI se)])), (qe, .inl (gB g, ne, .inl fe))] := hD
  refine W.eq (g2 := F0 m 14 ls [.int (be4 fe (t * 64 + 52))]) rfl ?_
  refine ct_iret (w := [(ho, .inr (4, [.ref hi, .ref he, .int (nI op)])), (he, .inr (3, [.int (nI 4096), .ref qe, .int (nI se)])), (qe, .inl (gB g, ne, .inl fe))]) hx hb hr rfl hlocks hQ hAe hK (hP.sub [0, 1, 2] rfl) (hD.sub [0, 1, 2] (by decide) rfl) hS (by omega) (by omega) dX6_lengthOf_14 ?_
  exact ⟨rfl, rfl⟩

set_option maxHeartbeats 4000000 in
set_option maxRecDepth 100000 in
theorem c_checkOf (l : Launch) (g : GT) (ho : Nat) (hi : Nat) (he : Nat) (op : Nat) (qe : Nat) (ne : Nat) (se : Nat) (fe : Nat → Int32) (t : Nat) (he1 : se ≤ ne) (he2 : ne ≤ 4096) (hts2 : t * 64 + 64 ≤ se) : CT l g yX6_checkOf wsX6_checkOf ({ frames := 2, cells := 0, slots := 0, locals := 42 } : Room) [.ref ho, .int (nI t)] [(ho, .inr (4, [.ref hi, .ref he, .int (nI op)])), (he, .inr (3, [.int (nI 4096), .ref qe, .int (nI se)])), (qe, .inl (gB g, ne, .inl fe))] (fun r w => (r = some (.int (be4 fe (t * 64 + 56))) ∧ w = [(ho, .inr (4, [.ref hi, .ref he, .int (nI op)])), (he, .inr (3, [.int (nI 4096), .ref qe, .int (nI se)])), (qe, .inl (gB g, ne, .inl fe))])) (0) (0) := by
  refine ct_of (cc := cX6_checkOf) (maxL := 2) (ret := (some .int)) (by decide) rfl (Nat.le_of_ble_eq_true rfl) ?_
  intro p e s m args below meth c A Q hx hb hr hml hown hts hlocks hnam hAe hQ hA hG hK hP hD hS ls hl
  have hl : lv_has ls 2 [(0, .ref ho), (1, .int (nI t))] := hl
  have hown : s.vm.findClass RX6 = some m.cls := hown
  have hinX6 : ∀ w ∈ u_ws RX6 TX6 3, w ∈ wsX6_checkOf := by decide +kernel
  have hf21 := hts (.fieldLink RX6 21 "RequestReader$Store" "entries" "LRequestReader$Row;") (by decide +kernel)
  refine lv_aload_n hx hb dX6_checkOf_0 rfl (lv_at hl 0 rfl) ?_
  refine va_get (D := gD g) (ci := 4) (v := .ref he) (C := RX6) (T := TX6) (N := 3) hx hb hts hinX6 hown hK hP 0 rfl rfl 1 (by decide) hf21 (fun _ h9 => h9) rfl dX6_checkOf_1 ?_
  refine lv_iload_n hx hb dX6_checkOf_4 rfl (lv_at hl 1 rfl) ?_
  refine lv_bipush (v := nI 64) hx hb dX6_checkOf_5 (by decide) ?_
  refine q_imul (v := nI (t * 64)) hx hb dX6_checkOf_7 (pk_mul t 64) ?_
  refine lv_bipush (v := nI 56) hx hb dX6_checkOf_8 (by decide) ?_
  refine q_iadd (v := nI (t * 64 + 56)) hx hb dX6_checkOf_10 (nI_add (t * 64) 56) ?_
  refine ct_callV (wr := [(ho, .inr (4, [.ref hi, .ref he, .int (nI op)]))]) hx hb hml hown hts hK hP hD hS hA hG hl.1 (c_intFrom l g he qe 4096 ne se fe (t * 64 + 56) (by omega) (by omega) (by omega)) (cwV 1 hts gX6_checkOf_X4_intFrom rfl rfl rfl (by decide +kernel) ⟨Nat.le_of_ble_eq_true rfl, Nat.le_of_ble_eq_true rfl⟩) (va_recv hK hP (ci := 3) (q0 := 1) rfl rfl) rfl rfl (Nat.le_of_ble_eq_true rfl) dX6_checkOf_11 ⟨show 0 + 0 ≤ 0 by omega, show 0 + 0 ≤ 0 by omega⟩ [1, 2] [0] rfl rfl (by decide) (by decide) (by decide) (fun r_ w_ H locs hp_ hP hD hS => ?_)
  obtain ⟨rfl, rfl⟩ := hp_
  have hP : va_P (gD g) vwCl [(ho, .inr (4, [.ref hi, .ref he, .int (nI op)])), (he, .inr (3, [.int (nI 4096), .ref qe, .int (nI se)])), (qe, .inl (gB g, ne, .inl fe))] H := hP
  have hD : va_D A [(ho, .inr (4, [.ref hi, .ref he, .int (nI op)])), (he, .inr (3, [.int (nI 4096), .ref qe, .int (nI se)])), (qe, .inl (gB g, ne, .inl fe))] := hD
  refine W.eq (g2 := F0 m 14 ls [.int (be4 fe (t * 64 + 56))]) rfl ?_
  refine ct_iret (w := [(ho, .inr (4, [.ref hi, .ref he, .int (nI op)])), (he, .inr (3, [.int (nI 4096), .ref qe, .int (nI se)])), (qe, .inl (gB g, ne, .inl fe))]) hx hb hr rfl hlocks hQ hAe hK (hP.sub [0, 1, 2] rfl) (hD.sub [0, 1, 2] (by decide) rfl) hS (by omega) (by omega) dX6_checkOf_14 ?_
  exact ⟨rfl, rfl⟩

set_option maxHeartbeats 4000000 in
set_option maxRecDepth 100000 in
theorem c_isWhole (l : Launch) (g : GT) (ho : Nat) (hi : Nat) (he : Nat) (op : Nat) (qi : Nat) (ni : Nat) (si : Nat) (fi : Nat → Int32) (qe : Nat) (ne : Nat) (se : Nat) (fe : Nat → Int32) (t : Nat) (pl : Nat) (ln : Nat) (hi1 : si ≤ ni) (hi2 : ni ≤ 65535) (he1 : se ≤ ne) (he2 : ne ≤ 4096) (hts2 : t * 64 + 64 ≤ se) (hpl : be4 fe (t * 64 + 48) = nI pl) (hln : be4 fe (t * 64 + 52) = nI ln) (hpn : pl + ln ≤ si) : CT l g yX6_isWhole wsX6_isWhole ({ frames := 3, cells := 0, slots := 0, locals := 63 } : Room) [.ref ho, .int (nI t)] [(ho, .inr (4, [.ref hi, .ref he, .int (nI op)])), (hi, .inr (3, [.int (nI 65535), .ref qi, .int (nI si)])), (qi, .inl (gB g, ni, .inl fi)), (he, .inr (3, [.int (nI 4096), .ref qe, .int (nI se)])), (qe, .inl (gB g, ne, .inl fe))] (fun r w => (r = some (.int (nI 1)) ∧ w = [(ho, .inr (4, [.ref hi, .ref he, .int (nI op)])), (hi, .inr (3, [.int (nI 65535), .ref qi, .int (nI si)])), (qi, .inl (gB g, ni, .inl fi)), (he, .inr (3, [.int (nI 4096), .ref qe, .int (nI se)])), (qe, .inl (gB g, ne, .inl fe))] ∧ (crcR fi pl ln ^^^ -1 = be4 fe (t * 64 + 56))) ∨ (r = some (.int (nI 0)) ∧ w = [(ho, .inr (4, [.ref hi, .ref he, .int (nI op)])), (hi, .inr (3, [.int (nI 65535), .ref qi, .int (nI si)])), (qi, .inl (gB g, ni, .inl fi)), (he, .inr (3, [.int (nI 4096), .ref qe, .int (nI se)])), (qe, .inl (gB g, ne, .inl fe))] ∧ (¬ (crcR fi pl ln ^^^ -1 = be4 fe (t * 64 + 56))))) (0) (0) := by
  refine ct_of (cc := cX6_isWhole) (maxL := 3) (ret := (some .boolean)) (by decide) rfl (Nat.le_of_ble_eq_true rfl) ?_
  intro p e s m args below meth c A Q hx hb hr hml hown hts hlocks hnam hAe hQ hA hG hK hP hD hS ls hl
  have hl : lv_has ls 3 [(0, .ref ho), (1, .int (nI t))] := hl
  have hown : s.vm.findClass RX6 = some m.cls := hown
  have hinX6 : ∀ w ∈ u_ws RX6 TX6 3, w ∈ wsX6_isWhole := by decide +kernel
  have hf15 := hts (.fieldLink RX6 15 "RequestReader$Store" "image" "LRequestReader$Row;") (by decide +kernel)
  refine lv_aload_n hx hb dX6_isWhole_0 rfl (lv_at hl 0 rfl) ?_
  refine lv_iload_n hx hb dX6_isWhole_1 rfl (lv_at hl 1 rfl) ?_
  refine ct_callV (wr := [(hi, .inr (3, [.int (nI 65535), .ref qi, .int (nI si)])), (qi, .inl (gB g, ni, .inl fi))]) hx hb hml hown hts hK hP hD hS hA hG hl.1 (c_placeOf l g ho hi he op qe ne se fe t (by omega) (by omega) (by omega)) (cwV 1 hts gX6_isWhole_X6_placeOf rfl rfl rfl (by decide +kernel) ⟨Nat.le_of_ble_eq_true rfl, Nat.le_of_ble_eq_true rfl⟩) (va_recv hK hP (ci := 4) (q0 := 0) rfl rfl) rfl rfl (Nat.le_of_ble_eq_true rfl) dX6_isWhole_2 ⟨show 0 + 0 ≤ 0 by omega, show 0 + 0 ≤ 0 by omega⟩ [0, 3, 4] [1, 2] rfl rfl (by decide) (by decide) (by decide) (fun r_ w_ H locs hp_ hP hD hS => ?_)
  obtain ⟨rfl, rfl⟩ := hp_
  have hP : va_P (gD g) vwCl [(hi, .inr (3, [.int (nI 65535), .ref qi, .int (nI si)])), (qi, .inl (gB g, ni, .inl fi)), (ho, .inr (4, [.ref hi, .ref he, .int (nI op)])), (he, .inr (3, [.int (nI 4096), .ref qe, .int (nI se)])), (qe, .inl (gB g, ne, .inl fe))] H := hP
  have hD : va_D A [(hi, .inr (3, [.int (nI 65535), .ref qi, .int (nI si)])), (qi, .inl (gB g, ni, .inl fi)), (ho, .inr (4, [.ref hi, .ref he, .int (nI op)])), (he, .inr (3, [.int (nI 4096), .ref qe, .int (nI se)])), (qe, .inl (gB g, ne, .inl fe))] := hD
  refine W.eq (g2 := F0 m 5 ls [.int (be4 fe (t * 64 + 48))]) rfl ?_
  refine q_top (v := nI pl) hpl ?_
  refine lv_istore_n (lv' := [(2, .int (nI pl)), (0, .ref ho), (1, .int (nI t))]) hx hb dX6_isWhole_5 rfl hl (by decide) rfl (fun ls hl => ?_)
  refine lv_aload_n hx hb dX6_isWhole_6 rfl (lv_at hl 1 rfl) ?_
  refine va_get (D := gD g) (ci := 4) (v := .ref hi) (C := RX6) (T := TX6) (N := 3) hx hb hts hinX6 hown hK hP 2 rfl rfl 0 (by decide) hf15 (fun _ h9 => h9) rfl dX6_isWhole_7 ?_
  refine lv_iload_n hx hb dX6_isWhole_10 rfl (lv_at hl 0 rfl) ?_
  refine lv_iload_n hx hb dX6_isWhole_11 rfl (lv_at hl 0 rfl) ?_
  refine lv_aload_n hx hb dX6_isWhole_12 rfl (lv_at hl 1 rfl) ?_
  refine lv_iload_n hx hb dX6_isWhole_13 rfl (lv_at hl 2 rfl) ?_
  refine ct_callV (wr := [(hi, .inr (3, [.int (nI 65535), .ref qi, .int (nI si)])), (qi, .inl (gB g, ni, .inl fi))]) hx hb hml hown hts hK hP hD hS hA hG hl.1 (c_lengthOf l g ho hi he op qe ne se fe t (by omega) (by omega) (by omega)) (cwV 1 hts gX6_isWhole_X6_lengthOf rfl rfl rfl (by decide +kernel) ⟨Nat.le_of_ble_eq_true rfl, Nat.le_of_ble_eq_true rfl⟩) (va_recv hK hP (ci := 4) (q0 := 2) rfl rfl) rfl rfl (Nat.le_of_ble_eq_true rfl) dX6_isWhole_14 ⟨show 0 + 0 ≤ 0 by omega, show 0 + 0 ≤ 0 by omega⟩ [2, 3, 4] [0, 1] rfl rfl (by decide) (by decide) (by decide) (fun r_ w_ H locs hp_ hP hD hS => ?_)
  obtain ⟨rfl, rfl⟩ := hp_
  have hP : va_P (gD g) vwCl [(hi, .inr (3, [.int (nI 65535), .ref qi, .int (nI si)])), (qi, .inl (gB g, ni, .inl fi)), (ho, .inr (4, [.ref hi, .ref he, .int (nI op)])), (he, .inr (3, [.int (nI 4096), .ref qe, .int (nI se)])), (qe, .inl (gB g, ne, .inl fe))] H := hP
  have hD : va_D A [(hi, .inr (3, [.int (nI 65535), .ref qi, .int (nI si)])), (qi, .inl (gB g, ni, .inl fi)), (ho, .inr (4, [.ref hi, .ref he, .int (nI op)])), (he, .inr (3, [.int (nI 4096), .ref qe, .int (nI se)])), (qe, .inl (gB g, ne, .inl fe))] := hD
  refine W.eq (g2 := F0 m 17 ls [.int (be4 fe (t * 64 + 52)), .int (nI pl), .int (nI pl), .ref hi]) rfl ?_
  refine q_top (v := nI ln) hln ?_
  refine q_iadd (v := nI (pl + ln)) hx hb dX6_isWhole_17 (nI_add pl ln) ?_
  refine ct_callV (wr := [(ho, .inr (4, [.ref hi, .ref he, .int (nI op)])), (he, .inr (3, [.int (nI 4096), .ref qe, .int (nI se)])), (qe, .inl (gB g, ne, .inl fe))]) hx hb hml hown hts hK hP hD hS hA hG hl.1 (c_check l g hi qi 65535 ni si fi pl (pl + ln) (by omega) (by omega) (by omega) (by omega)) (cwV 2 hts gX6_isWhole_X4_check rfl rfl rfl (by decide +kernel) ⟨Nat.le_of_ble_eq_true rfl, Nat.le_of_ble_eq_true rfl⟩) (va_recv hK hP (ci := 3) (q0 := 0) rfl rfl) rfl rfl (Nat.le_of_ble_eq_true rfl) dX6_isWhole_18 ⟨show 0 + 0 ≤ 0 by omega, show 0 + 0 ≤ 0 by omega⟩ [0, 1] [2, 3, 4] rfl rfl (by decide) (by decide) (by decide) (fun r_ w_ H locs hp_ hP hD hS => ?_)
  obtain ⟨rfl, rfl⟩ := hp_
  have hP : va_P (gD g) vwCl [(ho, .inr (4, [.ref hi, .ref he, .int (nI op)])), (he, .inr (3, [.int (nI 4096), .ref qe, .int (nI se)])), (qe, .inl (gB g, ne, .inl fe)), (hi, .inr (3, [.int (nI 65535), .ref qi, .int (nI si)])), (qi, .inl (gB g, ni, .inl fi))] H := hP
  have hD : va_D A [(ho, .inr (4, [.ref hi, .ref he, .int (nI op)])), (he, .inr (3, [.int (nI 4096), .ref qe, .int (nI se)])), (qe, .inl (gB g, ne, .inl fe)), (hi, .inr (3, [.int (nI 65535), .ref qi, .int (nI si)])), (qi, .inl (gB g, ni, .inl fi))] := hD
  refine W.eq (g2 := F0 m 21 ls [.int (crcR fi pl ((pl + ln) - pl) ^^^ -1)]) rfl ?_
  refine lv_aload_n hx hb dX6_isWhole_21 rfl (lv_at hl 1 rfl) ?_
  refine lv_iload_n hx hb dX6_isWhole_22 rfl (lv_at hl 2 rfl) ?_
  refine ct_callV (wr := [(hi, .inr (3, [.int (nI 65535), .ref qi, .int (nI si)])), (qi, .inl (gB g, ni, .inl fi))]) hx hb hml hown hts hK hP hD hS hA hG hl.1 (c_checkOf l g ho hi he op qe ne se fe t (by omega) (by omega) (by omega)) (cwV 1 hts gX6_isWhole_X6_checkOf rfl rfl rfl (by decide +kernel) ⟨Nat.le_of_ble_eq_true rfl, Nat.le_of_ble_eq_true rfl⟩) (va_recv hK hP (ci := 4) (q0 := 0) rfl rfl) rfl rfl (Nat.le_of_ble_eq_true rfl) dX6_isWhole_23 ⟨show 0 + 0 ≤ 0 by omega, show 0 + 0 ≤ 0 by omega⟩ [0, 1, 2] [3, 4] rfl rfl (by decide) (by decide) (by decide) (fun r_ w_ H locs hp_ hP hD hS => ?_)
  obtain ⟨rfl, rfl⟩ := hp_
  have hP : va_P (gD g) vwCl [(hi, .inr (3, [.int (nI 65535), .ref qi, .int (nI si)])), (qi, .inl (gB g, ni, .inl fi)), (ho, .inr (4, [.ref hi, .ref he, .int (nI op)])), (he, .inr (3, [.int (nI 4096), .ref qe, .int (nI se)])), (qe, .inl (gB g, ne, .inl fe))] H := hP
  have hD : va_D A [(hi, .inr (3, [.int (nI 65535), .ref qi, .int (nI si)])), (qi, .inl (gB g, ni, .inl fi)), (ho, .inr (4, [.ref hi, .ref he, .int (nI op)])), (he, .inr (3, [.int (nI 4096), .ref qe, .int (nI se)])), (qe, .inl (gB g, ne, .inl fe))] := hD
  refine W.eq (g2 := F0 m 26 ls [.int (be4 fe (t * 64 + 56)), .int (crcR fi pl ((pl + ln) - pl) ^^^ -1)]) rfl ?_
  refine lv_icmp_ne (tgt := 33) hx hb dX6_isWhole_26 (by decide) (fun c26 => ?_) (fun c26 => ?_)
  · skip
    refine lv_iconst (v := nI 0) hx hb dX6_isWhole_33 (by decide) ?_
    refine ct_iret (w := [(ho, .inr (4, [.ref hi, .ref he, .int (nI op)])), (hi, .inr (3, [.int (nI 65535), .ref qi, .int (nI si)])), (qi, .inl (gB g, ni, .inl fi)), (he, .inr (3, [.int (nI 4096), .ref qe, .int (nI se)])), (qe, .inl (gB g, ne, .inl fe))]) hx hb hr rfl hlocks hQ hAe hK (hP.sub [2, 0, 1, 3, 4] rfl) (hD.sub [2, 0, 1, 3, 4] (by decide) rfl) hS (by omega) (by omega) dX6_isWhole_34 ?_
    refine Or.inr ((?_))
    exact ⟨rfl, rfl, by intro z; exact c26 (by rw [show pl + ln - pl = ln by omega]; exact z)⟩
  · skip
    refine lv_iconst (v := nI 1) hx hb dX6_isWhole_29 (by decide) ?_
    refine lv_goto (tgt := 34) hx hb dX6_isWhole_30 (by decide) ?_
    refine ct_iret (w := [(ho, .inr (4, [.ref hi, .ref he, .int (nI op)])), (hi, .inr (3, [.int (nI 65535), .ref qi, .int (nI si)])), (qi, .inl (gB g, ni, .inl fi)), (he, .inr (3, [.int (nI 4096), .ref qe, .int (nI se)])), (qe, .inl (gB g, ne, .inl fe))]) hx hb hr rfl hlocks hQ hAe hK (hP.sub [2, 0, 1, 3, 4] rfl) (hD.sub [2, 0, 1, 3, 4] (by decide) rfl) hS (by omega) (by omega) dX6_isWhole_34 ?_
    refine Or.inl (?_)
    exact ⟨rfl, rfl, by rw [← c26, show pl + ln - pl = ln by omega]⟩

set_option maxHeartbeats 4000000 in
set_option maxRecDepth 100000 in
theorem c_storeInit (l : Launch) (g : GT) (ho : Nat)  : CT l g yX6_init wsX6_init ({ frames := 2, cells := 4, slots := 518, locals := 51 } : Room) [.ref ho] [(ho, .inr (4, [.null, .null, .int (nI 0)]))] (fun r w => (∃ (hi : Nat) (qi : Nat) (he : Nat) (qe : Nat), r = none ∧ w = [(ho, .inr (4, [.ref hi, .ref he, .int (nI 0)])), (hi, .inr (3, [.int (nI 65535), .ref qi, .int (nI 0)])), (qi, .inl (gB g, 256, .inl ((fun _ => 0)))), (he, .inr (3, [.int (nI 4096), .ref qe, .int (nI 0)])), (qe, .inl (gB g, 256, .inl ((fun _ => 0))))])) (4) (518) := by
  refine ct_of (cc := cX6_init) (maxL := 1) (ret := none) (by decide) rfl (Nat.le_of_ble_eq_true rfl) ?_
  intro p e s m args below meth c A Q hx hb hr hml hown hts hlocks hnam hAe hQ hA hG hK hP hD hS ls hl
  have hl : lv_has ls 1 [(0, .ref ho)] := hl
  have hown : s.vm.findClass RX6 = some m.cls := hown
  have hinX4 : ∀ w ∈ u_ws RX4 TX4 3, w ∈ wsX6_init := by decide +kernel
  have hinX6 : ∀ w ∈ u_ws RX6 TX6 3, w ∈ wsX6_init := by decide +kernel
  have hf15 := hts (.fieldLink RX6 15 "RequestReader$Store" "image" "LRequestReader$Row;") (by decide +kernel)
  have hf21 := hts (.fieldLink RX6 21 "RequestReader$Store" "entries" "LRequestReader$Row;") (by decide +kernel)
  have hf24 := hts (.fieldLink RX6 24 "RequestReader$Store" "isOpen" "Z") (by decide +kernel)
  refine lv_aload_n hx hb dX6_init_0 rfl (lv_at hl 0 rfl) ?_
  refine W.objInit hx hb hown (hts (.methodLink RX6 3 objectInit) (by decide +kernel)) (hts (.instanceMethod objectInit) (by decide +kernel)) (hts (.code objectInit ⟨#[0xb1]⟩ 1 none) (by decide +kernel)) rfl (by rw [hml]; exact hl.1) rfl dX6_init_1 (Nat.le_of_ble_eq_true rfl) (Nat.le_of_ble_eq_true rfl) ?_
  refine W.eq (g2 := F0 m 4 ls []) rfl ?_
  refine lv_aload_n hx hb dX6_init_4 rfl (lv_at hl 0 rfl) ?_
  refine va_new (ci := 3) (fs := [.int (nI 0), .null, .int (nI 0)]) (C := RX4) (T := TX4) (N := 3) hx hb hts hinX4 tyX4 tyX4_ok hown (hts (.classLink RX6 9 RX4) (by decide +kernel)) (hts (.instantiable RX4 3) (by decide +kernel)) (hts (.initialized RX4) (by decide +kernel)) hK hP hD hS hA rfl (fun j hj => by rcases (show j = 0 ∨ j = 1 ∨ j = 2 by omega) with rfl | rfl | rfl <;> rfl) (show 0 + 1 ≤ 4 by omega) (show 0 + 3 ≤ 518 by omega) dX6_init_5 (fun qn_5 H hP hD hS => ?_)
  have hP : va_P (gD g) vwCl [(ho, .inr (4, [.null, .null, .int (nI 0)])), (qn_5, .inr (3, [.int (nI 0), .null, .int (nI 0)]))] H := hP
  have hD : va_D A [(ho, .inr (4, [.null, .null, .int (nI 0)])), (qn_5, .inr (3, [.int (nI 0), .null, .int (nI 0)]))] := hD
  refine lv_dup hx hb dX6_init_8 rfl ?_
  refine lv_ldc hx hb hown (hts (.constant RX6 11 (65535)) (by decide +kernel)) dX6_init_9 ?_
  refine q_top (v := nI 65535) (by decide) ?_
  refine ct_callI (wr := [(ho, .inr (4, [.null, .null, .int (nI 0)]))]) hx hb hml hown hts hK hP hD hS hA hG hl.1 (c_rowInit l g qn_5 65535 ) (cwI 1 hts gX6_init_X4_init rfl rfl rfl (hts (.initialized RX4) (by decide +kernel)) (hts (.methodLink RX6 12 yX4_init) (by decide +kernel)) (hts (.instanceMethod yX4_init) (by decide +kernel)) rfl (by decide +kernel) ⟨Nat.le_of_ble_eq_true rfl, Nat.le_of_ble_eq_true rfl⟩) rfl rfl (Nat.le_of_ble_eq_true rfl) dX6_init_11 ⟨show 1 + 1 ≤ 4 by omega, show 3 + 256 ≤ 518 by omega⟩ [1] [0] rfl rfl (by decide) (by decide) (by decide) (fun r_ w_ H locs hp_ hP hD hS => ?_)
  obtain ⟨q1_11, rfl, rfl⟩ := hp_
  have hP : va_P (gD g) vwCl [(ho, .inr (4, [.null, .null, .int (nI 0)])), (qn_5, .inr (3, [.int (nI 65535), .ref q1_11, .int (nI 0)])), (q1_11, .inl (gB g, 256, .inl ((fun _ => 0))))] H := hP
  have hD : va_D A [(ho, .inr (4, [.null, .null, .int (nI 0)])), (qn_5, .inr (3, [.int (nI 65535), .ref q1_11, .int (nI 0)])), (q1_11, .inl (gB g, 256, .inl ((fun _ => 0))))] := hD
  refine W.widen (k := 2) (n := 259) (by omega) (by omega) ?_
  refine W.eq (g2 := F0 m 14 ls [.ref qn_5, .ref ho]) rfl ?_
  refine va_putF (D := gD g) (ci := 4) (v := .ref qn_5) (ty := (.object "RequestReader$Row")) (C := RX6) (T := TX6) (N := 3) hx hb hts hinX6 tyX6 tyX6_ok nmX6 hown hK hP hD hS 0 rfl rfl 0 (by decide) hf15 (fun _ h9 => h9) rfl hnam rfl (by decide +kernel) rfl rfl (Nat.le_of_ble_eq_true rfl) dX6_init_14 (fun H locs hP hD hS => ?_)
  have hP : va_P (gD g) vwCl [(ho, .inr (4, [.ref qn_5, .null, .int (nI 0)])), (qn_5, .inr (3, [.int (nI 65535), .ref q1_11, .int (nI 0)])), (q1_11, .inl (gB g, 256, .inl ((fun _ => 0))))] H := hP
  have hD : va_D A [(ho, .inr (4, [.ref qn_5, .null, .int (nI 0)])), (qn_5, .inr (3, [.int (nI 65535), .ref q1_11, .int (nI 0)])), (q1_11, .inl (gB g, 256, .inl ((fun _ => 0))))] := hD
  refine lv_aload_n hx hb dX6_init_17 rfl (lv_at hl 0 rfl) ?_
  refine va_new (ci := 3) (fs := [.int (nI 0), .null, .int (nI 0)]) (C := RX4) (T := TX4) (N := 3) hx hb hts hinX4 tyX4 tyX4_ok hown (hts (.classLink RX6 9 RX4) (by decide +kernel)) (hts (.instantiable RX4 3) (by decide +kernel)) (hts (.initialized RX4) (by decide +kernel)) hK hP hD hS hA rfl (fun j hj => by rcases (show j = 0 ∨ j = 1 ∨ j = 2 by omega) with rfl | rfl | rfl <;> rfl) (show 2 + 1 ≤ 4 by omega) (show 259 + 3 ≤ 518 by omega) dX6_init_18 (fun qn_18 H hP hD hS => ?_)
  have hP : va_P (gD g) vwCl [(ho, .inr (4, [.ref qn_5, .null, .int (nI 0)])), (qn_5, .inr (3, [.int (nI 65535), .ref q1_11, .int (nI 0)])), (q1_11, .inl (gB g, 256, .inl ((fun _ => 0)))), (qn_18, .inr (3, [.int (nI 0), .null, .int (nI 0)]))] H := hP
  have hD : va_D A [(ho, .inr (4, [.ref qn_5, .null, .int (nI 0)])), (qn_5, .inr (3, [.int (nI 65535), .ref q1_11, .int (nI 0)])), (q1_11, .inl (gB g, 256, .inl ((fun _ => 0)))), (qn_18, .inr (3, [.int (nI 0), .null, .int (nI 0)]))] := hD
  refine lv_dup hx hb dX6_init_21 rfl ?_
  refine lv_sipush (v := nI 4096) hx hb dX6_init_22 (by decide) ?_
  refine ct_callI (wr := [(ho, .inr (4, [.ref qn_5, .null, .int (nI 0)])), (qn_5, .inr (3, [.int (nI 65535), .ref q1_11, .int (nI 0)])), (q1_11, .inl (gB g, 256, .inl ((fun _ => 0))))]) hx hb hml hown hts hK hP hD hS hA hG hl.1 (c_rowInit l g qn_18 4096 ) (cwI 1 hts gX6_init_X4_init rfl rfl rfl (hts (.initialized RX4) (by decide +kernel)) (hts (.methodLink RX6 12 yX4_init) (by decide +kernel)) (hts (.instanceMethod yX4_init) (by decide +kernel)) rfl (by decide +kernel) ⟨Nat.le_of_ble_eq_true rfl, Nat.le_of_ble_eq_true rfl⟩) rfl rfl (Nat.le_of_ble_eq_true rfl) dX6_init_25 ⟨show 3 + 1 ≤ 4 by omega, show 262 + 256 ≤ 518 by omega⟩ [3] [0, 1, 2] rfl rfl (by decide) (by decide) (by decide) (fun r_ w_ H locs hp_ hP hD hS => ?_)
  obtain ⟨q1_25, rfl, rfl⟩ := hp_
  have hP : va_P (gD g) vwCl [(ho, .inr (4, [.ref qn_5, .null, .int (nI 0)])), (qn_5, .inr (3, [.int (nI 65535), .ref q1_11, .int (nI 0)])), (q1_11, .inl (gB g, 256, .inl ((fun _ => 0)))), (qn_18, .inr (3, [.int (nI 4096), .ref q1_25, .int (nI 0)])), (q1_25, .inl (gB g, 256, .inl ((fun _ => 0))))] H := hP
  have hD : va_D A [(ho, .inr (4, [.ref qn_5, .null, .int (nI 0)])), (qn_5, .inr (3, [.int (nI 65535), .ref q1_11, .int (nI 0)])), (q1_11, .inl (gB g, 256, .inl ((fun _ => 0)))), (qn_18, .inr (3, [.int (nI 4096), .ref q1_25, .int (nI 0)])), (q1_25, .inl (gB g, 256, .inl ((fun _ => 0))))] := hD
  refine W.widen (k := 4) (n := 518) (by omega) (by omega) ?_
  refine W.eq (g2 := F0 m 28 ls [.ref qn_18, .ref ho]) rfl ?_
  refine va_putF (D := gD g) (ci := 4) (v := .ref qn_18) (ty := (.object "RequestReader$Row")) (C := RX6) (T := TX6) (N := 3) hx hb hts hinX6 tyX6 tyX6_ok nmX6 hown hK hP hD hS 0 rfl rfl 1 (by decide) hf21 (fun _ h9 => h9) rfl hnam rfl (by decide +kernel) rfl rfl (Nat.le_of_ble_eq_true rfl) dX6_init_28 (fun H locs hP hD hS => ?_)
  have hP : va_P (gD g) vwCl [(ho, .inr (4, [.ref qn_5, .ref qn_18, .int (nI 0)])), (qn_5, .inr (3, [.int (nI 65535), .ref q1_11, .int (nI 0)])), (q1_11, .inl (gB g, 256, .inl ((fun _ => 0)))), (qn_18, .inr (3, [.int (nI 4096), .ref q1_25, .int (nI 0)])), (q1_25, .inl (gB g, 256, .inl ((fun _ => 0))))] H := hP
  have hD : va_D A [(ho, .inr (4, [.ref qn_5, .ref qn_18, .int (nI 0)])), (qn_5, .inr (3, [.int (nI 65535), .ref q1_11, .int (nI 0)])), (q1_11, .inl (gB g, 256, .inl ((fun _ => 0)))), (qn_18, .inr (3, [.int (nI 4096), .ref q1_25, .int (nI 0)])), (q1_25, .inl (gB g, 256, .inl ((fun _ => 0))))] := hD
  refine lv_aload_n hx hb dX6_init_31 rfl (lv_at hl 0 rfl) ?_
  refine lv_iconst (v := nI 0) hx hb dX6_init_32 (by decide) ?_
  refine va_put (D := gD g) (ci := 4) (v := .int (nI 0)) (ty := .boolean) (C := RX6) (T := TX6) (N := 3) hx hb hts hinX6 tyX6 tyX6_ok nmX6 hown hK hP hD hS 0 rfl rfl 2 (by decide) hf24 (fun _ h9 => h9) rfl (by decide +kernel) rfl rfl (Nat.le_of_ble_eq_true rfl) dX6_init_33 (fun H locs hP hD hS => ?_)
  have hP : va_P (gD g) vwCl [(ho, .inr (4, [.ref qn_5, .ref qn_18, .int (nI 0)])), (qn_5, .inr (3, [.int (nI 65535), .ref q1_11, .int (nI 0)])), (q1_11, .inl (gB g, 256, .inl ((fun _ => 0)))), (qn_18, .inr (3, [.int (nI 4096), .ref q1_25, .int (nI 0)])), (q1_25, .inl (gB g, 256, .inl ((fun _ => 0))))] H := hP
  have hD : va_D A [(ho, .inr (4, [.ref qn_5, .ref qn_18, .int (nI 0)])), (qn_5, .inr (3, [.int (nI 65535), .ref q1_11, .int (nI 0)])), (q1_11, .inl (gB g, 256, .inl ((fun _ => 0)))), (qn_18, .inr (3, [.int (nI 4096), .ref q1_25, .int (nI 0)])), (q1_25, .inl (gB g, 256, .inl ((fun _ => 0))))] := hD
  refine ct_vret (w := [(ho, .inr (4, [.ref qn_5, .ref qn_18, .int (nI 0)])), (qn_5, .inr (3, [.int (nI 65535), .ref q1_11, .int (nI 0)])), (q1_11, .inl (gB g, 256, .inl ((fun _ => 0)))), (qn_18, .inr (3, [.int (nI 4096), .ref q1_25, .int (nI 0)])), (q1_25, .inl (gB g, 256, .inl ((fun _ => 0))))]) hx hb hr hlocks hQ hAe hK (hP.sub [0, 1, 2, 3, 4] rfl) (hD.sub [0, 1, 2, 3, 4] (by decide) rfl) hS (by omega) (by omega) dX6_init_36 ?_
  exact ⟨qn_5, q1_11, qn_18, q1_25, rfl, rfl⟩
