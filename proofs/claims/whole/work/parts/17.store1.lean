def u32 (x : Int32) : Nat := x.toBitVec.toNat
theorem u32_lt (x : Int32) : u32 x < 2 ^ 32 := x.toBitVec.isLt
theorem u32_l (x : Int32) : x.toInt64 &&& 4294967295 = lN (u32 x) := by
  apply Int64.toBitVec_inj.mp
  apply BitVec.eq_of_toNat_eq
  show (x.toBitVec.signExtend 64 &&& 4294967295#64).toNat = (BitVec.ofNat 64 (u32 x)).toNat
  have h := u32_lt x
  rw [BitVec.toNat_and, show (4294967295#64).toNat = 2 ^ 32 - 1 from by decide, Nat.and_two_pow_sub_one_eq_mod, BitVec.toNat_ofNat, BitVec.toNat_signExtend, BitVec.toNat_setWidth]
  have e : x.toBitVec.toNat = u32 x := rfl
  rw [e]
  split <;> omega
theorem gcN_le1 (n a : Nat) : gcN n a ≤ 1 := by unfold gcN; split <;> omega
theorem gsN_le {lim n a : Nat} (h : a ≤ lim) : gsN lim n a ≤ lim := by unfold gsN; split <;> omega
def pNameR (f : Nat → Int32) (a : Nat) : Prop := ∃ e, e < 48 ∧ f a &&& 255 = nI 47 ∧ (∀ j, j < e → pVis (f (a + j) &&& 255)) ∧ ∀ j, e ≤ j → j < 48 → f (a + j) &&& 255 = nI 0
def pSameN (f : Nat → Int32) (a b : Nat) : Prop := ∀ j, j < 48 → f (a + j) &&& 255 = f (b + j) &&& 255
def pEntry (f : Nat → Int32) (sz a : Nat) : Prop := pNameR f a ∧ u32 (be4 f (a + 48)) + u32 (be4 f (a + 52)) ≤ sz ∧ be4 f (a + 60) = nI 0
def pNew (f : Nat → Int32) (i : Nat) : Prop := ∀ t, t < i → ¬ pSameN f (8 + t * 64) (8 + i * 64)
def pRight (f : Nat → Int32) (sz c : Nat) : Prop := c ≤ 64 ∧ 8 + c * 64 + 4 ≤ sz ∧ pText f 0 4 1 ∧ f 6 &&& 255 = nI 0 ∧ f 7 &&& 255 = nI 0 ∧ crcR f 0 (8 + c * 64) ^^^ -1 = be4 f (8 + c * 64) ∧ ∀ i, i < c → pEntry f sz (8 + i * 64) ∧ pNew f i
theorem vis_ne0 : ¬ pVis (nI 0) := by decide
theorem nameR_T {f : Nat → Int32} {a r i : Nat} (hF : pFind f (nI 0) a (a + 48) r) (h0 : f a &&& 255 = nI 47) (hr : r < a + 48) (hi : a + 48 ≤ i) (hall : ∀ j, a ≤ j → j < i → (j < r → pVis (f j &&& 255)) ∧ (¬ j < r → f j &&& 255 = nI 0)) : pNameR f a := by
  rcases hF.2 with z | z
  · omega
  · refine ⟨r - a, by omega, h0, fun j hj => (hall (a + j) (by omega) (by omega)).1 (by omega), fun j h1 h2 => (hall (a + j) (by omega) (by omega)).2 (by omega)⟩
theorem nameR_F2 {f : Nat → Int32} {a r : Nat} (hF : pFind f (nI 0) a (a + 48) r) (hr : ¬ r < a + 48) : ¬ pNameR f a := by
  rintro ⟨e, h1, -, -, h2⟩
  exact hF.1 (a + e) (by omega) (by omega) (h2 e (Nat.le_refl _) h1)
theorem nameR_F3 {f : Nat → Int32} {a r i : Nat} (hF : pFind f (nI 0) a (a + 48) r) (hi : a ≤ i) (hi2 : i < a + 48) (hr : i < r) (hv : ¬ pVis (f i &&& 255)) : ¬ pNameR f a := by
  rintro ⟨e, h1, -, h3, h2⟩
  have ei : a + (i - a) = i := by omega
  rcases Nat.lt_or_ge (i - a) e with z | z
  · exact hv (by have := h3 (i - a) z; rwa [ei] at this)
  · exact hF.1 i hi hr (by have := h2 (i - a) z (by omega); rwa [ei] at this)
theorem nameR_F4 {f : Nat → Int32} {a r i : Nat} (hF : pFind f (nI 0) a (a + 48) r) (hi : a ≤ i) (hi2 : i < a + 48) (hr : ¬ i < r) (hv : ¬ f i &&& 255 = nI 0) : ¬ pNameR f a := by
  rintro ⟨e, h1, -, h3, h2⟩
  have ei : a + (i - a) = i := by omega
  rcases Nat.lt_or_ge (i - a) e with z | z
  · rcases hF.2 with w | w
    · omega
    · have h4 := h3 (r - a) (by omega)
      rw [show a + (r - a) = r by omega, w.2.2] at h4
      exact vis_ne0 h4
  · exact hv (by have := h2 (i - a) z (by omega); rwa [ei] at this)

set_option maxHeartbeats 4000000 in
set_option maxRecDepth 100000 in
theorem c_sameName (l : Launch) (g : GT) (ho : Nat) (hi : Nat) (he : Nat) (op : Nat) (qi : Nat) (ni : Nat) (si : Nat) (fi : Nat → Int32) (a : Nat) (b : Nat) (hi1 : si ≤ ni) (hi2 : ni ≤ 65535) (ha : a + 48 ≤ si) (hb2 : b + 48 ≤ si) : CT l g yX6_haveSameName wsX6_haveSameName ({ frames := 1, cells := 0, slots := 0, locals := 21 } : Room) [.ref ho, .int (nI a), .int (nI b)] [(ho, .inr (4, [.ref hi, .ref he, .int (nI op)])), (hi, .inr (3, [.int (nI 65535), .ref qi, .int (nI si)])), (qi, .inl (gB g, ni, .inl fi))] (fun r w => (r = some (.int (nI 1)) ∧ w = [(ho, .inr (4, [.ref hi, .ref he, .int (nI op)])), (hi, .inr (3, [.int (nI 65535), .ref qi, .int (nI si)])), (qi, .inl (gB g, ni, .inl fi))] ∧ (pSameN fi a b)) ∨ (r = some (.int (nI 0)) ∧ w = [(ho, .inr (4, [.ref hi, .ref he, .int (nI op)])), (hi, .inr (3, [.int (nI 65535), .ref qi, .int (nI si)])), (qi, .inl (gB g, ni, .inl fi))] ∧ (¬ (pSameN fi a b)))) (0) (0) := by
  refine ct_of (cc := cX6_haveSameName) (maxL := 5) (ret := (some .boolean)) (by decide) rfl (Nat.le_of_ble_eq_true rfl) ?_
  intro p e s m args below meth c A Q hx hb hr hml hown hts hlocks hnam hAe hQ hA hG hK hP hD hS ls hl
  have hl : lv_has ls 5 [(0, .ref ho), (1, .int (nI a)), (2, .int (nI b))] := hl
  have hown : s.vm.findClass RX6 = some m.cls := hown
  have hinX6 : ∀ w ∈ u_ws RX6 TX6 3, w ∈ wsX6_haveSameName := by decide +kernel
  have hf15 := hts (.fieldLink RX6 15 "RequestReader$Store" "image" "LRequestReader$Row;") (by decide +kernel)
  refine lv_iconst (v := nI 1) hx hb dX6_haveSameName_0 (by decide) ?_
  refine lv_istore_n (lv' := [(3, .int (nI 1)), (0, .ref ho), (1, .int (nI a)), (2, .int (nI b))]) hx hb dX6_haveSameName_1 rfl hl (by decide) rfl (fun ls hl => ?_)
  refine lv_iconst (v := nI 0) hx hb dX6_haveSameName_2 (by decide) ?_
  refine lv_istore (lv' := [(4, .int (nI 0)), (3, .int (nI 1)), (0, .ref ho), (1, .int (nI a)), (2, .int (nI b))]) hx hb dX6_haveSameName_3 hl (by decide) rfl (fun ls hl => ?_)
  have K5 : ∀ (N_ : Nat) (i : Nat), (i ≤ 48) → (∀ j, j < i → fi (a + j) &&& 255 = fi (b + j) &&& 255) → (48 - i) < N_ → ∀ (H : Heap) (locs : List Loc) (ls : Array Slot), va_P (gD g) vwCl [(ho, .inr (4, [.ref hi, .ref he, .int (nI op)])), (hi, .inr (3, [.int (nI 65535), .ref qi, .int (nI si)])), (qi, .inl (gB g, ni, .inl fi))] H → va_D A [(ho, .inr (4, [.ref hi, .ref he, .int (nI op)])), (hi, .inr (3, [.int (nI 65535), .ref qi, .int (nI si)])), (qi, .inl (gB g, ni, .inl fi))] → va_S A s.heap H locs → lv_has ls 5 [(0, .ref ho), (1, .int (nI a)), (2, .int (nI b)), (3, .int (nI 1)), (4, .int (nI i))] → W p l e ({ frames := 1, cells := 0, slots := 0, locals := 21 } : Room) s m args below meth c H locs (0) (0) Q (F0 m 5 ls []) := by
    intro N_
    induction N_ with
    | zero => intro i hi4 hall hm_; exact absurd hm_ (Nat.not_lt_zero _)
    | succ N_ ih_K5 =>
      intro i hi4 hall hm_ H locs ls hP hD hS hl
      refine lv_iload_n hx hb dX6_haveSameName_5 rfl (lv_at hl 3 rfl) ?_
      refine lv_if_eq (tgt := 53) hx hb dX6_haveSameName_6 (by decide) (fun c6 => absurd c6 (by decide)) (fun _ => ?_)
      refine lv_iload hx hb dX6_haveSameName_9 (lv_at hl 4 rfl) ?_
      refine lv_bipush (v := nI 48) hx hb dX6_haveSameName_11 (by decide) ?_
      refine lv_icmp_ge (tgt := 53) hx hb dX6_haveSameName_13 (by decide) (fun c13 => ?_) (fun c13 => ?_)
      · skip
        have c13 : 48 ≤ i := (nI_leI (a := 48) (b := i) (by omega) (by omega)).mp c13
        refine lv_iload_n hx hb dX6_haveSameName_53 rfl (lv_at hl 3 rfl) ?_
        refine ct_iret (w := [(ho, .inr (4, [.ref hi, .ref he, .int (nI op)])), (hi, .inr (3, [.int (nI 65535), .ref qi, .int (nI si)])), (qi, .inl (gB g, ni, .inl fi))]) hx hb hr rfl hlocks hQ hAe hK (hP.sub [0, 1, 2] rfl) (hD.sub [0, 1, 2] (by decide) rfl) hS (by omega) (by omega) dX6_haveSameName_54 ?_
        refine Or.inl (?_)
        exact ⟨rfl, rfl, by exact fun j hj => hall j (by omega)⟩
      · skip
        have c13 : ¬ (48 ≤ i) := fun z => c13 ((nI_leI (a := 48) (b := i) (by omega) (by omega)).mpr z)
        refine lv_aload_n hx hb dX6_haveSameName_16 rfl (lv_at hl 0 rfl) ?_
        refine va_get (D := gD g) (ci := 4) (v := .ref hi) (C := RX6) (T := TX6) (N := 3) hx hb hts hinX6 hown hK hP 0 rfl rfl 0 (by decide) hf15 (fun _ h9 => h9) rfl dX6_haveSameName_17 ?_
        refine lv_iload_n hx hb dX6_haveSameName_20 rfl (lv_at hl 1 rfl) ?_
        refine lv_iload hx hb dX6_haveSameName_21 (lv_at hl 4 rfl) ?_
        refine q_iadd (v := nI (a + i)) hx hb dX6_haveSameName_23 (nI_add a i) ?_
        refine ct_callV (wr := [(ho, .inr (4, [.ref hi, .ref he, .int (nI op)]))]) hx hb hml hown hts hK hP hD hS hA hG hl.1 (c_getIn l g hi qi 65535 ni si fi (a + i) (by omega) (by omega) (by omega)) (cwV 1 hts gX6_haveSameName_X4_get rfl rfl rfl (by decide +kernel) ⟨Nat.le_of_ble_eq_true rfl, Nat.le_of_ble_eq_true rfl⟩) (va_recv hK hP (ci := 3) (q0 := 1) rfl rfl) rfl rfl (Nat.le_of_ble_eq_true rfl) dX6_haveSameName_24 ⟨show 0 + 0 ≤ 0 by omega, show 0 + 0 ≤ 0 by omega⟩ [1, 2] [0] rfl rfl (by decide) (by decide) (by decide) (fun r_ w_ H locs hp_ hP hD hS => ?_)
        obtain ⟨rfl, rfl⟩ := hp_
        have hP : va_P (gD g) vwCl [(ho, .inr (4, [.ref hi, .ref he, .int (nI op)])), (hi, .inr (3, [.int (nI 65535), .ref qi, .int (nI si)])), (qi, .inl (gB g, ni, .inl fi))] H := hP
        have hD : va_D A [(ho, .inr (4, [.ref hi, .ref he, .int (nI op)])), (hi, .inr (3, [.int (nI 65535), .ref qi, .int (nI si)])), (qi, .inl (gB g, ni, .inl fi))] := hD
        refine W.eq (g2 := F0 m 27 ls [.int (fi (a + i) &&& 255)]) rfl ?_
        refine lv_aload_n hx hb dX6_haveSameName_27 rfl (lv_at hl 0 rfl) ?_
        refine va_get (D := gD g) (ci := 4) (v := .ref hi) (C := RX6) (T := TX6) (N := 3) hx hb hts hinX6 hown hK hP 0 rfl rfl 0 (by decide) hf15 (fun _ h9 => h9) rfl dX6_haveSameName_28 ?_
        refine lv_iload_n hx hb dX6_haveSameName_31 rfl (lv_at hl 2 rfl) ?_
        refine lv_iload hx hb dX6_haveSameName_32 (lv_at hl 4 rfl) ?_
        refine q_iadd (v := nI (b + i)) hx hb dX6_haveSameName_34 (nI_add b i) ?_
        refine ct_callV (wr := [(ho, .inr (4, [.ref hi, .ref he, .int (nI op)]))]) hx hb hml hown hts hK hP hD hS hA hG hl.1 (c_getIn l g hi qi 65535 ni si fi (b + i) (by omega) (by omega) (by omega)) (cwV 1 hts gX6_haveSameName_X4_get rfl rfl rfl (by decide +kernel) ⟨Nat.le_of_ble_eq_true rfl, Nat.le_of_ble_eq_true rfl⟩) (va_recv hK hP (ci := 3) (q0 := 1) rfl rfl) rfl rfl (Nat.le_of_ble_eq_true rfl) dX6_haveSameName_35 ⟨show 0 + 0 ≤ 0 by omega, show 0 + 0 ≤ 0 by omega⟩ [1, 2] [0] rfl rfl (by decide) (by decide) (by decide) (fun r_ w_ H locs hp_ hP hD hS => ?_)
        obtain ⟨rfl, rfl⟩ := hp_
        have hP : va_P (gD g) vwCl [(ho, .inr (4, [.ref hi, .ref he, .int (nI op)])), (hi, .inr (3, [.int (nI 65535), .ref qi, .int (nI si)])), (qi, .inl (gB g, ni, .inl fi))] H := hP
        have hD : va_D A [(ho, .inr (4, [.ref hi, .ref he, .int (nI op)])), (hi, .inr (3, [.int (nI 65535), .ref qi, .int (nI si)])), (qi, .inl (gB g, ni, .inl fi))] := hD
        refine W.eq (g2 := F0 m 38 ls [.int (fi (b + i) &&& 255), .int (fi (a + i) &&& 255)]) rfl ?_
        refine lv_icmp_ne (tgt := 45) hx hb dX6_haveSameName_38 (by decide) (fun c38 => ?_) (fun c38 => ?_)
        · skip
          refine lv_iconst (v := nI 0) hx hb dX6_haveSameName_45 (by decide) ?_
          refine lv_istore_n (lv' := [(3, .int (nI 0)), (0, .ref ho), (1, .int (nI a)), (2, .int (nI b)), (4, .int (nI i))]) hx hb dX6_haveSameName_46 rfl hl (by decide) rfl (fun ls hl => ?_)
          refine lv_iinc (v := nI (i + 1)) (lv' := [(4, .int (nI (i + 1))), (3, .int (nI 0)), (0, .ref ho), (1, .int (nI a)), (2, .int (nI b))]) hx hb dX6_haveSameName_47 hl (k := 4) rfl (nI_inc i 1) (by decide) rfl (fun ls hl => ?_)
          refine lv_goto (tgt := 5) hx hb dX6_haveSameName_50 (by decide) ?_
          refine lv_iload_n hx hb dX6_haveSameName_5 rfl (lv_at hl 1 rfl) ?_
          refine lv_if_eq (tgt := 53) hx hb dX6_haveSameName_6 (by decide) (fun _ => ?_) (fun c6 => absurd (by decide) c6)
          refine lv_iload_n hx hb dX6_haveSameName_53 rfl (lv_at hl 1 rfl) ?_
          refine ct_iret (w := [(ho, .inr (4, [.ref hi, .ref he, .int (nI op)])), (hi, .inr (3, [.int (nI 65535), .ref qi, .int (nI si)])), (qi, .inl (gB g, ni, .inl fi))]) hx hb hr rfl hlocks hQ hAe hK (hP.sub [0, 1, 2] rfl) (hD.sub [0, 1, 2] (by decide) rfl) hS (by omega) (by omega) dX6_haveSameName_54 ?_
          refine Or.inr ((?_))
          exact ⟨rfl, rfl, by exact fun z => c38 (z i (by omega))⟩
        · skip
          refine lv_iconst (v := nI 1) hx hb dX6_haveSameName_41 (by decide) ?_
          refine lv_goto (tgt := 46) hx hb dX6_haveSameName_42 (by decide) ?_
          refine lv_istore_n (lv' := [(3, .int (nI 1)), (0, .ref ho), (1, .int (nI a)), (2, .int (nI b)), (4, .int (nI i))]) hx hb dX6_haveSameName_46 rfl hl (by decide) rfl (fun ls hl => ?_)
          refine lv_iinc (v := nI (i + 1)) (lv' := [(4, .int (nI (i + 1))), (3, .int (nI 1)), (0, .ref ho), (1, .int (nI a)), (2, .int (nI b))]) hx hb dX6_haveSameName_47 hl (k := 4) rfl (nI_inc i 1) (by decide) rfl (fun ls hl => ?_)
          refine lv_goto (tgt := 5) hx hb dX6_haveSameName_50 (by decide) ?_
          exact ih_K5 (i + 1) (by omega) (by exact lt_s hall c38) (by omega) _ _ _ (hP.sub [0, 1, 2] rfl) (hD.sub [0, 1, 2] (by decide) rfl) hS (lv_sub hl [2, 3, 4, 1, 0] rfl)
  exact K5 ((48 - 0) + 1) 0 (by omega) (by intro j h1; omega) (Nat.lt_succ_self _) _ _ _ (hP.sub [0, 1, 2] rfl) (hD.sub [0, 1, 2] (by decide) rfl) hS (lv_sub hl [2, 3, 4, 1, 0] rfl)

set_option maxHeartbeats 4000000 in
set_option maxRecDepth 100000 in
theorem c_nameNew (l : Launch) (g : GT) (ho : Nat) (hi : Nat) (he : Nat) (op : Nat) (qi : Nat) (ni : Nat) (si : Nat) (fi : Nat → Int32) (i : Nat) (hi1 : si ≤ ni) (hi2 : ni ≤ 65535) (hic : i ≤ 64) (his : 8 + (i + 1) * 64 ≤ si) : CT l g yX6_isNameNew wsX6_isNameNew ({ frames := 2, cells := 0, slots := 0, locals := 45 } : Room) [.ref ho, .int (nI i)] [(ho, .inr (4, [.ref hi, .ref he, .int (nI op)])), (hi, .inr (3, [.int (nI 65535), .ref qi, .int (nI si)])), (qi, .inl (gB g, ni, .inl fi))] (fun r w => (r = some (.int (nI 1)) ∧ w = [(ho, .inr (4, [.ref hi, .ref he, .int (nI op)])), (hi, .inr (3, [.int (nI 65535), .ref qi, .int (nI si)])), (qi, .inl (gB g, ni, .inl fi))] ∧ (pNew fi i)) ∨ (r = some (.int (nI 0)) ∧ w = [(ho, .inr (4, [.ref hi, .ref he, .int (nI op)])), (hi, .inr (3, [.int (nI 65535), .ref qi, .int (nI si)])), (qi, .inl (gB g, ni, .inl fi))] ∧ (¬ (pNew fi i)))) (0) (0) := by
  refine ct_of (cc := cX6_isNameNew) (maxL := 4) (ret := (some .boolean)) (by decide) rfl (Nat.le_of_ble_eq_true rfl) ?_
  intro p e s m args below meth c A Q hx hb hr hml hown hts hlocks hnam hAe hQ hA hG hK hP hD hS ls hl
  have hl : lv_has ls 4 [(0, .ref ho), (1, .int (nI i))] := hl
  have hown : s.vm.findClass RX6 = some m.cls := hown
  refine lv_iconst (v := nI 1) hx hb dX6_isNameNew_0 (by decide) ?_
  refine lv_istore_n (lv' := [(2, .int (nI 1)), (0, .ref ho), (1, .int (nI i))]) hx hb dX6_isNameNew_1 rfl hl (by decide) rfl (fun ls hl => ?_)
  refine lv_iconst (v := nI 0) hx hb dX6_isNameNew_2 (by decide) ?_
  refine lv_istore_n (lv' := [(3, .int (nI 0)), (2, .int (nI 1)), (0, .ref ho), (1, .int (nI i))]) hx hb dX6_isNameNew_3 rfl hl (by decide) rfl (fun ls hl => ?_)
  have K4 : ∀ (N_ : Nat) (t : Nat), (t ≤ i) → (∀ j, j < t → ¬ pSameN fi (8 + j * 64) (8 + i * 64)) → (i - t) < N_ → ∀ (H : Heap) (locs : List Loc) (ls : Array Slot), va_P (gD g) vwCl [(ho, .inr (4, [.ref hi, .ref he, .int (nI op)])), (hi, .inr (3, [.int (nI 65535), .ref qi, .int (nI si)])), (qi, .inl (gB g, ni, .inl fi))] H → va_D A [(ho, .inr (4, [.ref hi, .ref he, .int (nI op)])), (hi, .inr (3, [.int (nI 65535), .ref qi, .int (nI si)])), (qi, .inl (gB g, ni, .inl fi))] → va_S A s.heap H locs → lv_has ls 4 [(0, .ref ho), (1, .int (nI i)), (2, .int (nI 1)), (3, .int (nI t))] → W p l e ({ frames := 2, cells := 0, slots := 0, locals := 45 } : Room) s m args below meth c H locs (0) (0) Q (F0 m 4 ls []) := by
    intro N_
    induction N_ with
    | zero => intro t ht hall hm_; exact absurd hm_ (Nat.not_lt_zero _)
    | succ N_ ih_K4 =>
      intro t ht hall hm_ H locs ls hP hD hS hl
      refine lv_iload_n hx hb dX6_isNameNew_4 rfl (lv_at hl 2 rfl) ?_
      refine lv_if_eq (tgt := 46) hx hb dX6_isNameNew_5 (by decide) (fun c5 => absurd c5 (by decide)) (fun _ => ?_)
      refine lv_iload_n hx hb dX6_isNameNew_8 rfl (lv_at hl 3 rfl) ?_
      refine lv_iload_n hx hb dX6_isNameNew_9 rfl (lv_at hl 1 rfl) ?_
      refine lv_icmp_ge (tgt := 46) hx hb dX6_isNameNew_10 (by decide) (fun c10 => ?_) (fun c10 => ?_)
      · skip
        have c10 : i ≤ t := (nI_leI (a := i) (b := t) (by omega) (by omega)).mp c10
        refine lv_iload_n hx hb dX6_isNameNew_46 rfl (lv_at hl 2 rfl) ?_
        refine ct_iret (w := [(ho, .inr (4, [.ref hi, .ref he, .int (nI op)])), (hi, .inr (3, [.int (nI 65535), .ref qi, .int (nI si)])), (qi, .inl (gB g, ni, .inl fi))]) hx hb hr rfl hlocks hQ hAe hK (hP.sub [0, 1, 2] rfl) (hD.sub [0, 1, 2] (by decide) rfl) hS (by omega) (by omega) dX6_isNameNew_47 ?_
        refine Or.inl (?_)
        exact ⟨rfl, rfl, by exact fun j hj => hall j (by omega)⟩
      · skip
        have c10 : ¬ (i ≤ t) := fun z => c10 ((nI_leI (a := i) (b := t) (by omega) (by omega)).mpr z)
        refine lv_aload_n hx hb dX6_isNameNew_13 rfl (lv_at hl 0 rfl) ?_
        refine lv_bipush (v := nI 8) hx hb dX6_isNameNew_14 (by decide) ?_
        refine lv_iload_n hx hb dX6_isNameNew_16 rfl (lv_at hl 3 rfl) ?_
        refine lv_bipush (v := nI 64) hx hb dX6_isNameNew_17 (by decide) ?_
        refine q_imul (v := nI (t * 64)) hx hb dX6_isNameNew_19 (pk_mul t 64) ?_
        refine q_iadd (v := nI (8 + (t * 64))) hx hb dX6_isNameNew_20 (nI_add 8 (t * 64)) ?_
        refine lv_bipush (v := nI 8) hx hb dX6_isNameNew_21 (by decide) ?_
        refine lv_iload_n hx hb dX6_isNameNew_23 rfl (lv_at hl 1 rfl) ?_
        refine lv_bipush (v := nI 64) hx hb dX6_isNameNew_24 (by decide) ?_
        refine q_imul (v := nI (i * 64)) hx hb dX6_isNameNew_26 (pk_mul i 64) ?_
        refine q_iadd (v := nI (8 + (i * 64))) hx hb dX6_isNameNew_27 (nI_add 8 (i * 64)) ?_
        refine ct_callV (wr := []) hx hb hml hown hts hK hP hD hS hA hG hl.1 (c_sameName l g ho hi he op qi ni si fi (8 + (t * 64)) (8 + (i * 64)) (by omega) (by omega) (by omega) (by omega)) (cwV 2 hts gX6_isNameNew_X6_haveSameName rfl rfl rfl (by decide +kernel) ⟨Nat.le_of_ble_eq_true rfl, Nat.le_of_ble_eq_true rfl⟩) (va_recv hK hP (ci := 4) (q0 := 0) rfl rfl) rfl rfl (Nat.le_of_ble_eq_true rfl) dX6_isNameNew_28 ⟨show 0 + 0 ≤ 0 by omega, show 0 + 0 ≤ 0 by omega⟩ [0, 1, 2] [] rfl rfl (by decide) (by decide) (by decide) (fun r_ w_ H locs hp_ hP hD hS => ?_)
        rcases hp_ with ⟨rfl, rfl, hT_28⟩ | ⟨rfl, rfl, hF_28⟩
        · skip
          have hP : va_P (gD g) vwCl [(ho, .inr (4, [.ref hi, .ref he, .int (nI op)])), (hi, .inr (3, [.int (nI 65535), .ref qi, .int (nI si)])), (qi, .inl (gB g, ni, .inl fi))] H := hP
          have hD : va_D A [(ho, .inr (4, [.ref hi, .ref he, .int (nI op)])), (hi, .inr (3, [.int (nI 65535), .ref qi, .int (nI si)])), (qi, .inl (gB g, ni, .inl fi))] := hD
          have hT_28 : pSameN fi (8 + (t * 64)) (8 + (i * 64)) := hT_28
          refine W.eq (g2 := F0 m 31 ls [.int (nI 1)]) rfl ?_
          refine lv_if_ne (tgt := 38) hx hb dX6_isNameNew_31 (by decide) (fun _ => ?_) (fun c31 => absurd c31 (by decide))
          refine lv_iconst (v := nI 0) hx hb dX6_isNameNew_38 (by decide) ?_
          refine lv_istore_n (lv' := [(2, .int (nI 0)), (0, .ref ho), (1, .int (nI i)), (3, .int (nI t))]) hx hb dX6_isNameNew_39 rfl hl (by decide) rfl (fun ls hl => ?_)
          refine lv_iinc (v := nI (t + 1)) (lv' := [(3, .int (nI (t + 1))), (2, .int (nI 0)), (0, .ref ho), (1, .int (nI i))]) hx hb dX6_isNameNew_40 hl (k := 3) rfl (nI_inc t 1) (by decide) rfl (fun ls hl => ?_)
          refine lv_goto (tgt := 4) hx hb dX6_isNameNew_43 (by decide) ?_
          refine lv_iload_n hx hb dX6_isNameNew_4 rfl (lv_at hl 1 rfl) ?_
          refine lv_if_eq (tgt := 46) hx hb dX6_isNameNew_5 (by decide) (fun _ => ?_) (fun c5 => absurd (by decide) c5)
          refine lv_iload_n hx hb dX6_isNameNew_46 rfl (lv_at hl 1 rfl) ?_
          refine ct_iret (w := [(ho, .inr (4, [.ref hi, .ref he, .int (nI op)])), (hi, .inr (3, [.int (nI 65535), .ref qi, .int (nI si)])), (qi, .inl (gB g, ni, .inl fi))]) hx hb hr rfl hlocks hQ hAe hK (hP.sub [0, 1, 2] rfl) (hD.sub [0, 1, 2] (by decide) rfl) hS (by omega) (by omega) dX6_isNameNew_47 ?_
          refine Or.inr ((?_))
          exact ⟨rfl, rfl, by exact fun z => z t (by omega) hT_28⟩
        · skip
          have hP : va_P (gD g) vwCl [(ho, .inr (4, [.ref hi, .ref he, .int (nI op)])), (hi, .inr (3, [.int (nI 65535), .ref qi, .int (nI si)])), (qi, .inl (gB g, ni, .inl fi))] H := hP
          have hD : va_D A [(ho, .inr (4, [.ref hi, .ref he, .int (nI op)])), (hi, .inr (3, [.int (nI 65535), .ref qi, .int (nI si)])), (qi, .inl (gB g, ni, .inl fi))] := hD
          have hF_28 : ¬ (pSameN fi (8 + (t * 64)) (8 + (i * 64))) := hF_28
          refine W.eq (g2 := F0 m 31 ls [.int (nI 0)]) rfl ?_
          refine lv_if_ne (tgt := 38) hx hb dX6_isNameNew_31 (by decide) (fun c31 => absurd (by decide) c31) (fun _ => ?_)
          refine lv_iconst (v := nI 1) hx hb dX6_isNameNew_34 (by decide) ?_
          refine lv_goto (tgt := 39) hx hb dX6_isNameNew_35 (by decide) ?_
          refine lv_istore_n (lv' := [(2, .int (nI 1)), (0, .ref ho), (1, .int (nI i)), (3, .int (nI t))]) hx hb dX6_isNameNew_39 rfl hl (by decide) rfl (fun ls hl => ?_)
          refine lv_iinc (v := nI (t + 1)) (lv' := [(3, .int (nI (t + 1))), (2, .int (nI 1)), (0, .ref ho), (1, .int (nI i))]) hx hb dX6_isNameNew_40 hl (k := 3) rfl (nI_inc t 1) (by decide) rfl (fun ls hl => ?_)
          refine lv_goto (tgt := 4) hx hb dX6_isNameNew_43 (by decide) ?_
          exact ih_K4 (t + 1) (by omega) (by exact lt_s hall hF_28) (by omega) _ _ _ (hP.sub [0, 1, 2] rfl) (hD.sub [0, 1, 2] (by decide) rfl) hS (lv_sub hl [2, 3, 1, 0] rfl)
  exact K4 ((i - 0) + 1) 0 (by omega) (by intro j h1; omega) (Nat.lt_succ_self _) _ _ _ (hP.sub [0, 1, 2] rfl) (hD.sub [0, 1, 2] (by decide) rfl) hS (lv_sub hl [2, 3, 1, 0] rfl)

set_option maxHeartbeats 4000000 in
set_option maxRecDepth 100000 in
theorem c_nameRight (l : Launch) (g : GT) (ho : Nat) (hi : Nat) (he : Nat) (op : Nat) (qi : Nat) (ni : Nat) (si : Nat) (fi : Nat → Int32) (a : Nat) (hi1 : si ≤ ni) (hi2 : ni ≤ 65535) (ha : a + 48 ≤ si) : CT l g yX6_isNameRight wsX6_isNameRight ({ frames := 2, cells := 0, slots := 0, locals := 45 } : Room) [.ref ho, .int (nI a)] [(ho, .inr (4, [.ref hi, .ref he, .int (nI op)])), (hi, .inr (3, [.int (nI 65535), .ref qi, .int (nI si)])), (qi, .inl (gB g, ni, .inl fi))] (fun r w => (r = some (.int (nI 1)) ∧ w = [(ho, .inr (4, [.ref hi, .ref he, .int (nI op)])), (hi, .inr (3, [.int (nI 65535), .ref qi, .int (nI si)])), (qi, .inl (gB g, ni, .inl fi))] ∧ (pNameR fi a)) ∨ (r = some (.int (nI 0)) ∧ w = [(ho, .inr (4, [.ref hi, .ref he, .int (nI op)])), (hi, .inr (3, [.int (nI 65535), .ref qi, .int (nI si)])), (qi, .inl (gB g, ni, .inl fi))] ∧ (¬ (pNameR fi a)))) (0) (0) := by
  refine ct_of (cc := cX6_isNameRight) (maxL := 6) (ret := (some .boolean)) (by decide) rfl (Nat.le_of_ble_eq_true rfl) ?_
  intro p e s m args below meth c A Q hx hb hr hml hown hts hlocks hnam hAe hQ hA hG hK hP hD hS ls hl
  have hl : lv_has ls 6 [(0, .ref ho), (1, .int (nI a))] := hl
  have hown : s.vm.findClass RX6 = some m.cls := hown
  have hinX6 : ∀ w ∈ u_ws RX6 TX6 3, w ∈ wsX6_isNameRight := by decide +kernel
  have hf15 := hts (.fieldLink RX6 15 "RequestReader$Store" "image" "LRequestReader$Row;") (by decide +kernel)
  refine lv_aload_n hx hb dX6_isNameRight_0 rfl (lv_at hl 0 rfl) ?_
  refine va_get (D := gD g) (ci := 4) (v := .ref hi) (C := RX6) (T := TX6) (N := 3) hx hb hts hinX6 hown hK hP 0 rfl rfl 0 (by decide) hf15 (fun _ h9 => h9) rfl dX6_isNameRight_1 ?_
  refine lv_iconst (v := nI 0) hx hb dX6_isNameRight_4 (by decide) ?_
  refine lv_iload_n hx hb dX6_isNameRight_5 rfl (lv_at hl 1 rfl) ?_
  refine lv_iload_n hx hb dX6_isNameRight_6 rfl (lv_at hl 1 rfl) ?_
  refine lv_bipush (v := nI 48) hx hb dX6_isNameRight_7 (by decide) ?_
  refine q_iadd (v := nI (a + 48)) hx hb dX6_isNameRight_9 (nI_add a 48) ?_
  refine ct_callV (wr := [(ho, .inr (4, [.ref hi, .ref he, .int (nI op)]))]) hx hb hml hown hts hK hP hD hS hA hG hl.1 (c_find l g hi qi 65535 ni si fi (nI 0) a (a + 48) (by omega) (by omega) (by omega) (by omega)) (cwV 3 hts gX6_isNameRight_X4_find rfl rfl rfl (by decide +kernel) ⟨Nat.le_of_ble_eq_true rfl, Nat.le_of_ble_eq_true rfl⟩) (va_recv hK hP (ci := 3) (q0 := 1) rfl rfl) rfl rfl (Nat.le_of_ble_eq_true rfl) dX6_isNameRight_10 ⟨show 0 + 0 ≤ 0 by omega, show 0 + 0 ≤ 0 by omega⟩ [1, 2] [0] rfl rfl (by decide) (by decide) (by decide) (fun r_ w_ H locs hp_ hP hD hS => ?_)
  obtain ⟨r1_10, rfl, rfl, hF_10, hrb_10⟩ := hp_
  have hP : va_P (gD g) vwCl [(ho, .inr (4, [.ref hi, .ref he, .int (nI op)])), (hi, .inr (3, [.int (nI 65535), .ref qi, .int (nI si)])), (qi, .inl (gB g, ni, .inl fi))] H := hP
  have hD : va_D A [(ho, .inr (4, [.ref hi, .ref he, .int (nI op)])), (hi, .inr (3, [.int (nI 65535), .ref qi, .int (nI si)])), (qi, .inl (gB g, ni, .inl fi))] := hD
  have hF_10 : pFind fi (nI 0) a (a + 48) r1_10 := hF_10
  have hrb_10 : r1_10 ≤ (a + 48) := hrb_10
  refine W.eq (g2 := F0 m 13 ls [.int (nI r1_10)]) rfl ?_
  refine lv_istore_n (lv' := [(2, .int (nI r1_10)), (0, .ref ho), (1, .int (nI a))]) hx hb dX6_isNameRight_13 rfl hl (by decide) rfl (fun ls hl => ?_)
  refine lv_aload_n hx hb dX6_isNameRight_14 rfl (lv_at hl 1 rfl) ?_
  refine va_get (D := gD g) (ci := 4) (v := .ref hi) (C := RX6) (T := TX6) (N := 3) hx hb hts hinX6 hown hK hP 0 rfl rfl 0 (by decide) hf15 (fun _ h9 => h9) rfl dX6_isNameRight_15 ?_
  refine lv_iload_n hx hb dX6_isNameRight_18 rfl (lv_at hl 2 rfl) ?_
  refine ct_callV (wr := [(ho, .inr (4, [.ref hi, .ref he, .int (nI op)]))]) hx hb hml hown hts hK hP hD hS hA hG hl.1 (c_getIn l g hi qi 65535 ni si fi a (by omega) (by omega) (by omega)) (cwV 1 hts gX6_isNameRight_X4_get rfl rfl rfl (by decide +kernel) ⟨Nat.le_of_ble_eq_true rfl, Nat.le_of_ble_eq_true rfl⟩) (va_recv hK hP (ci := 3) (q0 := 1) rfl rfl) rfl rfl (Nat.le_of_ble_eq_true rfl) dX6_isNameRight_19 ⟨show 0 + 0 ≤ 0 by omega, show 0 + 0 ≤ 0 by omega⟩ [1, 2] [0] rfl rfl (by decide) (by decide) (by decide) (fun r_ w_ H locs hp_ hP hD hS => ?_)
  obtain ⟨rfl, rfl⟩ := hp_
  have hP : va_P (gD g) vwCl [(ho, .inr (4, [.ref hi, .ref he, .int (nI op)])), (hi, .inr (3, [.int (nI 65535), .ref qi, .int (nI si)])), (qi, .inl (gB g, ni, .inl fi))] H := hP
  have hD : va_D A [(ho, .inr (4, [.ref hi, .ref he, .int (nI op)])), (hi, .inr (3, [.int (nI 65535), .ref qi, .int (nI si)])), (qi, .inl (gB g, ni, .inl fi))] := hD
  refine W.eq (g2 := F0 m 22 ls [.int (fi a &&& 255)]) rfl ?_
  refine lv_bipush (v := nI 47) hx hb dX6_isNameRight_22 (by decide) ?_
  refine lv_icmp_ne (tgt := 39) hx hb dX6_isNameRight_24 (by decide) (fun c24 => ?_) (fun c24 => ?_)
  · skip
    refine lv_iconst (v := nI 0) hx hb dX6_isNameRight_39 (by decide) ?_
    refine lv_istore_n (lv' := [(3, .int (nI 0)), (2, .int (nI r1_10)), (0, .ref ho), (1, .int (nI a))]) hx hb dX6_isNameRight_40 rfl hl (by decide) rfl (fun ls hl => ?_)
    refine lv_iload_n hx hb dX6_isNameRight_41 rfl (lv_at hl 3 rfl) ?_
    refine lv_istore (lv' := [(4, .int (nI a)), (3, .int (nI 0)), (2, .int (nI r1_10)), (0, .ref ho), (1, .int (nI a))]) hx hb dX6_isNameRight_42 hl (by decide) rfl (fun ls hl => ?_)
    refine lv_iload_n hx hb dX6_isNameRight_44 rfl (lv_at hl 1 rfl) ?_
    refine lv_if_eq (tgt := 99) hx hb dX6_isNameRight_45 (by decide) (fun _ => ?_) (fun c45 => absurd (by decide) c45)
    refine lv_iload_n hx hb dX6_isNameRight_99 rfl (lv_at hl 1 rfl) ?_
    refine ct_iret (w := [(ho, .inr (4, [.ref hi, .ref he, .int (nI op)])), (hi, .inr (3, [.int (nI 65535), .ref qi, .int (nI si)])), (qi, .inl (gB g, ni, .inl fi))]) hx hb hr rfl hlocks hQ hAe hK (hP.sub [0, 1, 2] rfl) (hD.sub [0, 1, 2] (by decide) rfl) hS (by omega) (by omega) dX6_isNameRight_100 ?_
    refine Or.inr ((?_))
    exact ⟨rfl, rfl, by first | exact fun z => z.elim (fun e w => c24 w.2.1) | exact nameR_F2 hF_10 (by omega) | exact nameR_F3 hF_10 hai (by omega) (by omega) hF_76 | exact nameR_F4 hF_10 hai (by omega) (by omega) c84⟩
  · skip
    refine lv_iload_n hx hb dX6_isNameRight_27 rfl (lv_at hl 0 rfl) ?_
    refine lv_iload_n hx hb dX6_isNameRight_28 rfl (lv_at hl 2 rfl) ?_
    refine lv_bipush (v := nI 48) hx hb dX6_isNameRight_29 (by decide) ?_
    refine q_iadd (v := nI (a + 48)) hx hb dX6_isNameRight_31 (nI_add a 48) ?_
    refine lv_icmp_ge (tgt := 39) hx hb dX6_isNameRight_32 (by decide) (fun c32 => ?_) (fun c32 => ?_)
    · skip
      have c32 : a + 48 ≤ r1_10 := (nI_leI (a := a + 48) (b := r1_10) (by omega) (by omega)).mp c32
      refine lv_iconst (v := nI 0) hx hb dX6_isNameRight_39 (by decide) ?_
      refine lv_istore_n (lv' := [(3, .int (nI 0)), (2, .int (nI r1_10)), (0, .ref ho), (1, .int (nI a))]) hx hb dX6_isNameRight_40 rfl hl (by decide) rfl (fun ls hl => ?_)
      refine lv_iload_n hx hb dX6_isNameRight_41 rfl (lv_at hl 3 rfl) ?_
      refine lv_istore (lv' := [(4, .int (nI a)), (3, .int (nI 0)), (2, .int (nI r1_10)), (0, .ref ho), (1, .int (nI a))]) hx hb dX6_isNameRight_42 hl (by decide) rfl (fun ls hl => ?_)
      refine lv_iload_n hx hb dX6_isNameRight_44 rfl (lv_at hl 1 rfl) ?_
      refine lv_if_eq (tgt := 99) hx hb dX6_isNameRight_45 (by decide) (fun _ => ?_) (fun c45 => absurd (by decide) c45)
      refine lv_iload_n hx hb dX6_isNameRight_99 rfl (lv_at hl 1 rfl) ?_
      refine ct_iret (w := [(ho, .inr (4, [.ref hi, .ref he, .int (nI op)])), (hi, .inr (3, [.int (nI 65535), .ref qi, .int (nI si)])), (qi, .inl (gB g, ni, .inl fi))]) hx hb hr rfl hlocks hQ hAe hK (hP.sub [0, 1, 2] rfl) (hD.sub [0, 1, 2] (by decide) rfl) hS (by omega) (by omega) dX6_isNameRight_100 ?_
      refine Or.inr ((?_))
      exact ⟨rfl, rfl, by first | exact fun z => z.elim (fun e w => c24 w.2.1) | exact nameR_F2 hF_10 (by omega) | exact nameR_F3 hF_10 hai (by omega) (by omega) hF_76 | exact nameR_F4 hF_10 hai (by omega) (by omega) c84⟩
    · skip
      have c32 : ¬ (a + 48 ≤ r1_10) := fun z => c32 ((nI_leI (a := a + 48) (b := r1_10) (by omega) (by omega)).mpr z)
      refine lv_iconst (v := nI 1) hx hb dX6_isNameRight_35 (by decide) ?_
      refine lv_goto (tgt := 40) hx hb dX6_isNameRight_36 (by decide) ?_
      refine lv_istore_n (lv' := [(3, .int (nI 1)), (2, .int (nI r1_10)), (0, .ref ho), (1, .int (nI a))]) hx hb dX6_isNameRight_40 rfl hl (by decide) rfl (fun ls hl => ?_)
      refine lv_iload_n hx hb dX6_isNameRight_41 rfl (lv_at hl 3 rfl) ?_
      refine lv_istore (lv' := [(4, .int (nI a)), (3, .int (nI 1)), (2, .int (nI r1_10)), (0, .ref ho), (1, .int (nI a))]) hx hb dX6_isNameRight_42 hl (by decide) rfl (fun ls hl => ?_)
      have K44 : ∀ (N_ : Nat) (i : Nat), (a ≤ i) → (i ≤ a + 48) → (∀ j, a ≤ j → j < i → (j < r1_10 → pVis (fi j &&& 255)) ∧ (¬ j < r1_10 → fi j &&& 255 = nI 0)) → (a + 48 - i) < N_ → ∀ (H : Heap) (locs : List Loc) (ls : Array Slot), va_P (gD g) vwCl [(ho, .inr (4, [.ref hi, .ref he, .int (nI op)])), (hi, .inr (3, [.int (nI 65535), .ref qi, .int (nI si)])), (qi, .inl (gB g, ni, .inl fi))] H → va_D A [(ho, .inr (4, [.ref hi, .ref he, .int (nI op)])), (hi, .inr (3, [.int (nI 65535), .ref qi, .int (nI si)])), (qi, .inl (gB g, ni, .inl fi))] → va_S A s.heap H locs → lv_has ls 6 [(0, .ref ho), (1, .int (nI a)), (2, .int (nI r1_10)), (3, .int (nI 1)), (4, .int (nI i))] → W p l e ({ frames := 2, cells := 0, slots := 0, locals := 45 } : Room) s m args below meth c H locs (0) (0) Q (F0 m 44 ls []) := by
        intro N_
        induction N_ with
        | zero => intro i hai hi4 hall hm_; exact absurd hm_ (Nat.not_lt_zero _)
        | succ N_ ih_K44 =>
          intro i hai hi4 hall hm_ H locs ls hP hD hS hl
          refine lv_iload_n hx hb dX6_isNameRight_44 rfl (lv_at hl 3 rfl) ?_
          refine lv_if_eq (tgt := 99) hx hb dX6_isNameRight_45 (by decide) (fun c45 => absurd c45 (by decide)) (fun _ => ?_)
          refine lv_iload hx hb dX6_isNameRight_48 (lv_at hl 4 rfl) ?_
          refine lv_iload_n hx hb dX6_isNameRight_50 rfl (lv_at hl 1 rfl) ?_
          refine lv_bipush (v := nI 48) hx hb dX6_isNameRight_51 (by decide) ?_
          refine q_iadd (v := nI (a + 48)) hx hb dX6_isNameRight_53 (nI_add a 48) ?_
          refine lv_icmp_ge (tgt := 99) hx hb dX6_isNameRight_54 (by decide) (fun c54 => ?_) (fun c54 => ?_)
          · skip
            have c54 : a + 48 ≤ i := (nI_leI (a := a + 48) (b := i) (by omega) (by omega)).mp c54
            refine lv_iload_n hx hb dX6_isNameRight_99 rfl (lv_at hl 3 rfl) ?_
            refine ct_iret (w := [(ho, .inr (4, [.ref hi, .ref he, .int (nI op)])), (hi, .inr (3, [.int (nI 65535), .ref qi, .int (nI si)])), (qi, .inl (gB g, ni, .inl fi))]) hx hb hr rfl hlocks hQ hAe hK (hP.sub [0, 1, 2] rfl) (hD.sub [0, 1, 2] (by decide) rfl) hS (by omega) (by omega) dX6_isNameRight_100 ?_
            refine Or.inl (?_)
            exact ⟨rfl, rfl, by exact nameR_T hF_10 c24 (by omega) (by omega) hall⟩
          · skip
            have c54 : ¬ (a + 48 ≤ i) := fun z => c54 ((nI_leI (a := a + 48) (b := i) (by omega) (by omega)).mpr z)
            refine lv_aload_n hx hb dX6_isNameRight_57 rfl (lv_at hl 0 rfl) ?_
            refine va_get (D := gD g) (ci := 4) (v := .ref hi) (C := RX6) (T := TX6) (N := 3) hx hb hts hinX6 hown hK hP 0 rfl rfl 0 (by decide) hf15 (fun _ h9 => h9) rfl dX6_isNameRight_58 ?_
            refine lv_iload hx hb dX6_isNameRight_61 (lv_at hl 4 rfl) ?_
            refine ct_callV (wr := [(ho, .inr (4, [.ref hi, .ref he, .int (nI op)]))]) hx hb hml hown hts hK hP hD hS hA hG hl.1 (c_getIn l g hi qi 65535 ni si fi i (by omega) (by omega) (by omega)) (cwV 1 hts gX6_isNameRight_X4_get rfl rfl rfl (by decide +kernel) ⟨Nat.le_of_ble_eq_true rfl, Nat.le_of_ble_eq_true rfl⟩) (va_recv hK hP (ci := 3) (q0 := 1) rfl rfl) rfl rfl (Nat.le_of_ble_eq_true rfl) dX6_isNameRight_63 ⟨show 0 + 0 ≤ 0 by omega, show 0 + 0 ≤ 0 by omega⟩ [1, 2] [0] rfl rfl (by decide) (by decide) (by decide) (fun r_ w_ H locs hp_ hP hD hS => ?_)
            obtain ⟨rfl, rfl⟩ := hp_
            have hP : va_P (gD g) vwCl [(ho, .inr (4, [.ref hi, .ref he, .int (nI op)])), (hi, .inr (3, [.int (nI 65535), .ref qi, .int (nI si)])), (qi, .inl (gB g, ni, .inl fi))] H := hP
            have hD : va_D A [(ho, .inr (4, [.ref hi, .ref he, .int (nI op)])), (hi, .inr (3, [.int (nI 65535), .ref qi, .int (nI si)])), (qi, .inl (gB g, ni, .inl fi))] := hD
            refine W.eq (g2 := F0 m 66 ls [.int (fi i &&& 255)]) rfl ?_
            refine lv_istore (lv' := [(5, .int (fi i &&& 255)), (0, .ref ho), (1, .int (nI a)), (2, .int (nI r1_10)), (3, .int (nI 1)), (4, .int (nI i))]) hx hb dX6_isNameRight_66 hl (by decide) rfl (fun ls hl => ?_)
            refine lv_iload hx hb dX6_isNameRight_68 (lv_at hl 5 rfl) ?_
            refine lv_iload_n hx hb dX6_isNameRight_70 rfl (lv_at hl 3 rfl) ?_
            refine lv_icmp_ge (tgt := 82) hx hb dX6_isNameRight_71 (by decide) (fun c71 => ?_) (fun c71 => ?_)
            · skip
              have c71 : r1_10 ≤ i := (nI_leI (a := r1_10) (b := i) (by omega) (by omega)).mp c71
              refine lv_iload hx hb dX6_isNameRight_82 (lv_at hl 0 rfl) ?_
              refine lv_if_ne (tgt := 91) hx hb dX6_isNameRight_84 (by decide) (fun c84 => ?_) (fun c84 => ?_)
              · skip
                refine lv_iconst (v := nI 0) hx hb dX6_isNameRight_91 (by decide) ?_
                refine lv_istore_n (lv' := [(3, .int (nI 0)), (5, .int (fi i &&& 255)), (0, .ref ho), (1, .int (nI a)), (2, .int (nI r1_10)), (4, .int (nI i))]) hx hb dX6_isNameRight_92 rfl hl (by decide) rfl (fun ls hl => ?_)
                refine lv_iinc (v := nI (i + 1)) (lv' := [(4, .int (nI (i + 1))), (3, .int (nI 0)), (5, .int (fi i &&& 255)), (0, .ref ho), (1, .int (nI a)), (2, .int (nI r1_10))]) hx hb dX6_isNameRight_93 hl (k := 5) rfl (nI_inc i 1) (by decide) rfl (fun ls hl => ?_)
                refine lv_goto (tgt := 44) hx hb dX6_isNameRight_96 (by decide) ?_
                refine lv_iload_n hx hb dX6_isNameRight_44 rfl (lv_at hl 1 rfl) ?_
                refine lv_if_eq (tgt := 99) hx hb dX6_isNameRight_45 (by decide) (fun _ => ?_) (fun c45 => absurd (by decide) c45)
                refine lv_iload_n hx hb dX6_isNameRight_99 rfl (lv_at hl 1 rfl) ?_
                refine ct_iret (w := [(ho, .inr (4, [.ref hi, .ref he, .int (nI op)])), (hi, .inr (3, [.int (nI 65535), .ref qi, .int (nI si)])), (qi, .inl (gB g, ni, .inl fi))]) hx hb hr rfl hlocks hQ hAe hK (hP.sub [0, 1, 2] rfl) (hD.sub [0, 1, 2] (by decide) rfl) hS (by omega) (by omega) dX6_isNameRight_100 ?_
                refine Or.inr ((?_))
                exact ⟨rfl, rfl, by first | exact fun z => z.elim (fun e w => c24 w.2.1) | exact nameR_F2 hF_10 (by omega) | exact nameR_F3 hF_10 hai (by omega) (by omega) hF_76 | exact nameR_F4 hF_10 hai (by omega) (by omega) c84⟩
              · skip
                refine lv_iconst (v := nI 1) hx hb dX6_isNameRight_87 (by decide) ?_
                refine lv_goto (tgt := 92) hx hb dX6_isNameRight_88 (by decide) ?_
                refine lv_istore_n (lv' := [(3, .int (nI 1)), (5, .int (fi i &&& 255)), (0, .ref ho), (1, .int (nI a)), (2, .int (nI r1_10)), (4, .int (nI i))]) hx hb dX6_isNameRight_92 rfl hl (by decide) rfl (fun ls hl => ?_)
                refine lv_iinc (v := nI (i + 1)) (lv' := [(4, .int (nI (i + 1))), (3, .int (nI 1)), (5, .int (fi i &&& 255)), (0, .ref ho), (1, .int (nI a)), (2, .int (nI r1_10))]) hx hb dX6_isNameRight_93 hl (k := 5) rfl (nI_inc i 1) (by decide) rfl (fun ls hl => ?_)
                refine lv_goto (tgt := 44) hx hb dX6_isNameRight_96 (by decide) ?_
                exact ih_K44 (i + 1) (by omega) (by omega) (by first | exact all_s hall ⟨fun _ => hT_76, fun z => absurd c71 (by omega)⟩ | exact all_s hall ⟨fun z => absurd z (by omega), fun _ => c84⟩) (by omega) _ _ _ (hP.sub [0, 1, 2] rfl) (hD.sub [0, 1, 2] (by decide) rfl) hS (lv_sub hl [3, 4, 5, 1, 0] rfl)
            · skip
              have c71 : ¬ (r1_10 ≤ i) := fun z => c71 ((nI_leI (a := r1_10) (b := i) (by omega) (by omega)).mpr z)
              refine lv_iload hx hb dX6_isNameRight_74 (lv_at hl 0 rfl) ?_
              refine ct_callS (wr := [(ho, .inr (4, [.ref hi, .ref he, .int (nI op)])), (hi, .inr (3, [.int (nI 65535), .ref qi, .int (nI si)])), (qi, .inl (gB g, ni, .inl fi))]) hx hb hml hown hts hK hP hD hS hA hG hl.1 (c_isVisible l g (fi i &&& 255) ) (va_cwS 1 hts gX6_isNameRight_X1_isVisible rfl rfl rfl (by decide +kernel) ⟨Nat.le_of_ble_eq_true rfl, Nat.le_of_ble_eq_true rfl⟩) rfl rfl (Nat.le_of_ble_eq_true rfl) dX6_isNameRight_76 ⟨show 0 + 0 ≤ 0 by omega, show 0 + 0 ≤ 0 by omega⟩ [] [0, 1, 2] rfl rfl (by decide) (by decide) (by decide) (fun r_ w_ H locs hp_ hP hD hS => ?_)
              rcases hp_ with ⟨rfl, rfl, hT_76⟩ | ⟨rfl, rfl, hF_76⟩
              · skip
                have hP : va_P (gD g) vwCl [(ho, .inr (4, [.ref hi, .ref he, .int (nI op)])), (hi, .inr (3, [.int (nI 65535), .ref qi, .int (nI si)])), (qi, .inl (gB g, ni, .inl fi))] H := hP
                have hD : va_D A [(ho, .inr (4, [.ref hi, .ref he, .int (nI op)])), (hi, .inr (3, [.int (nI 65535), .ref qi, .int (nI si)])), (qi, .inl (gB g, ni, .inl fi))] := hD
                have hT_76 : pVis (fi i &&& 255) := hT_76
                refine W.eq (g2 := F0 m 79 ls [.int (nI 1)]) rfl ?_
                refine lv_goto (tgt := 92) hx hb dX6_isNameRight_79 (by decide) ?_
                refine lv_istore_n (lv' := [(3, .int (nI 1)), (5, .int (fi i &&& 255)), (0, .ref ho), (1, .int (nI a)), (2, .int (nI r1_10)), (4, .int (nI i))]) hx hb dX6_isNameRight_92 rfl hl (by decide) rfl (fun ls hl => ?_)
                refine lv_iinc (v := nI (i + 1)) (lv' := [(4, .int (nI (i + 1))), (3, .int (nI 1)), (5, .int (fi i &&& 255)), (0, .ref ho), (1, .int (nI a)), (2, .int (nI r1_10))]) hx hb dX6_isNameRight_93 hl (k := 5) rfl (nI_inc i 1) (by decide) rfl (fun ls hl => ?_)
                refine lv_goto (tgt := 44) hx hb dX6_isNameRight_96 (by decide) ?_
                exact ih_K44 (i + 1) (by omega) (by omega) (by first | exact all_s hall ⟨fun _ => hT_76, fun z => absurd c71 (by omega)⟩ | exact all_s hall ⟨fun z => absurd z (by omega), fun _ => c84⟩) (by omega) _ _ _ (hP.sub [0, 1, 2] rfl) (hD.sub [0, 1, 2] (by decide) rfl) hS (lv_sub hl [3, 4, 5, 1, 0] rfl)
              · skip
                have hP : va_P (gD g) vwCl [(ho, .inr (4, [.ref hi, .ref he, .int (nI op)])), (hi, .inr (3, [.int (nI 65535), .ref qi, .int (nI si)])), (qi, .inl (gB g, ni, .inl fi))] H := hP
                have hD : va_D A [(ho, .inr (4, [.ref hi, .ref he, .int (nI op)])), (hi, .inr (3, [.int (nI 65535), .ref qi, .int (nI si)])), (qi, .inl (gB g, ni, .inl fi))] := hD
                have hF_76 : ¬ (pVis (fi i &&& 255)) := hF_76
                refine W.eq (g2 := F0 m 79 ls [.int (nI 0)]) rfl ?_
                refine lv_goto (tgt := 92) hx hb dX6_isNameRight_79 (by decide) ?_
                refine lv_istore_n (lv' := [(3, .int (nI 0)), (5, .int (fi i &&& 255)), (0, .ref ho), (1, .int (nI a)), (2, .int (nI r1_10)), (4, .int (nI i))]) hx hb dX6_isNameRight_92 rfl hl (by decide) rfl (fun ls hl => ?_)
                refine lv_iinc (v := nI (i + 1)) (lv' := [(4, .int (nI (i + 1))), (3, .int (nI 0)), (5, .int (fi i &&& 255)), (0, .ref ho), (1, .int (nI a)), (2, .int (nI r1_10))]) hx hb dX6_isNameRight_93 hl (k := 5) rfl (nI_inc i 1) (by decide) rfl (fun ls hl => ?_)
                refine lv_goto (tgt := 44) hx hb dX6_isNameRight_96 (by decide) ?_
                refine lv_iload_n hx hb dX6_isNameRight_44 rfl (lv_at hl 1 rfl) ?_
                refine lv_if_eq (tgt := 99) hx hb dX6_isNameRight_45 (by decide) (fun _ => ?_) (fun c45 => absurd (by decide) c45)
                refine lv_iload_n hx hb dX6_isNameRight_99 rfl (lv_at hl 1 rfl) ?_
                refine ct_iret (w := [(ho, .inr (4, [.ref hi, .ref he, .int (nI op)])), (hi, .inr (3, [.int (nI 65535), .ref qi, .int (nI si)])), (qi, .inl (gB g, ni, .inl fi))]) hx hb hr rfl hlocks hQ hAe hK (hP.sub [0, 1, 2] rfl) (hD.sub [0, 1, 2] (by decide) rfl) hS (by omega) (by omega) dX6_isNameRight_100 ?_
                refine Or.inr ((?_))
                exact ⟨rfl, rfl, by first | exact fun z => z.elim (fun e w => c24 w.2.1) | exact nameR_F2 hF_10 (by omega) | exact nameR_F3 hF_10 hai (by omega) (by omega) hF_76 | exact nameR_F4 hF_10 hai (by omega) (by omega) c84⟩
      exact K44 ((a + 48 - a) + 1) a (by omega) (by omega) (by intro j h1 h2; omega) (Nat.lt_succ_self _) _ _ _ (hP.sub [0, 1, 2] rfl) (hD.sub [0, 1, 2] (by decide) rfl) hS (lv_sub hl [3, 4, 2, 1, 0] rfl)

set_option maxHeartbeats 4000000 in
set_option maxRecDepth 100000 in
theorem c_entryRight (l : Launch) (g : GT) (ho : Nat) (hi : Nat) (he : Nat) (op : Nat) (qi : Nat) (ni : Nat) (si : Nat) (fi : Nat → Int32) (a : Nat) (hi1 : si ≤ ni) (hi2 : ni ≤ 65535) (ha : a + 64 ≤ si) : CT l g yX6_isEntryRight wsX6_isEntryRight ({ frames := 3, cells := 0, slots := 0, locals := 70 } : Room) [.ref ho, .int (nI a)] [(ho, .inr (4, [.ref hi, .ref he, .int (nI op)])), (hi, .inr (3, [.int (nI 65535), .ref qi, .int (nI si)])), (qi, .inl (gB g, ni, .inl fi))] (fun r w => (r = some (.int (nI 1)) ∧ w = [(ho, .inr (4, [.ref hi, .ref he, .int (nI op)])), (hi, .inr (3, [.int (nI 65535), .ref qi, .int (nI si)])), (qi, .inl (gB g, ni, .inl fi))] ∧ (pEntry fi si a)) ∨ (r = some (.int (nI 0)) ∧ w = [(ho, .inr (4, [.ref hi, .ref he, .int (nI op)])), (hi, .inr (3, [.int (nI 65535), .ref qi, .int (nI si)])), (qi, .inl (gB g, ni, .inl fi))] ∧ (¬ (pEntry fi si a)))) (0) (0) := by
  refine ct_of (cc := cX6_isEntryRight) (maxL := 6) (ret := (some .boolean)) (by decide) rfl (Nat.le_of_ble_eq_true rfl) ?_
  intro p e s m args below meth c A Q hx hb hr hml hown hts hlocks hnam hAe hQ hA hG hK hP hD hS ls hl
  have hl : lv_has ls 6 [(0, .ref ho), (1, .int (nI a))] := hl
  have hown : s.vm.findClass RX6 = some m.cls := hown
  have hinX6 : ∀ w ∈ u_ws RX6 TX6 3, w ∈ wsX6_isEntryRight := by decide +kernel
  have hf15 := hts (.fieldLink RX6 15 "RequestReader$Store" "image" "LRequestReader$Row;") (by decide +kernel)
  have hu1 := u32_lt (be4 fi (a + 48))
  have hu2 := u32_lt (be4 fi (a + 52))
  refine lv_aload_n hx hb dX6_isEntryRight_0 rfl (lv_at hl 0 rfl) ?_
  refine va_get (D := gD g) (ci := 4) (v := .ref hi) (C := RX6) (T := TX6) (N := 3) hx hb hts hinX6 hown hK hP 0 rfl rfl 0 (by decide) hf15 (fun _ h9 => h9) rfl dX6_isEntryRight_1 ?_
  refine lv_iload_n hx hb dX6_isEntryRight_4 rfl (lv_at hl 1 rfl) ?_
  refine lv_bipush (v := nI 48) hx hb dX6_isEntryRight_5 (by decide) ?_
  refine q_iadd (v := nI (a + 48)) hx hb dX6_isEntryRight_7 (nI_add a 48) ?_
  refine ct_callV (wr := [(ho, .inr (4, [.ref hi, .ref he, .int (nI op)]))]) hx hb hml hown hts hK hP hD hS hA hG hl.1 (c_intFrom l g hi qi 65535 ni si fi (a + 48) (by omega) (by omega) (by omega)) (cwV 1 hts gX6_isEntryRight_X4_intFrom rfl rfl rfl (by decide +kernel) ⟨Nat.le_of_ble_eq_true rfl, Nat.le_of_ble_eq_true rfl⟩) (va_recv hK hP (ci := 3) (q0 := 1) rfl rfl) rfl rfl (Nat.le_of_ble_eq_true rfl) dX6_isEntryRight_8 ⟨show 0 + 0 ≤ 0 by omega, show 0 + 0 ≤ 0 by omega⟩ [1, 2] [0] rfl rfl (by decide) (by decide) (by decide) (fun r_ w_ H locs hp_ hP hD hS => ?_)
  obtain ⟨rfl, rfl⟩ := hp_
  have hP : va_P (gD g) vwCl [(ho, .inr (4, [.ref hi, .ref he, .int (nI op)])), (hi, .inr (3, [.int (nI 65535), .ref qi, .int (nI si)])), (qi, .inl (gB g, ni, .inl fi))] H := hP
  have hD : va_D A [(ho, .inr (4, [.ref hi, .ref he, .int (nI op)])), (hi, .inr (3, [.int (nI 65535), .ref qi, .int (nI si)])), (qi, .inl (gB g, ni, .inl fi))] := hD
  refine W.eq (g2 := F0 m 11 ls [.int (be4 fi (a + 48))]) rfl ?_
  refine lv_i2l (v := (be4 fi (a + 48)).toInt64) hx hb dX6_isEntryRight_11 (rfl) ?_
  refine lv_ldc2 hx hb hown (hts (.constantLong RX6 66 (4294967295)) (by decide +kernel)) dX6_isEntryRight_12 ?_
  refine lv_land hx hb dX6_isEntryRight_15 ?_
  refine q_topl (v := lN (u32 (be4 fi (a + 48)))) (u32_l _) ?_
  refine lv_lstore_n (lv' := [(2, .long (lN (u32 (be4 fi (a + 48))))), (0, .ref ho), (1, .int (nI a))]) hx hb dX6_isEntryRight_16 rfl hl (by decide) rfl (fun ls hl => ?_)
  refine lv_aload_n hx hb dX6_isEntryRight_17 rfl (lv_at hl 1 rfl) ?_
  refine va_get (D := gD g) (ci := 4) (v := .ref hi) (C := RX6) (T := TX6) (N := 3) hx hb hts hinX6 hown hK hP 0 rfl rfl 0 (by decide) hf15 (fun _ h9 => h9) rfl dX6_isEntryRight_18 ?_
  refine lv_iload_n hx hb dX6_isEntryRight_21 rfl (lv_at hl 2 rfl) ?_
  refine lv_bipush (v := nI 52) hx hb dX6_isEntryRight_22 (by decide) ?_
  refine q_iadd (v := nI (a + 52)) hx hb dX6_isEntryRight_24 (nI_add a 52) ?_
  refine ct_callV (wr := [(ho, .inr (4, [.ref hi, .ref he, .int (nI op)]))]) hx hb hml hown hts hK hP hD hS hA hG hl.1 (c_intFrom l g hi qi 65535 ni si fi (a + 52) (by omega) (by omega) (by omega)) (cwV 1 hts gX6_isEntryRight_X4_intFrom rfl rfl rfl (by decide +kernel) ⟨Nat.le_of_ble_eq_true rfl, Nat.le_of_ble_eq_true rfl⟩) (va_recv hK hP (ci := 3) (q0 := 1) rfl rfl) rfl rfl (Nat.le_of_ble_eq_true rfl) dX6_isEntryRight_25 ⟨show 0 + 0 ≤ 0 by omega, show 0 + 0 ≤ 0 by omega⟩ [1, 2] [0] rfl rfl (by decide) (by decide) (by decide) (fun r_ w_ H locs hp_ hP hD hS => ?_)
  obtain ⟨rfl, rfl⟩ := hp_
  have hP : va_P (gD g) vwCl [(ho, .inr (4, [.ref hi, .ref he, .int (nI op)])), (hi, .inr (3, [.int (nI 65535), .ref qi, .int (nI si)])), (qi, .inl (gB g, ni, .inl fi))] H := hP
  have hD : va_D A [(ho, .inr (4, [.ref hi, .ref he, .int (nI op)])), (hi, .inr (3, [.int (nI 65535), .ref qi, .int (nI si)])), (qi, .inl (gB g, ni, .inl fi))] := hD
  refine W.eq (g2 := F0 m 28 ls [.int (be4 fi (a + 52))]) rfl ?_
  refine lv_i2l (v := (be4 fi (a + 52)).toInt64) hx hb dX6_isEntryRight_28 (rfl) ?_
  refine lv_ldc2 hx hb hown (hts (.constantLong RX6 66 (4294967295)) (by decide +kernel)) dX6_isEntryRight_29 ?_
  refine lv_land hx hb dX6_isEntryRight_32 ?_
  refine q_topl (v := lN (u32 (be4 fi (a + 52)))) (u32_l _) ?_
  refine lv_lstore (lv' := [(4, .long (lN (u32 (be4 fi (a + 52))))), (2, .long (lN (u32 (be4 fi (a + 48))))), (0, .ref ho), (1, .int (nI a))]) hx hb dX6_isEntryRight_33 hl (by decide) rfl (fun ls hl => ?_)
  refine lv_aload_n hx hb dX6_isEntryRight_35 rfl (lv_at hl 2 rfl) ?_
  refine lv_iload_n hx hb dX6_isEntryRight_36 rfl (lv_at hl 3 rfl) ?_
  refine ct_callV (wr := []) hx hb hml hown hts hK hP hD hS hA hG hl.1 (c_nameRight l g ho hi he op qi ni si fi a (by omega) (by omega) (by omega)) (cwV 1 hts gX6_isEntryRight_X6_isNameRight rfl rfl rfl (by decide +kernel) ⟨Nat.le_of_ble_eq_true rfl, Nat.le_of_ble_eq_true rfl⟩) (va_recv hK hP (ci := 4) (q0 := 0) rfl rfl) rfl rfl (Nat.le_of_ble_eq_true rfl) dX6_isEntryRight_37 ⟨show 0 + 0 ≤ 0 by omega, show 0 + 0 ≤ 0 by omega⟩ [0, 1, 2] [] rfl rfl (by decide) (by decide) (by decide) (fun r_ w_ H locs hp_ hP hD hS => ?_)
  rcases hp_ with ⟨rfl, rfl, hT_37⟩ | ⟨rfl, rfl, hF_37⟩
  · skip
    have hP : va_P (gD g) vwCl [(ho, .inr (4, [.ref hi, .ref he, .int (nI op)])), (hi, .inr (3, [.int (nI 65535), .ref qi, .int (nI si)])), (qi, .inl (gB g, ni, .inl fi))] H := hP
    have hD : va_D A [(ho, .inr (4, [.ref hi, .ref he, .int (nI op)])), (hi, .inr (3, [.int (nI 65535), .ref qi, .int (nI si)])), (qi, .inl (gB g, ni, .inl fi))] := hD
    have hT_37 : pNameR fi a := hT_37
    refine W.eq (g2 := F0 m 40 ls [.int (nI 1)]) rfl ?_
    refine lv_if_eq (tgt := 77) hx hb dX6_isEntryRight_40 (by decide) (fun c40 => absurd c40 (by decide)) (fun _ => ?_)
    refine lv_lload_n hx hb dX6_isEntryRight_43 rfl (lv_at hl 1 rfl) ?_
    refine lv_lload hx hb dX6_isEntryRight_44 (lv_at hl 0 rfl) ?_
    refine lv_ladd hx hb dX6_isEntryRight_46 ?_
    refine q_topl (v := lN (u32 (be4 fi (a + 48)) + u32 (be4 fi (a + 52)))) (lN_add _ _) ?_
    refine lv_aload_n hx hb dX6_isEntryRight_47 rfl (lv_at hl 2 rfl) ?_
    refine va_get (D := gD g) (ci := 4) (v := .ref hi) (C := RX6) (T := TX6) (N := 3) hx hb hts hinX6 hown hK hP 0 rfl rfl 0 (by decide) hf15 (fun _ h9 => h9) rfl dX6_isEntryRight_48 ?_
    refine ct_callV (wr := [(ho, .inr (4, [.ref hi, .ref he, .int (nI op)]))]) hx hb hml hown hts hK hP hD hS hA hG hl.1 (c_count l g hi qi 65535 ni si fi ) (cwV 0 hts gX6_isEntryRight_X4_count rfl rfl rfl (by decide +kernel) ⟨Nat.le_of_ble_eq_true rfl, Nat.le_of_ble_eq_true rfl⟩) (va_recv hK hP (ci := 3) (q0 := 1) rfl rfl) rfl rfl (Nat.le_of_ble_eq_true rfl) dX6_isEntryRight_51 ⟨show 0 + 0 ≤ 0 by omega, show 0 + 0 ≤ 0 by omega⟩ [1, 2] [0] rfl rfl (by decide) (by decide) (by decide) (fun r_ w_ H locs hp_ hP hD hS => ?_)
    obtain ⟨rfl, rfl⟩ := hp_
    have hP : va_P (gD g) vwCl [(ho, .inr (4, [.ref hi, .ref he, .int (nI op)])), (hi, .inr (3, [.int (nI 65535), .ref qi, .int (nI si)])), (qi, .inl (gB g, ni, .inl fi))] H := hP
    have hD : va_D A [(ho, .inr (4, [.ref hi, .ref he, .int (nI op)])), (hi, .inr (3, [.int (nI 65535), .ref qi, .int (nI si)])), (qi, .inl (gB g, ni, .inl fi))] := hD
    refine W.eq (g2 := F0 m 54 ls [.int (nI si), .long (lN (u32 (be4 fi (a + 48)) + u32 (be4 fi (a + 52))))]) rfl ?_
    refine lv_i2l (v := lN si) hx hb dX6_isEntryRight_54 (nI_l (by omega)) ?_
    refine W.lcmp hx hb dX6_isEntryRight_55 ?_
    refine lv_if_gt (tgt := 77) hx hb dX6_isEntryRight_56 (by decide) (fun c56 => ?_) (fun c56 => ?_)
    · skip
      have c56 : si < u32 (be4 fi (a + 48)) + u32 (be4 fi (a + 52)) := (pk_lLT (by omega) (by omega)).mp ((lg_cmp_gt _ _).mp c56)
      refine lv_iconst (v := nI 0) hx hb dX6_isEntryRight_77 (by decide) ?_
      refine ct_iret (w := [(ho, .inr (4, [.ref hi, .ref he, .int (nI op)])), (hi, .inr (3, [.int (nI 65535), .ref qi, .int (nI si)])), (qi, .inl (gB g, ni, .inl fi))]) hx hb hr rfl hlocks hQ hAe hK (hP.sub [0, 1, 2] rfl) (hD.sub [0, 1, 2] (by decide) rfl) hS (by omega) (by omega) dX6_isEntryRight_78 ?_
      refine Or.inr ((?_))
      exact ⟨rfl, rfl, by first | exact fun z => hF_37 z.1 | exact fun z => absurd z.2.1 (by omega) | exact fun z => c70 z.2.2⟩
    · skip
      have c56 : ¬ si < u32 (be4 fi (a + 48)) + u32 (be4 fi (a + 52)) := fun z => c56 ((lg_cmp_gt _ _).mpr ((pk_lLT (by omega) (by omega)).mpr z))
      refine lv_aload_n hx hb dX6_isEntryRight_59 rfl (lv_at hl 2 rfl) ?_
      refine va_get (D := gD g) (ci := 4) (v := .ref hi) (C := RX6) (T := TX6) (N := 3) hx hb hts hinX6 hown hK hP 0 rfl rfl 0 (by decide) hf15 (fun _ h9 => h9) rfl dX6_isEntryRight_60 ?_
      refine lv_iload_n hx hb dX6_isEntryRight_63 rfl (lv_at hl 3 rfl) ?_
      refine lv_bipush (v := nI 60) hx hb dX6_isEntryRight_64 (by decide) ?_
      refine q_iadd (v := nI (a + 60)) hx hb dX6_isEntryRight_66 (nI_add a 60) ?_
      refine ct_callV (wr := [(ho, .inr (4, [.ref hi, .ref he, .int (nI op)]))]) hx hb hml hown hts hK hP hD hS hA hG hl.1 (c_intFrom l g hi qi 65535 ni si fi (a + 60) (by omega) (by omega) (by omega)) (cwV 1 hts gX6_isEntryRight_X4_intFrom rfl rfl rfl (by decide +kernel) ⟨Nat.le_of_ble_eq_true rfl, Nat.le_of_ble_eq_true rfl⟩) (va_recv hK hP (ci := 3) (q0 := 1) rfl rfl) rfl rfl (Nat.le_of_ble_eq_true rfl) dX6_isEntryRight_67 ⟨show 0 + 0 ≤ 0 by omega, show 0 + 0 ≤ 0 by omega⟩ [1, 2] [0] rfl rfl (by decide) (by decide) (by decide) (fun r_ w_ H locs hp_ hP hD hS => ?_)
      obtain ⟨rfl, rfl⟩ := hp_
      have hP : va_P (gD g) vwCl [(ho, .inr (4, [.ref hi, .ref he, .int (nI op)])), (hi, .inr (3, [.int (nI 65535), .ref qi, .int (nI si)])), (qi, .inl (gB g, ni, .inl fi))] H := hP
      have hD : va_D A [(ho, .inr (4, [.ref hi, .ref he, .int (nI op)])), (hi, .inr (3, [.int (nI 65535), .ref qi, .int (nI si)])), (qi, .inl (gB g, ni, .inl fi))] := hD
      refine W.eq (g2 := F0 m 70 ls [.int (be4 fi (a + 60))]) rfl ?_
      refine lv_if_ne (tgt := 77) hx hb dX6_isEntryRight_70 (by decide) (fun c70 => ?_) (fun c70 => ?_)
      · skip
        refine lv_iconst (v := nI 0) hx hb dX6_isEntryRight_77 (by decide) ?_
        refine ct_iret (w := [(ho, .inr (4, [.ref hi, .ref he, .int (nI op)])), (hi, .inr (3, [.int (nI 65535), .ref qi, .int (nI si)])), (qi, .inl (gB g, ni, .inl fi))]) hx hb hr rfl hlocks hQ hAe hK (hP.sub [0, 1, 2] rfl) (hD.sub [0, 1, 2] (by decide) rfl) hS (by omega) (by omega) dX6_isEntryRight_78 ?_
        refine Or.inr ((?_))
        exact ⟨rfl, rfl, by first | exact fun z => hF_37 z.1 | exact fun z => absurd z.2.1 (by omega) | exact fun z => c70 z.2.2⟩
      · skip
        refine lv_iconst (v := nI 1) hx hb dX6_isEntryRight_73 (by decide) ?_
        refine lv_goto (tgt := 78) hx hb dX6_isEntryRight_74 (by decide) ?_
        refine ct_iret (w := [(ho, .inr (4, [.ref hi, .ref he, .int (nI op)])), (hi, .inr (3, [.int (nI 65535), .ref qi, .int (nI si)])), (qi, .inl (gB g, ni, .inl fi))]) hx hb hr rfl hlocks hQ hAe hK (hP.sub [0, 1, 2] rfl) (hD.sub [0, 1, 2] (by decide) rfl) hS (by omega) (by omega) dX6_isEntryRight_78 ?_
        refine Or.inl (?_)
        exact ⟨rfl, rfl, by exact ⟨hT_37, by omega, c70⟩⟩
  · skip
    have hP : va_P (gD g) vwCl [(ho, .inr (4, [.ref hi, .ref he, .int (nI op)])), (hi, .inr (3, [.int (nI 65535), .ref qi, .int (nI si)])), (qi, .inl (gB g, ni, .inl fi))] H := hP
    have hD : va_D A [(ho, .inr (4, [.ref hi, .ref he, .int (nI op)])), (hi, .inr (3, [.int (nI 65535), .ref qi, .int (nI si)])), (qi, .inl (gB g, ni, .inl fi))] := hD
    have hF_37 : ¬ (pNameR fi a) := hF_37
    refine W.eq (g2 := F0 m 40 ls [.int (nI 0)]) rfl ?_
    refine lv_if_eq (tgt := 77) hx hb dX6_isEntryRight_40 (by decide) (fun _ => ?_) (fun c40 => absurd (by decide) c40)
    refine lv_iconst (v := nI 0) hx hb dX6_isEntryRight_77 (by decide) ?_
    refine ct_iret (w := [(ho, .inr (4, [.ref hi, .ref he, .int (nI op)])), (hi, .inr (3, [.int (nI 65535), .ref qi, .int (nI si)])), (qi, .inl (gB g, ni, .inl fi))]) hx hb hr rfl hlocks hQ hAe hK (hP.sub [0, 1, 2] rfl) (hD.sub [0, 1, 2] (by decide) rfl) hS (by omega) (by omega) dX6_isEntryRight_78 ?_
    refine Or.inr ((?_))
    exact ⟨rfl, rfl, by first | exact fun z => hF_37 z.1 | exact fun z => absurd z.2.1 (by omega) | exact fun z => c70 z.2.2⟩
