noncomputable def iteC {α : Type} (P : Prop) (x y : α) : α := @ite α P (Classical.propDecidable P) x y
theorem iteC_p {α : Type} {P : Prop} {x y : α} (h : P) : iteC P x y = x := @if_pos P (Classical.propDecidable P) h α x y
theorem iteC_n {α : Type} {P : Prop} {x y : α} (h : ¬ P) : iteC P x y = y := @if_neg P (Classical.propDecidable P) h α x y
def escF (f : Nat → Int32) (p e : Nat) : Int32 := if p + 2 < e then (if hexV (f (p + 1) &&& 255) < 0 ∨ hexV (f (p + 2) &&& 255) < 0 then -1 else hexV (f (p + 1) &&& 255) * nI 16 + hexV (f (p + 2) &&& 255)) else -1
theorem escF_1 {f : Nat → Int32} {p e : Nat} (h : ¬ p + 2 < e) : escF f p e = -1 := if_neg h
theorem escF_2 {f : Nat → Int32} {p e : Nat} (h : p + 2 < e) (h2 : hexV (f (p + 1) &&& 255) < 0 ∨ hexV (f (p + 2) &&& 255) < 0) : escF f p e = -1 := by rw [escF, if_pos h, if_pos h2]
theorem escF_3 {f : Nat → Int32} {p e : Nat} (h : p + 2 < e) (h1 : ¬ hexV (f (p + 1) &&& 255) < 0) (h2 : ¬ hexV (f (p + 2) &&& 255) < 0) : escF f p e = hexV (f (p + 1) &&& 255) * nI 16 + hexV (f (p + 2) &&& 255) := by rw [escF, if_pos h, if_neg (fun z => z.elim h1 h2)]
def pcd (f : Nat → Int32) (e p : Nat) : Int32 := if f p &&& 255 = nI 37 then escF f p e else f p &&& 255
def pnx (f : Nat → Int32) (p : Nat) : Nat := if f p &&& 255 = nI 37 then p + 3 else p + 1
/-- the codes that the target's bytes from p on and before e tell, or none -/
def pthL (f : Nat → Int32) (e : Nat) : Nat → Nat → Option (List Int32)
  | 0, _ => some []
  | m + 1, p => if e ≤ p then some [] else if pVis (pcd f e p) then (pthL f e m (pnx f p)).map (fun l => pcd f e p :: l) else none
theorem pthL_0 {f : Nat → Int32} {e m p : Nat} (h : e ≤ p) : pthL f e m p = some [] := by
  cases m with
  | zero => rfl
  | succ m => rw [pthL, if_pos h]
theorem pthL_n {f : Nat → Int32} {e m p : Nat} (h : p < e) (hv : ¬ pVis (pcd f e p)) : pthL f e (m + 1) p = none := by rw [pthL, if_neg (by omega), if_neg hv]
theorem pthL_s {f : Nat → Int32} {e m p : Nat} (h : p < e) (hv : pVis (pcd f e p)) : pthL f e (m + 1) p = (pthL f e m (pnx f p)).map (fun l => pcd f e p :: l) := by rw [pthL, if_neg (by omega), if_pos hv]
theorem pth_step {f : Nat → Int32} {e m p : Nat} {X : Option (List Int32)} {L : List Int32} {c : Int32} {q : Nat} (hX : X = (pthL f e (m + 1) p).map (fun l => L ++ l)) (h : p < e) (hc : pcd f e p = c) (hq : pnx f p = q) (hv : pVis c) : X = (pthL f e m q).map (fun l => (L ++ [c]) ++ l) := by
  rw [hX, pthL_s h (by rw [hc]; exact hv), hc, hq, Option.map_map]
  congr 1
  funext l
  simp
theorem vis_b {x : Int32} (h : pVis x) : x.toInt8.toInt32 = x := by
  obtain ⟨n, hn, rfl⟩ := vis_nat h
  exact b7N n (by omega)
theorem hasL_snoc {f f' : Nat → Int32} {l : List Int32} {c : Int32} (h : hasL f 0 l) (hk : ∀ j, j < l.length → f' j = f j) (hc : f' l.length = c) : hasL f' 0 (l ++ [c]) := by
  intro j hj
  rw [List.length_append] at hj
  rw [Nat.zero_add]
  rcases Nat.lt_or_ge j l.length with z | z
  · have := h j z
    rw [Nat.zero_add] at this
    rw [hk j z, this]
    simp [List.getD, List.getElem?_append_left z]
  · have e : j = l.length := by simp at hj; omega
    subst e
    rw [hc]
    simp [List.getD]
theorem hasL_app {f f' : Nat → Int32} {l k : List Int32} (h : hasL f 0 l) (hk : ∀ j, j < l.length → f' j = f j) (hc : hasL f' l.length k) : hasL f' 0 (l ++ k) := by
  intro j hj
  rw [List.length_append] at hj
  rw [Nat.zero_add]
  rcases Nat.lt_or_ge j l.length with z | z
  · have := h j z
    rw [Nat.zero_add] at this
    rw [hk j z, this]
    simp [List.getD, List.getElem?_append_left z]
  · have h2 := hc (j - l.length) (by omega)
    rw [show l.length + (j - l.length) = j by omega] at h2
    rw [h2]
    simp [List.getD, List.getElem?_append_right z]
def lgc (n : Nat) : Nat := if n < 512 then 0 else if n < 1024 then 1 else if n < 2048 then 2 else if n < 4096 then 3 else if n < 4106 then 4 else 5
def pot2 (n : Nat) : Nat := if n < 4106 then 2 * n else 12318
theorem lgc_le (n : Nat) : lgc n ≤ 5 := by unfold lgc; repeat' split
                                           all_goals omega
theorem pot2_le {n : Nat} (h : n ≤ 4106) : pot2 n ≤ 12318 := by unfold pot2; split <;> omega
theorem lgc_add {n a : Nat} (h1 : 256 ≤ n) (h2 : n ≤ 4106) (ha : a ≤ 4106) (ha2 : a ≤ 2 * n) : lgc n + gcN n a ≤ lgc (cpN 4106 n a) := by
  unfold gcN cpN
  split
  · omega
  · unfold lgc
    repeat' split
    all_goals omega
theorem pot2_add {n a : Nat} (h1 : 256 ≤ n) (h2 : n ≤ 4106) (ha : a ≤ 4106) (ha2 : a ≤ 2 * n) : pot2 n + gsN 4106 n a ≤ pot2 (cpN 4106 n a) := by
  unfold gsN cpN
  split
  · omega
  · unfold pot2
    repeat' split
    all_goals omega

def pSl (L : List Int32) : Prop := 1 ≤ L.length ∧ L.getD (L.length - 1) 0 &&& 255 = nI 47
theorem pSl_iff {f : Nat → Int32} {L : List Int32} (h : hasL f 0 L) : pEnds f L.length 14 ↔ pSl L := by
  have e : slen 14 = 1 := by decide
  have e2 : sbyt 14 0 &&& 255 = nI 47 := by decide
  unfold pEnds pSl
  rw [e]
  constructor
  · rintro ⟨h1, h2⟩
    refine ⟨h1, ?_⟩
    have h3 := h2 0 (by decide)
    rw [e2, Nat.add_zero] at h3
    have h4 := h (L.length - 1) (by omega)
    rw [Nat.zero_add] at h4
    rw [← h4]; exact h3
  · rintro ⟨h1, h2⟩
    refine ⟨h1, fun j hj => ?_⟩
    have ej : j = 0 := by omega
    subst ej
    have h4 := h (L.length - 1) (by omega)
    rw [Nat.zero_add] at h4
    rw [e2, Nat.add_zero, h4]; exact h2

theorem esc_in {f : Nat → Int32} {p e : Nat} (h : pVis (escF f p e)) : p + 2 < e := by
  rcases Nat.lt_or_ge (p + 2) e with z | z
  · exact z
  · rw [escF_1 (by omega)] at h
    exact absurd h (by decide)
noncomputable def typK (f : Nat → Int32) (s : Nat) : Nat := iteC (pEnds f s 17) 18 (iteC (pEnds f s 19) 20 (iteC (pEnds f s 21) 22 (iteC (pEnds f s 23) 24 (iteC (pEnds f s 25) 26 27))))

set_option maxHeartbeats 4000000 in
set_option maxRecDepth 100000 in
theorem c_escaped (l : Launch) (g : GT) (h : Nat) (q : Nat) (lim : Nat) (n : Nat) (sz : Nat) (f : Nat → Int32) (p0 : Nat) (e0 : Nat) (hsn : sz ≤ n) (hnb : n < 2 ^ 30) (he : e0 ≤ sz) (hp0 : p0 < 2 ^ 28) : CT l g yX3_escapedCode wsX3_escapedCode ({ frames := 2, cells := 0, slots := 0, locals := 40 } : Room) [.ref h, .int (nI p0), .int (nI e0)] [(h, .inr (3, [.int (nI lim), .ref q, .int (nI sz)])), (q, .inl (gB g, n, .inl f))] (fun r w => (∃ (v1 : Int32), r = some (.int v1) ∧ w = [(h, .inr (3, [.int (nI lim), .ref q, .int (nI sz)])), (q, .inl (gB g, n, .inl f))] ∧ (v1 = escF f p0 e0))) (0) (0) := by
  refine ct_of (cc := cX3_escapedCode) (maxL := 5) (ret := (some .int)) (by decide) rfl (Nat.le_of_ble_eq_true rfl) ?_
  intro p e s m args below meth c A Q hx hb hr hml hown hts hlocks hnam hAe hQ hA hG hK hP hD hS ls hl
  have hl : lv_has ls 5 [(0, .ref h), (1, .int (nI p0)), (2, .int (nI e0))] := hl
  have hown : s.vm.findClass RX3 = some m.cls := hown
  refine lv_iload_n hx hb dX3_escapedCode_0 rfl (lv_at hl 1 rfl) ?_
  refine lv_iconst (v := nI 2) hx hb dX3_escapedCode_1 (by decide) ?_
  refine q_iadd (v := nI (p0 + 2)) hx hb dX3_escapedCode_2 (nI_add p0 2) ?_
  refine lv_iload_n hx hb dX3_escapedCode_3 rfl (lv_at hl 2 rfl) ?_
  refine lv_icmp_lt (tgt := 9) hx hb dX3_escapedCode_4 (by decide) (fun c4 => ?_) (fun c4 => ?_)
  · skip
    have c4 : p0 + 2 < e0 := (nI_ltI (a := p0 + 2) (b := e0) (by omega) (by omega)).mp c4
    refine lv_aload_n hx hb dX3_escapedCode_9 rfl (lv_at hl 0 rfl) ?_
    refine lv_iload_n hx hb dX3_escapedCode_10 rfl (lv_at hl 1 rfl) ?_
    refine lv_iconst (v := nI 1) hx hb dX3_escapedCode_11 (by decide) ?_
    refine q_iadd (v := nI (p0 + 1)) hx hb dX3_escapedCode_12 (nI_add p0 1) ?_
    refine ct_callV (wr := []) hx hb hml hown hts hK hP hD hS hA hG hl.1 (c_getIn l g h q lim n sz f (p0 + 1) (by omega) (by omega) (by omega)) (cwV 1 hts gX3_escapedCode_X4_get rfl rfl rfl (by decide +kernel) ⟨Nat.le_of_ble_eq_true rfl, Nat.le_of_ble_eq_true rfl⟩) (va_recv hK hP (ci := 3) (q0 := 0) rfl rfl) rfl rfl (Nat.le_of_ble_eq_true rfl) dX3_escapedCode_13 ⟨show 0 + 0 ≤ 0 by omega, show 0 + 0 ≤ 0 by omega⟩ [0, 1] [] rfl rfl (by decide) (by decide) (by decide) (fun r_ w_ H locs hp_ hP hD hS => ?_)
    obtain ⟨rfl, rfl⟩ := hp_
    have hP : va_P (gD g) vwCl [(h, .inr (3, [.int (nI lim), .ref q, .int (nI sz)])), (q, .inl (gB g, n, .inl f))] H := hP
    have hD : va_D A [(h, .inr (3, [.int (nI lim), .ref q, .int (nI sz)])), (q, .inl (gB g, n, .inl f))] := hD
    refine W.eq (g2 := F0 m 16 ls [.int (f (p0 + 1) &&& 255)]) rfl ?_
    refine ct_callS (wr := [(h, .inr (3, [.int (nI lim), .ref q, .int (nI sz)])), (q, .inl (gB g, n, .inl f))]) hx hb hml hown hts hK hP hD hS hA hG hl.1 (c_hexValue l g (f (p0 + 1) &&& 255) ) (va_cwS 1 hts gX3_escapedCode_X1_hexValue rfl rfl rfl (by decide +kernel) ⟨Nat.le_of_ble_eq_true rfl, Nat.le_of_ble_eq_true rfl⟩) rfl rfl (Nat.le_of_ble_eq_true rfl) dX3_escapedCode_16 ⟨show 0 + 0 ≤ 0 by omega, show 0 + 0 ≤ 0 by omega⟩ [] [0, 1] rfl rfl (by decide) (by decide) (by decide) (fun r_ w_ H locs hp_ hP hD hS => ?_)
    obtain ⟨v1_16, rfl, rfl, ev_16⟩ := hp_
    have hP : va_P (gD g) vwCl [(h, .inr (3, [.int (nI lim), .ref q, .int (nI sz)])), (q, .inl (gB g, n, .inl f))] H := hP
    have hD : va_D A [(h, .inr (3, [.int (nI lim), .ref q, .int (nI sz)])), (q, .inl (gB g, n, .inl f))] := hD
    have ev_16 : v1_16 = hexV (f (p0 + 1) &&& 255) := ev_16
    refine W.eq (g2 := F0 m 19 ls [.int v1_16]) rfl ?_
    refine lv_istore_n (lv' := [(3, .int v1_16), (0, .ref h), (1, .int (nI p0)), (2, .int (nI e0))]) hx hb dX3_escapedCode_19 rfl hl (by decide) rfl (fun ls hl => ?_)
    refine lv_aload_n hx hb dX3_escapedCode_20 rfl (lv_at hl 1 rfl) ?_
    refine lv_iload_n hx hb dX3_escapedCode_21 rfl (lv_at hl 2 rfl) ?_
    refine lv_iconst (v := nI 2) hx hb dX3_escapedCode_22 (by decide) ?_
    refine q_iadd (v := nI (p0 + 2)) hx hb dX3_escapedCode_23 (nI_add p0 2) ?_
    refine ct_callV (wr := []) hx hb hml hown hts hK hP hD hS hA hG hl.1 (c_getIn l g h q lim n sz f (p0 + 2) (by omega) (by omega) (by omega)) (cwV 1 hts gX3_escapedCode_X4_get rfl rfl rfl (by decide +kernel) ⟨Nat.le_of_ble_eq_true rfl, Nat.le_of_ble_eq_true rfl⟩) (va_recv hK hP (ci := 3) (q0 := 0) rfl rfl) rfl rfl (Nat.le_of_ble_eq_true rfl) dX3_escapedCode_24 ⟨show 0 + 0 ≤ 0 by omega, show 0 + 0 ≤ 0 by omega⟩ [0, 1] [] rfl rfl (by decide) (by decide) (by decide) (fun r_ w_ H locs hp_ hP hD hS => ?_)
    obtain ⟨rfl, rfl⟩ := hp_
    have hP : va_P (gD g) vwCl [(h, .inr (3, [.int (nI lim), .ref q, .int (nI sz)])), (q, .inl (gB g, n, .inl f))] H := hP
    have hD : va_D A [(h, .inr (3, [.int (nI lim), .ref q, .int (nI sz)])), (q, .inl (gB g, n, .inl f))] := hD
    refine W.eq (g2 := F0 m 27 ls [.int (f (p0 + 2) &&& 255)]) rfl ?_
    refine ct_callS (wr := [(h, .inr (3, [.int (nI lim), .ref q, .int (nI sz)])), (q, .inl (gB g, n, .inl f))]) hx hb hml hown hts hK hP hD hS hA hG hl.1 (c_hexValue l g (f (p0 + 2) &&& 255) ) (va_cwS 1 hts gX3_escapedCode_X1_hexValue rfl rfl rfl (by decide +kernel) ⟨Nat.le_of_ble_eq_true rfl, Nat.le_of_ble_eq_true rfl⟩) rfl rfl (Nat.le_of_ble_eq_true rfl) dX3_escapedCode_27 ⟨show 0 + 0 ≤ 0 by omega, show 0 + 0 ≤ 0 by omega⟩ [] [0, 1] rfl rfl (by decide) (by decide) (by decide) (fun r_ w_ H locs hp_ hP hD hS => ?_)
    obtain ⟨v1_27, rfl, rfl, ev_27⟩ := hp_
    have hP : va_P (gD g) vwCl [(h, .inr (3, [.int (nI lim), .ref q, .int (nI sz)])), (q, .inl (gB g, n, .inl f))] H := hP
    have hD : va_D A [(h, .inr (3, [.int (nI lim), .ref q, .int (nI sz)])), (q, .inl (gB g, n, .inl f))] := hD
    have ev_27 : v1_27 = hexV (f (p0 + 2) &&& 255) := ev_27
    refine W.eq (g2 := F0 m 30 ls [.int v1_27]) rfl ?_
    refine lv_istore (lv' := [(4, .int v1_27), (3, .int v1_16), (0, .ref h), (1, .int (nI p0)), (2, .int (nI e0))]) hx hb dX3_escapedCode_30 hl (by decide) rfl (fun ls hl => ?_)
    refine lv_iload_n hx hb dX3_escapedCode_32 rfl (lv_at hl 1 rfl) ?_
    refine lv_if_lt (tgt := 41) hx hb dX3_escapedCode_33 (by decide) (fun c33 => ?_) (fun c33 => ?_)
    · skip
      refine lv_iconst (v := (-1)) hx hb dX3_escapedCode_41 (by decide) ?_
      refine lv_goto (tgt := 52) hx hb dX3_escapedCode_42 (by decide) ?_
      refine ct_iret (w := [(h, .inr (3, [.int (nI lim), .ref q, .int (nI sz)])), (q, .inl (gB g, n, .inl f))]) hx hb hr rfl hlocks hQ hAe hK (hP.sub [0, 1] rfl) (hD.sub [0, 1] (by decide) rfl) hS (by omega) (by omega) dX3_escapedCode_52 ?_
      exact ⟨-1, rfl, rfl, by first | exact (escF_1 (by omega)).symm | exact (escF_2 c4 (Or.inl (by rw [← ev_16]; exact c33))).symm | exact (escF_2 c4 (Or.inr (by rw [← ev_27]; exact Int32.not_le.mp c38))).symm | (rw [ev_16, ev_27]; exact (escF_3 c4 (by rw [← ev_16]; exact c33) (by rw [← ev_27]; exact Int32.not_lt.mpr c38)).symm)⟩
    · skip
      refine lv_iload hx hb dX3_escapedCode_36 (lv_at hl 0 rfl) ?_
      refine lv_if_ge (tgt := 45) hx hb dX3_escapedCode_38 (by decide) (fun c38 => ?_) (fun c38 => ?_)
      · skip
        refine lv_iload_n hx hb dX3_escapedCode_45 rfl (lv_at hl 1 rfl) ?_
        refine lv_bipush (v := nI 16) hx hb dX3_escapedCode_46 (by decide) ?_
        refine q_imul (v := v1_16 * (nI 16)) hx hb dX3_escapedCode_48 (rfl) ?_
        refine lv_iload hx hb dX3_escapedCode_49 (lv_at hl 0 rfl) ?_
        refine q_iadd (v := (v1_16 * (nI 16)) + v1_27) hx hb dX3_escapedCode_51 (rfl) ?_
        refine ct_iret (w := [(h, .inr (3, [.int (nI lim), .ref q, .int (nI sz)])), (q, .inl (gB g, n, .inl f))]) hx hb hr rfl hlocks hQ hAe hK (hP.sub [0, 1] rfl) (hD.sub [0, 1] (by decide) rfl) hS (by omega) (by omega) dX3_escapedCode_52 ?_
        exact ⟨(v1_16 * (nI 16)) + v1_27, rfl, rfl, by first | exact (escF_1 (by omega)).symm | exact (escF_2 c4 (Or.inl (by rw [← ev_16]; exact c33))).symm | exact (escF_2 c4 (Or.inr (by rw [← ev_27]; exact Int32.not_le.mp c38))).symm | (rw [ev_16, ev_27]; exact (escF_3 c4 (by rw [← ev_16]; exact c33) (by rw [← ev_27]; exact Int32.not_lt.mpr c38)).symm)⟩
      · skip
        refine lv_iconst (v := (-1)) hx hb dX3_escapedCode_41 (by decide) ?_
        refine lv_goto (tgt := 52) hx hb dX3_escapedCode_42 (by decide) ?_
        refine ct_iret (w := [(h, .inr (3, [.int (nI lim), .ref q, .int (nI sz)])), (q, .inl (gB g, n, .inl f))]) hx hb hr rfl hlocks hQ hAe hK (hP.sub [0, 1] rfl) (hD.sub [0, 1] (by decide) rfl) hS (by omega) (by omega) dX3_escapedCode_52 ?_
        exact ⟨-1, rfl, rfl, by first | exact (escF_1 (by omega)).symm | exact (escF_2 c4 (Or.inl (by rw [← ev_16]; exact c33))).symm | exact (escF_2 c4 (Or.inr (by rw [← ev_27]; exact Int32.not_le.mp c38))).symm | (rw [ev_16, ev_27]; exact (escF_3 c4 (by rw [← ev_16]; exact c33) (by rw [← ev_27]; exact Int32.not_lt.mpr c38)).symm)⟩
  · skip
    have c4 : ¬ (p0 + 2 < e0) := fun z => c4 ((nI_ltI (a := p0 + 2) (b := e0) (by omega) (by omega)).mpr z)
    refine lv_iconst (v := (-1)) hx hb dX3_escapedCode_7 (by decide) ?_
    refine ct_iret (w := [(h, .inr (3, [.int (nI lim), .ref q, .int (nI sz)])), (q, .inl (gB g, n, .inl f))]) hx hb hr rfl hlocks hQ hAe hK (hP.sub [0, 1] rfl) (hD.sub [0, 1] (by decide) rfl) hS (by omega) (by omega) dX3_escapedCode_8 ?_
    exact ⟨-1, rfl, rfl, by first | exact (escF_1 (by omega)).symm | exact (escF_2 c4 (Or.inl (by rw [← ev_16]; exact c33))).symm | exact (escF_2 c4 (Or.inr (by rw [← ev_27]; exact Int32.not_le.mp c38))).symm | (rw [ev_16, ev_27]; exact (escF_3 c4 (by rw [← ev_16]; exact c33) (by rw [← ev_27]; exact Int32.not_lt.mpr c38)).symm)⟩

set_option maxHeartbeats 4000000 in
set_option maxRecDepth 100000 in
theorem c_pathRead (l : Launch) (g : GT) (hp : Nat) (hn : Nat) (qn : Nat) (nn : Nat) (sn : Nat) (fn : Nat → Int32) (kb : Nat) (qb : Nat) (nb : Nat) (sb : Nat) (fb : Nat → Int32) (a0 : Nat) (b0 : Nat) (hn1 : sn ≤ nn) (hn2 : nn ≤ 4106) (hn3 : 256 ≤ nn) (hfn : sb_Fit fn) (hs1 : sb ≤ nb) (hs2 : nb ≤ 4096) (hab : a0 ≤ b0) (hbs : b0 ≤ sb) : CT l g yX3_read wsX3_read ({ frames := 6, cells := 5, slots := 12318, locals := 131 } : Room) [.ref hp, .ref kb, .int (nI a0), .int (nI b0)] [(hp, .inr (2, [.ref hn])), (hn, .inr (3, [.int (nI 4106), .ref qn, .int (nI sn)])), (qn, .inl (gB g, nn, .inl fn)), (kb, .inr (3, [.int (nI 4096), .ref qb, .int (nI sb)])), (qb, .inl (gB g, nb, .inl fb))] (fun r w => (∃ (q1 : Nat) (n1 : Nat) (s1 : Nat) (f1 : Nat → Int32) (e1 : Nat), r = some (.int (nI 0)) ∧ w = [(hp, .inr (2, [.ref hn])), (hn, .inr (3, [.int (nI 4106), .ref q1, .int (nI s1)])), (q1, .inl (gB g, n1, .inl f1)), (kb, .inr (3, [.int (nI 4096), .ref qb, .int (nI sb)])), (qb, .inl (gB g, nb, .inl fb))] ∧ (pFind fb (nI 63) a0 b0 e1) ∧ (pthL fb e1 (e1 + 1) a0 = none) ∧ (s1 ≤ n1 ∧ n1 ≤ 4106 ∧ 256 ≤ n1 ∧ sb_Fit f1)) ∨ (∃ (q1 : Nat) (n1 : Nat) (s1 : Nat) (f1 : Nat → Int32) (e1 : Nat) (L : List Int32), r = some (.int (nI 1)) ∧ w = [(hp, .inr (2, [.ref hn])), (hn, .inr (3, [.int (nI 4106), .ref q1, .int (nI s1)])), (q1, .inl (gB g, n1, .inl f1)), (kb, .inr (3, [.int (nI 4096), .ref qb, .int (nI sb)])), (qb, .inl (gB g, nb, .inl fb))] ∧ (pFind fb (nI 63) a0 b0 e1) ∧ (pthL fb e1 (e1 + 1) a0 = some L) ∧ ((¬ pSl L ∧ hasL f1 0 L ∧ s1 = L.length) ∨ (pSl L ∧ hasL f1 0 (L ++ sL 0) ∧ s1 = L.length + 10)) ∧ (s1 ≤ n1 ∧ n1 ≤ 4106 ∧ 256 ≤ n1 ∧ sb_Fit f1))) (5) (12318) := by
  refine ct_of (cc := cX3_read) (maxL := 7) (ret := (some .boolean)) (by decide) rfl (Nat.le_of_ble_eq_true rfl) ?_
  intro p e s m args below meth c A Q hx hb hr hml hown hts hlocks hnam hAe hQ hA hG hK hP hD hS ls hl
  have hl : lv_has ls 7 [(0, .ref hp), (1, .ref kb), (2, .int (nI a0)), (3, .int (nI b0))] := hl
  have hown : s.vm.findClass RX3 = some m.cls := hown
  have hinX3 : ∀ w ∈ u_ws RX3 TX3 1, w ∈ wsX3_read := by decide +kernel
  have hf24 := hts (.fieldLink RX3 24 "RequestReader$Path" "name" "LRequestReader$Row;") (by decide +kernel)
  have hs0 : slen 0 = 10 := by decide
  refine lv_aload_n hx hb dX3_read_0 rfl (lv_at hl 0 rfl) ?_
  refine va_get (D := gD g) (ci := 2) (v := .ref hn) (C := RX3) (T := TX3) (N := 1) hx hb hts hinX3 hown hK hP 0 rfl rfl 0 (by decide) hf24 (fun _ h9 => h9) rfl dX3_read_1 ?_
  refine lv_iconst (v := nI 0) hx hb dX3_read_4 (by decide) ?_
  refine ct_callV (wr := [(hp, .inr (2, [.ref hn])), (kb, .inr (3, [.int (nI 4096), .ref qb, .int (nI sb)])), (qb, .inl (gB g, nb, .inl fb))]) hx hb hml hown hts hK hP hD hS hA hG hl.1 (c_cut0 l g hn qn 4106 nn sn fn (by omega) (by omega)) (cwV 1 hts gX3_read_X4_cutTo rfl rfl rfl (by decide +kernel) ⟨Nat.le_of_ble_eq_true rfl, Nat.le_of_ble_eq_true rfl⟩) (va_recv hK hP (ci := 3) (q0 := 1) rfl rfl) rfl rfl (Nat.le_of_ble_eq_true rfl) dX3_read_5 ⟨show 0 + 0 ≤ 5 by omega, show 0 + 0 ≤ 12318 by omega⟩ [1, 2] [0, 3, 4] rfl rfl (by decide) (by decide) (by decide) (fun r_ w_ H locs hp_ hP hD hS => ?_)
  obtain ⟨rfl, rfl⟩ := hp_
  have hP : va_P (gD g) vwCl [(hp, .inr (2, [.ref hn])), (kb, .inr (3, [.int (nI 4096), .ref qb, .int (nI sb)])), (qb, .inl (gB g, nb, .inl fb)), (hn, .inr (3, [.int (nI 4106), .ref qn, .int (nI 0)])), (qn, .inl (gB g, nn, .inl fn))] H := hP
  have hD : va_D A [(hp, .inr (2, [.ref hn])), (kb, .inr (3, [.int (nI 4096), .ref qb, .int (nI sb)])), (qb, .inl (gB g, nb, .inl fb)), (hn, .inr (3, [.int (nI 4106), .ref qn, .int (nI 0)])), (qn, .inl (gB g, nn, .inl fn))] := hD
  refine W.eq (g2 := F0 m 8 ls []) rfl ?_
  refine lv_aload_n hx hb dX3_read_8 rfl (lv_at hl 1 rfl) ?_
  refine lv_bipush (v := nI 63) hx hb dX3_read_9 (by decide) ?_
  refine lv_iload_n hx hb dX3_read_11 rfl (lv_at hl 2 rfl) ?_
  refine lv_iload_n hx hb dX3_read_12 rfl (lv_at hl 3 rfl) ?_
  refine ct_callV (wr := [(hp, .inr (2, [.ref hn])), (hn, .inr (3, [.int (nI 4106), .ref qn, .int (nI 0)])), (qn, .inl (gB g, nn, .inl fn))]) hx hb hml hown hts hK hP hD hS hA hG hl.1 (c_find l g kb qb 4096 nb sb fb (nI 63) a0 b0 (by omega) (by omega) (by omega) (by omega)) (cwV 3 hts gX3_read_X4_find rfl rfl rfl (by decide +kernel) ⟨Nat.le_of_ble_eq_true rfl, Nat.le_of_ble_eq_true rfl⟩) (va_recv hK hP (ci := 3) (q0 := 1) rfl rfl) rfl rfl (Nat.le_of_ble_eq_true rfl) dX3_read_13 ⟨show 0 + 0 ≤ 5 by omega, show 0 + 0 ≤ 12318 by omega⟩ [1, 2] [0, 3, 4] rfl rfl (by decide) (by decide) (by decide) (fun r_ w_ H locs hp_ hP hD hS => ?_)
  obtain ⟨r1_13, rfl, rfl, hF_13, hrb_13⟩ := hp_
  have hP : va_P (gD g) vwCl [(hp, .inr (2, [.ref hn])), (hn, .inr (3, [.int (nI 4106), .ref qn, .int (nI 0)])), (qn, .inl (gB g, nn, .inl fn)), (kb, .inr (3, [.int (nI 4096), .ref qb, .int (nI sb)])), (qb, .inl (gB g, nb, .inl fb))] H := hP
  have hD : va_D A [(hp, .inr (2, [.ref hn])), (hn, .inr (3, [.int (nI 4106), .ref qn, .int (nI 0)])), (qn, .inl (gB g, nn, .inl fn)), (kb, .inr (3, [.int (nI 4096), .ref qb, .int (nI sb)])), (qb, .inl (gB g, nb, .inl fb))] := hD
  have hF_13 : pFind fb (nI 63) a0 b0 r1_13 := hF_13
  have hrb_13 : r1_13 ≤ b0 := hrb_13
  refine W.eq (g2 := F0 m 16 ls [.int (nI r1_13)]) rfl ?_
  refine lv_istore (lv' := [(4, .int (nI r1_13)), (0, .ref hp), (1, .ref kb), (2, .int (nI a0)), (3, .int (nI b0))]) hx hb dX3_read_16 hl (by decide) rfl (fun ls hl => ?_)
  refine lv_iload_n hx hb dX3_read_18 rfl (lv_at hl 3 rfl) ?_
  refine lv_istore (lv' := [(5, .int (nI a0)), (4, .int (nI r1_13)), (0, .ref hp), (1, .ref kb), (2, .int (nI a0)), (3, .int (nI b0))]) hx hb dX3_read_19 hl (by decide) rfl (fun ls hl => ?_)
  have K21 : ∀ (N_ : Nat) (i : Nat) (q1 : Nat) (n1 : Nat) (s1 : Nat) (f1 : Nat → Int32) (L : List Int32), (a0 ≤ i) → (i ≤ r1_13 ∨ i = a0) → (s1 + a0 ≤ i) → (s1 ≤ n1 ∧ n1 ≤ 4106 ∧ 256 ≤ n1) → (s1 = L.length) → (hasL f1 0 L) → (∃ m, r1_13 < i + m ∧ pthL fb r1_13 (r1_13 + 1) a0 = (pthL fb r1_13 m i).map (fun l => L ++ l)) → (sb_Fit f1) → (r1_13 - i) < N_ → ∀ (H : Heap) (locs : List Loc) (ls : Array Slot), va_P (gD g) vwCl [(hp, .inr (2, [.ref hn])), (hn, .inr (3, [.int (nI 4106), .ref q1, .int (nI s1)])), (q1, .inl (gB g, n1, .inl f1)), (kb, .inr (3, [.int (nI 4096), .ref qb, .int (nI sb)])), (qb, .inl (gB g, nb, .inl fb))] H → va_D A [(hp, .inr (2, [.ref hn])), (hn, .inr (3, [.int (nI 4106), .ref q1, .int (nI s1)])), (q1, .inl (gB g, n1, .inl f1)), (kb, .inr (3, [.int (nI 4096), .ref qb, .int (nI sb)])), (qb, .inl (gB g, nb, .inl fb))] → va_S A s.heap H locs → lv_has ls 7 [(0, .ref hp), (1, .ref kb), (2, .int (nI a0)), (3, .int (nI b0)), (4, .int (nI r1_13)), (5, .int (nI i))] → W p l e ({ frames := 6, cells := 5, slots := 12318, locals := 131 } : Room) s m args below meth c H locs (lgc n1) (pot2 n1) Q (F0 m 21 ls []) := by
    intro N_
    induction N_ with
    | zero => intro i q1 n1 s1 f1 L hi0 hi1 hs3 hn4 hLl hLf hE ft hm_; exact absurd hm_ (Nat.not_lt_zero _)
    | succ N_ ih_K21 =>
      intro i q1 n1 s1 f1 L hi0 hi1 hs3 hn4 hLl hLf hE ft hm_ H locs ls hP hD hS hl
      have hlg := lgc_le n1
      have hpt := pot2_le (n := n1) (by omega)
      refine lv_iload hx hb dX3_read_21 (lv_at hl 5 rfl) ?_
      refine lv_iload hx hb dX3_read_23 (lv_at hl 4 rfl) ?_
      refine lv_icmp_ge (tgt := 81) hx hb dX3_read_25 (by decide) (fun c25 => ?_) (fun c25 => ?_)
      · skip
        have c25 : r1_13 ≤ i := (nI_leI (a := r1_13) (b := i) (by omega) (by omega)).mp c25
        refine lv_aload_n hx hb dX3_read_81 rfl (lv_at hl 0 rfl) ?_
        refine va_get (D := gD g) (ci := 2) (v := .ref hn) (C := RX3) (T := TX3) (N := 1) hx hb hts hinX3 hown hK hP 0 rfl rfl 0 (by decide) hf24 (fun _ h9 => h9) rfl dX3_read_82 ?_
        refine va_ldcS hx hb hown ((hG.1 14 (by decide)).2.2.2.2) dX3_read_85 ?_
        refine ct_callV (wr := [(hp, .inr (2, [.ref hn])), (kb, .inr (3, [.int (nI 4096), .ref qb, .int (nI sb)])), (qb, .inl (gB g, nb, .inl fb))]) hx hb hml hown hts hK hP hD hS hA hG hl.1 (c_endsWith l g hn q1 4106 n1 s1 f1 14 (by omega) (by omega) (by omega) (by first | assumption | decide)) (cwV 1 hts gX3_read_X4_endsWith rfl rfl rfl (by decide +kernel) ⟨Nat.le_of_ble_eq_true rfl, Nat.le_of_ble_eq_true rfl⟩) (va_recv hK hP (ci := 3) (q0 := 1) rfl rfl) rfl rfl (Nat.le_of_ble_eq_true rfl) dX3_read_87 ⟨show lgc n1 + 0 ≤ 5 by omega, show pot2 n1 + 0 ≤ 12318 by omega⟩ [1, 2] [0, 3, 4] rfl rfl (by decide) (by decide) (by decide) (fun r_ w_ H locs hp_ hP hD hS => ?_)
        rcases hp_ with ⟨rfl, rfl, hT_87⟩ | ⟨rfl, rfl, hF_87⟩
        · skip
          have hP : va_P (gD g) vwCl [(hp, .inr (2, [.ref hn])), (kb, .inr (3, [.int (nI 4096), .ref qb, .int (nI sb)])), (qb, .inl (gB g, nb, .inl fb)), (hn, .inr (3, [.int (nI 4106), .ref q1, .int (nI s1)])), (q1, .inl (gB g, n1, .inl f1))] H := hP
          have hD : va_D A [(hp, .inr (2, [.ref hn])), (kb, .inr (3, [.int (nI 4096), .ref qb, .int (nI sb)])), (qb, .inl (gB g, nb, .inl fb)), (hn, .inr (3, [.int (nI 4106), .ref q1, .int (nI s1)])), (q1, .inl (gB g, n1, .inl f1))] := hD
          have hT_87 : pEnds f1 s1 14 := hT_87
          refine W.eq (g2 := F0 m 90 ls [.int (nI 1)]) rfl ?_
          refine lv_if_eq (tgt := 102) hx hb dX3_read_90 (by decide) (fun c90 => absurd c90 (by decide)) (fun _ => ?_)
          refine lv_aload_n hx hb dX3_read_93 rfl (lv_at hl 0 rfl) ?_
          refine va_get (D := gD g) (ci := 2) (v := .ref hn) (C := RX3) (T := TX3) (N := 1) hx hb hts hinX3 hown hK hP 0 rfl rfl 0 (by decide) hf24 (fun _ h9 => h9) rfl dX3_read_94 ?_
          refine va_ldcS hx hb hown ((hG.1 0 (by decide)).2.2.2.2) dX3_read_97 ?_
          have ha1 := le_cpN 4106 n1 (s1 + slen 0)
          have hb1 := cpN_le (lim := 4106) (n := n1) (need := s1 + slen 0) (by omega) (by omega)
          have hc1 := n_le_cpN (lim := 4106) (n := n1) (need := s1 + slen 0) (by omega)
          have hk1 := lgc_add (n := n1) (a := s1 + slen 0) (by omega) (by omega) (by omega) (by omega)
          have hk2 := pot2_add (n := n1) (a := s1 + slen 0) (by omega) (by omega) (by omega) (by omega)
          have hk3 := lgc_le (cpN 4106 n1 (s1 + slen 0))
          have hk4 := pot2_le (n := cpN 4106 n1 (s1 + slen 0)) (by omega)
          refine ct_callV (wr := [(hp, .inr (2, [.ref hn])), (kb, .inr (3, [.int (nI 4096), .ref qb, .int (nI sb)])), (qb, .inl (gB g, nb, .inl fb))]) hx hb hml hown hts hK hP hD hS hA hG hl.1 (c_addText l g hn q1 4106 n1 s1 f1 0 (by omega) (by omega) (by omega) (by omega) (by assumption) (by omega) (by first | assumption | decide) (by omega)) (cwV 1 hts gX3_read_X4_addText rfl rfl rfl (by decide +kernel) ⟨Nat.le_of_ble_eq_true rfl, Nat.le_of_ble_eq_true rfl⟩) (va_recv hK hP (ci := 3) (q0 := 3) rfl rfl) rfl rfl (Nat.le_of_ble_eq_true rfl) dX3_read_99 ⟨show lgc n1 + (gcN n1 (s1 + slen 0)) ≤ 5 by omega, show pot2 n1 + (gsN 4106 n1 (s1 + slen 0)) ≤ 12318 by omega⟩ [3, 4] [0, 1, 2] rfl rfl (by decide) (by decide) (by decide) (fun r_ w_ H locs hp_ hP hD hS => ?_)
          obtain ⟨q1_99, n1_99, f1_99, rfl, rfl, en_99, ef_99, et_99, ft_99⟩ := hp_
          have hP : va_P (gD g) vwCl [(hp, .inr (2, [.ref hn])), (kb, .inr (3, [.int (nI 4096), .ref qb, .int (nI sb)])), (qb, .inl (gB g, nb, .inl fb)), (hn, .inr (3, [.int (nI 4106), .ref q1_99, .int (nI (s1 + slen 0))])), (q1_99, .inl (gB g, n1_99, .inl f1_99))] H := hP
          have hD : va_D A [(hp, .inr (2, [.ref hn])), (kb, .inr (3, [.int (nI 4096), .ref qb, .int (nI sb)])), (qb, .inl (gB g, nb, .inl fb)), (hn, .inr (3, [.int (nI 4106), .ref q1_99, .int (nI (s1 + slen 0))])), (q1_99, .inl (gB g, n1_99, .inl f1_99))] := hD
          have en_99 : n1_99 = cpN 4106 n1 (s1 + slen 0) := en_99
          have ef_99 : ∀ j, j < s1 → f1_99 j = f1 j := ef_99
          have et_99 : hasL f1_99 s1 (sL 0) := et_99
          have ft_99 : sb_Fit f1_99 := ft_99
          refine W.widen (k := lgc n1 + (gcN n1 (s1 + slen 0))) (n := pot2 n1 + (gsN 4106 n1 (s1 + slen 0))) (by omega) (by omega) ?_
          refine W.eq (g2 := F0 m 102 ls []) rfl ?_
          refine lv_iconst (v := nI 1) hx hb dX3_read_102 (by decide) ?_
          refine ct_iret (w := [(hp, .inr (2, [.ref hn])), (hn, .inr (3, [.int (nI 4106), .ref q1_99, .int (nI (s1 + slen 0))])), (q1_99, .inl (gB g, n1_99, .inl f1_99)), (kb, .inr (3, [.int (nI 4096), .ref qb, .int (nI sb)])), (qb, .inl (gB g, nb, .inl fb))]) hx hb hr rfl hlocks hQ hAe hK (hP.sub [0, 3, 4, 1, 2] rfl) (hD.sub [0, 3, 4, 1, 2] (by decide) rfl) hS (by omega) (by omega) dX3_read_103 ?_
          refine Or.inr ((?_))
          exact ⟨q1_99, n1_99, s1 + slen 0, f1_99, r1_13, L, rfl, rfl, by exact hF_13, by (obtain ⟨m, h1, h2⟩ := hE; rw [h2, pthL_0 (by omega)]; simp), by first | exact Or.inl ⟨fun z => hF_87 (by rw [hLl]; exact (pSl_iff hLf).mpr z), hLf, hLl⟩ | exact Or.inr ⟨(pSl_iff hLf).mp (by rw [← hLl]; exact hT_87), hasL_app hLf (fun j hj => ef_99 j (by omega)) (by rw [← hLl]; exact et_99), by omega⟩, by first | exact ⟨by omega, by omega, by omega, ft⟩ | exact ⟨by rw [en_99]; omega, by rw [en_99]; omega, by rw [en_99]; omega, ft_99⟩⟩
        · skip
          have hP : va_P (gD g) vwCl [(hp, .inr (2, [.ref hn])), (kb, .inr (3, [.int (nI 4096), .ref qb, .int (nI sb)])), (qb, .inl (gB g, nb, .inl fb)), (hn, .inr (3, [.int (nI 4106), .ref q1, .int (nI s1)])), (q1, .inl (gB g, n1, .inl f1))] H := hP
          have hD : va_D A [(hp, .inr (2, [.ref hn])), (kb, .inr (3, [.int (nI 4096), .ref qb, .int (nI sb)])), (qb, .inl (gB g, nb, .inl fb)), (hn, .inr (3, [.int (nI 4106), .ref q1, .int (nI s1)])), (q1, .inl (gB g, n1, .inl f1))] := hD
          have hF_87 : ¬ (pEnds f1 s1 14) := hF_87
          refine W.eq (g2 := F0 m 90 ls [.int (nI 0)]) rfl ?_
          refine lv_if_eq (tgt := 102) hx hb dX3_read_90 (by decide) (fun _ => ?_) (fun c90 => absurd (by decide) c90)
          refine lv_iconst (v := nI 1) hx hb dX3_read_102 (by decide) ?_
          refine ct_iret (w := [(hp, .inr (2, [.ref hn])), (hn, .inr (3, [.int (nI 4106), .ref q1, .int (nI s1)])), (q1, .inl (gB g, n1, .inl f1)), (kb, .inr (3, [.int (nI 4096), .ref qb, .int (nI sb)])), (qb, .inl (gB g, nb, .inl fb))]) hx hb hr rfl hlocks hQ hAe hK (hP.sub [0, 3, 4, 1, 2] rfl) (hD.sub [0, 3, 4, 1, 2] (by decide) rfl) hS (by omega) (by omega) dX3_read_103 ?_
          refine Or.inr ((?_))
          exact ⟨q1, n1, s1, f1, r1_13, L, rfl, rfl, by exact hF_13, by (obtain ⟨m, h1, h2⟩ := hE; rw [h2, pthL_0 (by omega)]; simp), by first | exact Or.inl ⟨fun z => hF_87 (by rw [hLl]; exact (pSl_iff hLf).mpr z), hLf, hLl⟩ | exact Or.inr ⟨(pSl_iff hLf).mp (by rw [← hLl]; exact hT_87), hasL_app hLf (fun j hj => ef_99 j (by omega)) (by rw [← hLl]; exact et_99), by omega⟩, by first | exact ⟨by omega, by omega, by omega, ft⟩ | exact ⟨by rw [en_99]; omega, by rw [en_99]; omega, by rw [en_99]; omega, ft_99⟩⟩
      · skip
        have c25 : ¬ (r1_13 ≤ i) := fun z => c25 ((nI_leI (a := r1_13) (b := i) (by omega) (by omega)).mpr z)
        refine lv_aload_n hx hb dX3_read_28 rfl (lv_at hl 1 rfl) ?_
        refine lv_iload hx hb dX3_read_29 (lv_at hl 5 rfl) ?_
        refine ct_callV (wr := [(hp, .inr (2, [.ref hn])), (hn, .inr (3, [.int (nI 4106), .ref q1, .int (nI s1)])), (q1, .inl (gB g, n1, .inl f1))]) hx hb hml hown hts hK hP hD hS hA hG hl.1 (c_getIn l g kb qb 4096 nb sb fb i (by omega) (by omega) (by omega)) (cwV 1 hts gX3_read_X4_get rfl rfl rfl (by decide +kernel) ⟨Nat.le_of_ble_eq_true rfl, Nat.le_of_ble_eq_true rfl⟩) (va_recv hK hP (ci := 3) (q0 := 3) rfl rfl) rfl rfl (Nat.le_of_ble_eq_true rfl) dX3_read_31 ⟨show lgc n1 + 0 ≤ 5 by omega, show pot2 n1 + 0 ≤ 12318 by omega⟩ [3, 4] [0, 1, 2] rfl rfl (by decide) (by decide) (by decide) (fun r_ w_ H locs hp_ hP hD hS => ?_)
        obtain ⟨rfl, rfl⟩ := hp_
        have hP : va_P (gD g) vwCl [(hp, .inr (2, [.ref hn])), (hn, .inr (3, [.int (nI 4106), .ref q1, .int (nI s1)])), (q1, .inl (gB g, n1, .inl f1)), (kb, .inr (3, [.int (nI 4096), .ref qb, .int (nI sb)])), (qb, .inl (gB g, nb, .inl fb))] H := hP
        have hD : va_D A [(hp, .inr (2, [.ref hn])), (hn, .inr (3, [.int (nI 4106), .ref q1, .int (nI s1)])), (q1, .inl (gB g, n1, .inl f1)), (kb, .inr (3, [.int (nI 4096), .ref qb, .int (nI sb)])), (qb, .inl (gB g, nb, .inl fb))] := hD
        refine W.eq (g2 := F0 m 34 ls [.int (fb i &&& 255)]) rfl ?_
        refine lv_istore (lv' := [(6, .int (fb i &&& 255)), (0, .ref hp), (1, .ref kb), (2, .int (nI a0)), (3, .int (nI b0)), (4, .int (nI r1_13)), (5, .int (nI i))]) hx hb dX3_read_34 hl (by decide) rfl (fun ls hl => ?_)
        refine lv_iload hx hb dX3_read_36 (lv_at hl 0 rfl) ?_
        refine lv_bipush (v := nI 37) hx hb dX3_read_38 (by decide) ?_
        refine lv_icmp_ne (tgt := 56) hx hb dX3_read_40 (by decide) (fun c40 => ?_) (fun c40 => ?_)
        · skip
          refine lv_iload hx hb dX3_read_56 (lv_at hl 0 rfl) ?_
          refine ct_callS (wr := [(hp, .inr (2, [.ref hn])), (hn, .inr (3, [.int (nI 4106), .ref q1, .int (nI s1)])), (q1, .inl (gB g, n1, .inl f1)), (kb, .inr (3, [.int (nI 4096), .ref qb, .int (nI sb)])), (qb, .inl (gB g, nb, .inl fb))]) hx hb hml hown hts hK hP hD hS hA hG hl.1 (c_isVisible l g (fb i &&& 255) ) (va_cwS 1 hts gX3_read_X1_isVisible rfl rfl rfl (by decide +kernel) ⟨Nat.le_of_ble_eq_true rfl, Nat.le_of_ble_eq_true rfl⟩) rfl rfl (Nat.le_of_ble_eq_true rfl) dX3_read_58 ⟨show lgc n1 + 0 ≤ 5 by omega, show pot2 n1 + 0 ≤ 12318 by omega⟩ [] [0, 1, 2, 3, 4] rfl rfl (by decide) (by decide) (by decide) (fun r_ w_ H locs hp_ hP hD hS => ?_)
          rcases hp_ with ⟨rfl, rfl, hT_58⟩ | ⟨rfl, rfl, hF_58⟩
          · skip
            have hP : va_P (gD g) vwCl [(hp, .inr (2, [.ref hn])), (hn, .inr (3, [.int (nI 4106), .ref q1, .int (nI s1)])), (q1, .inl (gB g, n1, .inl f1)), (kb, .inr (3, [.int (nI 4096), .ref qb, .int (nI sb)])), (qb, .inl (gB g, nb, .inl fb))] H := hP
            have hD : va_D A [(hp, .inr (2, [.ref hn])), (hn, .inr (3, [.int (nI 4106), .ref q1, .int (nI s1)])), (q1, .inl (gB g, n1, .inl f1)), (kb, .inr (3, [.int (nI 4096), .ref qb, .int (nI sb)])), (qb, .inl (gB g, nb, .inl fb))] := hD
            have hT_58 : pVis (fb i &&& 255) := hT_58
            refine W.eq (g2 := F0 m 61 ls [.int (nI 1)]) rfl ?_
            refine lv_if_ne (tgt := 66) hx hb dX3_read_61 (by decide) (fun _ => ?_) (fun c61 => absurd c61 (by decide))
            refine lv_aload_n hx hb dX3_read_66 rfl (lv_at hl 1 rfl) ?_
            refine va_get (D := gD g) (ci := 2) (v := .ref hn) (C := RX3) (T := TX3) (N := 1) hx hb hts hinX3 hown hK hP 0 rfl rfl 0 (by decide) hf24 (fun _ h9 => h9) rfl dX3_read_67 ?_
            refine lv_iload hx hb dX3_read_70 (lv_at hl 0 rfl) ?_
            have ha1 := le_cpN 4106 n1 (s1 + 1)
            have hb1 := cpN_le (lim := 4106) (n := n1) (need := s1 + 1) (by omega) (by omega)
            have hc1 := n_le_cpN (lim := 4106) (n := n1) (need := s1 + 1) (by omega)
            have hk1 := lgc_add (n := n1) (a := s1 + 1) (by omega) (by omega) (by omega) (by omega)
            have hk2 := pot2_add (n := n1) (a := s1 + 1) (by omega) (by omega) (by omega) (by omega)
            have hk3 := lgc_le (cpN 4106 n1 (s1 + 1))
            have hk4 := pot2_le (n := cpN 4106 n1 (s1 + 1)) (by omega)
            refine ct_callV (wr := [(hp, .inr (2, [.ref hn])), (kb, .inr (3, [.int (nI 4096), .ref qb, .int (nI sb)])), (qb, .inl (gB g, nb, .inl fb))]) hx hb hml hown hts hK hP hD hS hA hG hl.1 (c_add l g hn q1 4106 n1 s1 f1 (fb i &&& 255) (by omega) (by omega) (by omega) (by omega) (by assumption) (by omega)) (cwV 1 hts gX3_read_X4_add rfl rfl rfl (by decide +kernel) ⟨Nat.le_of_ble_eq_true rfl, Nat.le_of_ble_eq_true rfl⟩) (va_recv hK hP (ci := 3) (q0 := 1) rfl rfl) rfl rfl (Nat.le_of_ble_eq_true rfl) dX3_read_72 ⟨show lgc n1 + (gcN n1 (s1 + 1)) ≤ 5 by omega, show pot2 n1 + (gsN 4106 n1 (s1 + 1)) ≤ 12318 by omega⟩ [1, 2] [0, 3, 4] rfl rfl (by decide) (by decide) (by decide) (fun r_ w_ H locs hp_ hP hD hS => ?_)
            obtain ⟨q1_72, n1_72, f1_72, rfl, rfl, en_72, ef_72, ev_72, ft_72⟩ := hp_
            have hP : va_P (gD g) vwCl [(hp, .inr (2, [.ref hn])), (kb, .inr (3, [.int (nI 4096), .ref qb, .int (nI sb)])), (qb, .inl (gB g, nb, .inl fb)), (hn, .inr (3, [.int (nI 4106), .ref q1_72, .int (nI (s1 + 1))])), (q1_72, .inl (gB g, n1_72, .inl f1_72))] H := hP
            have hD : va_D A [(hp, .inr (2, [.ref hn])), (kb, .inr (3, [.int (nI 4096), .ref qb, .int (nI sb)])), (qb, .inl (gB g, nb, .inl fb)), (hn, .inr (3, [.int (nI 4106), .ref q1_72, .int (nI (s1 + 1))])), (q1_72, .inl (gB g, n1_72, .inl f1_72))] := hD
            have en_72 : n1_72 = cpN 4106 n1 (s1 + 1) := en_72
            have ef_72 : ∀ j, j < s1 → f1_72 j = f1 j := ef_72
            have ev_72 : f1_72 s1 = (fb i &&& 255).toInt8.toInt32 := ev_72
            have ft_72 : sb_Fit f1_72 := ft_72
            refine W.widen (k := lgc n1 + (gcN n1 (s1 + 1))) (n := pot2 n1 + (gsN 4106 n1 (s1 + 1))) (by omega) (by omega) ?_
            refine W.eq (g2 := F0 m 75 ls []) rfl ?_
            refine lv_iinc (v := nI (i + 1)) (lv' := [(5, .int (nI (i + 1))), (6, .int (fb i &&& 255)), (0, .ref hp), (1, .ref kb), (2, .int (nI a0)), (3, .int (nI b0)), (4, .int (nI r1_13))]) hx hb dX3_read_75 hl (k := 6) rfl (nI_inc i 1) (by decide) rfl (fun ls hl => ?_)
            refine lv_goto (tgt := 21) hx hb dX3_read_78 (by decide) ?_
            refine W.widen (k := lgc n1_72) (n := pot2 n1_72) (by first | exact Nat.zero_le _ | (rw [en_72]; first | exact lgc_add (by omega) (by omega) (by omega) (by omega) | exact pot2_add (by omega) (by omega) (by omega) (by omega))) (by first | exact Nat.zero_le _ | (rw [en_72]; first | exact lgc_add (by omega) (by omega) (by omega) (by omega) | exact pot2_add (by omega) (by omega) (by omega) (by omega))) ?_
            exact ih_K21 (i + 1) q1_72 n1_72 (s1 + 1) f1_72 (L ++ [fb i &&& 255]) (by omega) (by first | omega | (have h_ : i + 2 < r1_13 := esc_in (by rw [← ev_48]; exact hT_58); omega)) (by omega) (by rw [en_72]; omega) (by rw [List.length_append, hLl]; rfl) (by exact hasL_snoc hLf (fun j hj => ef_72 j (by omega)) (by rw [← hLl, ev_72]; exact vis_b hT_58)) (by (obtain ⟨m, h1, h2⟩ := hE; obtain ⟨m, rfl⟩ : ∃ k, m = k + 1 := ⟨m - 1, by omega⟩; first | exact ⟨m, by omega, pth_step h2 (by omega) (if_neg c40) (if_neg c40) hT_58⟩ | exact ⟨m, by omega, pth_step h2 (by omega) ((if_pos c40).trans ev_48.symm) (if_pos c40) hT_58⟩)) (by assumption) (by first | omega | (have h_ : i + 2 < r1_13 := esc_in (by rw [← ev_48]; exact hT_58); omega)) _ _ _ (hP.sub [0, 3, 4, 1, 2] rfl) (hD.sub [0, 3, 4, 1, 2] (by decide) rfl) hS (lv_sub hl [2, 3, 4, 5, 6, 0] rfl)
          · skip
            have hP : va_P (gD g) vwCl [(hp, .inr (2, [.ref hn])), (hn, .inr (3, [.int (nI 4106), .ref q1, .int (nI s1)])), (q1, .inl (gB g, n1, .inl f1)), (kb, .inr (3, [.int (nI 4096), .ref qb, .int (nI sb)])), (qb, .inl (gB g, nb, .inl fb))] H := hP
            have hD : va_D A [(hp, .inr (2, [.ref hn])), (hn, .inr (3, [.int (nI 4106), .ref q1, .int (nI s1)])), (q1, .inl (gB g, n1, .inl f1)), (kb, .inr (3, [.int (nI 4096), .ref qb, .int (nI sb)])), (qb, .inl (gB g, nb, .inl fb))] := hD
            have hF_58 : ¬ (pVis (fb i &&& 255)) := hF_58
            refine W.eq (g2 := F0 m 61 ls [.int (nI 0)]) rfl ?_
            refine lv_if_ne (tgt := 66) hx hb dX3_read_61 (by decide) (fun c61 => absurd (by decide) c61) (fun _ => ?_)
            refine lv_iconst (v := nI 0) hx hb dX3_read_64 (by decide) ?_
            refine ct_iret (w := [(hp, .inr (2, [.ref hn])), (hn, .inr (3, [.int (nI 4106), .ref q1, .int (nI s1)])), (q1, .inl (gB g, n1, .inl f1)), (kb, .inr (3, [.int (nI 4096), .ref qb, .int (nI sb)])), (qb, .inl (gB g, nb, .inl fb))]) hx hb hr rfl hlocks hQ hAe hK (hP.sub [0, 1, 2, 3, 4] rfl) (hD.sub [0, 1, 2, 3, 4] (by decide) rfl) hS (by omega) (by omega) dX3_read_65 ?_
            refine Or.inl (?_)
            exact ⟨q1, n1, s1, f1, r1_13, rfl, rfl, by exact hF_13, by (obtain ⟨m, h1, h2⟩ := hE; obtain ⟨m, rfl⟩ : ∃ k, m = k + 1 := ⟨m - 1, by omega⟩; first | exact h2.trans (by rw [pthL_n (by omega) (by rw [pcd, if_neg c40]; exact hF_58)]; rfl) | exact h2.trans (by rw [pthL_n (by omega) (by rw [pcd, if_pos c40, ← ev_48]; exact hF_58)]; rfl)), by first | exact ⟨by omega, by omega, by omega, ft⟩ | exact ⟨by rw [en_99]; omega, by rw [en_99]; omega, by rw [en_99]; omega, ft_99⟩⟩
        · skip
          refine lv_aload_n hx hb dX3_read_43 rfl (lv_at hl 2 rfl) ?_
          refine lv_iload hx hb dX3_read_44 (lv_at hl 6 rfl) ?_
          refine lv_iload hx hb dX3_read_46 (lv_at hl 5 rfl) ?_
          refine ct_callS (wr := [(hp, .inr (2, [.ref hn])), (hn, .inr (3, [.int (nI 4106), .ref q1, .int (nI s1)])), (q1, .inl (gB g, n1, .inl f1))]) hx hb hml hown hts hK hP hD hS hA hG hl.1 (c_escaped l g kb qb 4096 nb sb fb i r1_13 (by omega) (by omega) (by omega) (by omega)) (va_cwS 3 hts gX3_read_X3_escapedCode rfl rfl rfl (by decide +kernel) ⟨Nat.le_of_ble_eq_true rfl, Nat.le_of_ble_eq_true rfl⟩) rfl rfl (Nat.le_of_ble_eq_true rfl) dX3_read_48 ⟨show lgc n1 + 0 ≤ 5 by omega, show pot2 n1 + 0 ≤ 12318 by omega⟩ [3, 4] [0, 1, 2] rfl rfl (by decide) (by decide) (by decide) (fun r_ w_ H locs hp_ hP hD hS => ?_)
          obtain ⟨v1_48, rfl, rfl, ev_48⟩ := hp_
          have hP : va_P (gD g) vwCl [(hp, .inr (2, [.ref hn])), (hn, .inr (3, [.int (nI 4106), .ref q1, .int (nI s1)])), (q1, .inl (gB g, n1, .inl f1)), (kb, .inr (3, [.int (nI 4096), .ref qb, .int (nI sb)])), (qb, .inl (gB g, nb, .inl fb))] H := hP
          have hD : va_D A [(hp, .inr (2, [.ref hn])), (hn, .inr (3, [.int (nI 4106), .ref q1, .int (nI s1)])), (q1, .inl (gB g, n1, .inl f1)), (kb, .inr (3, [.int (nI 4096), .ref qb, .int (nI sb)])), (qb, .inl (gB g, nb, .inl fb))] := hD
          have ev_48 : v1_48 = escF fb i r1_13 := ev_48
          refine W.eq (g2 := F0 m 51 ls [.int v1_48]) rfl ?_
          refine lv_istore (lv' := [(6, .int v1_48), (0, .ref hp), (1, .ref kb), (2, .int (nI a0)), (3, .int (nI b0)), (4, .int (nI r1_13)), (5, .int (nI i))]) hx hb dX3_read_51 hl (by decide) rfl (fun ls hl => ?_)
          refine lv_iinc (v := nI (i + 2)) (lv' := [(5, .int (nI (i + 2))), (6, .int v1_48), (0, .ref hp), (1, .ref kb), (2, .int (nI a0)), (3, .int (nI b0)), (4, .int (nI r1_13))]) hx hb dX3_read_53 hl (k := 6) rfl (nI_inc i 2) (by decide) rfl (fun ls hl => ?_)
          refine lv_iload hx hb dX3_read_56 (lv_at hl 1 rfl) ?_
          refine ct_callS (wr := [(hp, .inr (2, [.ref hn])), (hn, .inr (3, [.int (nI 4106), .ref q1, .int (nI s1)])), (q1, .inl (gB g, n1, .inl f1)), (kb, .inr (3, [.int (nI 4096), .ref qb, .int (nI sb)])), (qb, .inl (gB g, nb, .inl fb))]) hx hb hml hown hts hK hP hD hS hA hG hl.1 (c_isVisible l g v1_48 ) (va_cwS 1 hts gX3_read_X1_isVisible rfl rfl rfl (by decide +kernel) ⟨Nat.le_of_ble_eq_true rfl, Nat.le_of_ble_eq_true rfl⟩) rfl rfl (Nat.le_of_ble_eq_true rfl) dX3_read_58 ⟨show lgc n1 + 0 ≤ 5 by omega, show pot2 n1 + 0 ≤ 12318 by omega⟩ [] [0, 1, 2, 3, 4] rfl rfl (by decide) (by decide) (by decide) (fun r_ w_ H locs hp_ hP hD hS => ?_)
          rcases hp_ with ⟨rfl, rfl, hT_58⟩ | ⟨rfl, rfl, hF_58⟩
          · skip
            have hP : va_P (gD g) vwCl [(hp, .inr (2, [.ref hn])), (hn, .inr (3, [.int (nI 4106), .ref q1, .int (nI s1)])), (q1, .inl (gB g, n1, .inl f1)), (kb, .inr (3, [.int (nI 4096), .ref qb, .int (nI sb)])), (qb, .inl (gB g, nb, .inl fb))] H := hP
            have hD : va_D A [(hp, .inr (2, [.ref hn])), (hn, .inr (3, [.int (nI 4106), .ref q1, .int (nI s1)])), (q1, .inl (gB g, n1, .inl f1)), (kb, .inr (3, [.int (nI 4096), .ref qb, .int (nI sb)])), (qb, .inl (gB g, nb, .inl fb))] := hD
            have hT_58 : pVis v1_48 := hT_58
            refine W.eq (g2 := F0 m 61 ls [.int (nI 1)]) rfl ?_
            refine lv_if_ne (tgt := 66) hx hb dX3_read_61 (by decide) (fun _ => ?_) (fun c61 => absurd c61 (by decide))
            refine lv_aload_n hx hb dX3_read_66 rfl (lv_at hl 2 rfl) ?_
            refine va_get (D := gD g) (ci := 2) (v := .ref hn) (C := RX3) (T := TX3) (N := 1) hx hb hts hinX3 hown hK hP 0 rfl rfl 0 (by decide) hf24 (fun _ h9 => h9) rfl dX3_read_67 ?_
            refine lv_iload hx hb dX3_read_70 (lv_at hl 1 rfl) ?_
            have ha1 := le_cpN 4106 n1 (s1 + 1)
            have hb1 := cpN_le (lim := 4106) (n := n1) (need := s1 + 1) (by omega) (by omega)
            have hc1 := n_le_cpN (lim := 4106) (n := n1) (need := s1 + 1) (by omega)
            have hk1 := lgc_add (n := n1) (a := s1 + 1) (by omega) (by omega) (by omega) (by omega)
            have hk2 := pot2_add (n := n1) (a := s1 + 1) (by omega) (by omega) (by omega) (by omega)
            have hk3 := lgc_le (cpN 4106 n1 (s1 + 1))
            have hk4 := pot2_le (n := cpN 4106 n1 (s1 + 1)) (by omega)
            refine ct_callV (wr := [(hp, .inr (2, [.ref hn])), (kb, .inr (3, [.int (nI 4096), .ref qb, .int (nI sb)])), (qb, .inl (gB g, nb, .inl fb))]) hx hb hml hown hts hK hP hD hS hA hG hl.1 (c_add l g hn q1 4106 n1 s1 f1 v1_48 (by omega) (by omega) (by omega) (by omega) (by assumption) (by omega)) (cwV 1 hts gX3_read_X4_add rfl rfl rfl (by decide +kernel) ⟨Nat.le_of_ble_eq_true rfl, Nat.le_of_ble_eq_true rfl⟩) (va_recv hK hP (ci := 3) (q0 := 1) rfl rfl) rfl rfl (Nat.le_of_ble_eq_true rfl) dX3_read_72 ⟨show lgc n1 + (gcN n1 (s1 + 1)) ≤ 5 by omega, show pot2 n1 + (gsN 4106 n1 (s1 + 1)) ≤ 12318 by omega⟩ [1, 2] [0, 3, 4] rfl rfl (by decide) (by decide) (by decide) (fun r_ w_ H locs hp_ hP hD hS => ?_)
            obtain ⟨q1_72, n1_72, f1_72, rfl, rfl, en_72, ef_72, ev_72, ft_72⟩ := hp_
            have hP : va_P (gD g) vwCl [(hp, .inr (2, [.ref hn])), (kb, .inr (3, [.int (nI 4096), .ref qb, .int (nI sb)])), (qb, .inl (gB g, nb, .inl fb)), (hn, .inr (3, [.int (nI 4106), .ref q1_72, .int (nI (s1 + 1))])), (q1_72, .inl (gB g, n1_72, .inl f1_72))] H := hP
            have hD : va_D A [(hp, .inr (2, [.ref hn])), (kb, .inr (3, [.int (nI 4096), .ref qb, .int (nI sb)])), (qb, .inl (gB g, nb, .inl fb)), (hn, .inr (3, [.int (nI 4106), .ref q1_72, .int (nI (s1 + 1))])), (q1_72, .inl (gB g, n1_72, .inl f1_72))] := hD
            have en_72 : n1_72 = cpN 4106 n1 (s1 + 1) := en_72
            have ef_72 : ∀ j, j < s1 → f1_72 j = f1 j := ef_72
            have ev_72 : f1_72 s1 = v1_48.toInt8.toInt32 := ev_72
            have ft_72 : sb_Fit f1_72 := ft_72
            refine W.widen (k := lgc n1 + (gcN n1 (s1 + 1))) (n := pot2 n1 + (gsN 4106 n1 (s1 + 1))) (by omega) (by omega) ?_
            refine W.eq (g2 := F0 m 75 ls []) rfl ?_
            refine lv_iinc (v := nI (i + 2 + 1)) (lv' := [(5, .int (nI (i + 2 + 1))), (6, .int v1_48), (0, .ref hp), (1, .ref kb), (2, .int (nI a0)), (3, .int (nI b0)), (4, .int (nI r1_13))]) hx hb dX3_read_75 hl (k := 0) rfl (nI_inc (i + 2) 1) (by decide) rfl (fun ls hl => ?_)
            refine lv_goto (tgt := 21) hx hb dX3_read_78 (by decide) ?_
            refine W.widen (k := lgc n1_72) (n := pot2 n1_72) (by first | exact Nat.zero_le _ | (rw [en_72]; first | exact lgc_add (by omega) (by omega) (by omega) (by omega) | exact pot2_add (by omega) (by omega) (by omega) (by omega))) (by first | exact Nat.zero_le _ | (rw [en_72]; first | exact lgc_add (by omega) (by omega) (by omega) (by omega) | exact pot2_add (by omega) (by omega) (by omega) (by omega))) ?_
            exact ih_K21 (i + 2 + 1) q1_72 n1_72 (s1 + 1) f1_72 (L ++ [v1_48]) (by omega) (by first | omega | (have h_ : i + 2 < r1_13 := esc_in (by rw [← ev_48]; exact hT_58); omega)) (by omega) (by rw [en_72]; omega) (by rw [List.length_append, hLl]; rfl) (by exact hasL_snoc hLf (fun j hj => ef_72 j (by omega)) (by rw [← hLl, ev_72]; exact vis_b hT_58)) (by (obtain ⟨m, h1, h2⟩ := hE; obtain ⟨m, rfl⟩ : ∃ k, m = k + 1 := ⟨m - 1, by omega⟩; first | exact ⟨m, by omega, pth_step h2 (by omega) (if_neg c40) (if_neg c40) hT_58⟩ | exact ⟨m, by omega, pth_step h2 (by omega) ((if_pos c40).trans ev_48.symm) (if_pos c40) hT_58⟩)) (by assumption) (by first | omega | (have h_ : i + 2 < r1_13 := esc_in (by rw [← ev_48]; exact hT_58); omega)) _ _ _ (hP.sub [0, 3, 4, 1, 2] rfl) (hD.sub [0, 3, 4, 1, 2] (by decide) rfl) hS (lv_sub hl [2, 3, 4, 5, 6, 0] rfl)
          · skip
            have hP : va_P (gD g) vwCl [(hp, .inr (2, [.ref hn])), (hn, .inr (3, [.int (nI 4106), .ref q1, .int (nI s1)])), (q1, .inl (gB g, n1, .inl f1)), (kb, .inr (3, [.int (nI 4096), .ref qb, .int (nI sb)])), (qb, .inl (gB g, nb, .inl fb))] H := hP
            have hD : va_D A [(hp, .inr (2, [.ref hn])), (hn, .inr (3, [.int (nI 4106), .ref q1, .int (nI s1)])), (q1, .inl (gB g, n1, .inl f1)), (kb, .inr (3, [.int (nI 4096), .ref qb, .int (nI sb)])), (qb, .inl (gB g, nb, .inl fb))] := hD
            have hF_58 : ¬ (pVis v1_48) := hF_58
            refine W.eq (g2 := F0 m 61 ls [.int (nI 0)]) rfl ?_
            refine lv_if_ne (tgt := 66) hx hb dX3_read_61 (by decide) (fun c61 => absurd (by decide) c61) (fun _ => ?_)
            refine lv_iconst (v := nI 0) hx hb dX3_read_64 (by decide) ?_
            refine ct_iret (w := [(hp, .inr (2, [.ref hn])), (hn, .inr (3, [.int (nI 4106), .ref q1, .int (nI s1)])), (q1, .inl (gB g, n1, .inl f1)), (kb, .inr (3, [.int (nI 4096), .ref qb, .int (nI sb)])), (qb, .inl (gB g, nb, .inl fb))]) hx hb hr rfl hlocks hQ hAe hK (hP.sub [0, 1, 2, 3, 4] rfl) (hD.sub [0, 1, 2, 3, 4] (by decide) rfl) hS (by omega) (by omega) dX3_read_65 ?_
            refine Or.inl (?_)
            exact ⟨q1, n1, s1, f1, r1_13, rfl, rfl, by exact hF_13, by (obtain ⟨m, h1, h2⟩ := hE; obtain ⟨m, rfl⟩ : ∃ k, m = k + 1 := ⟨m - 1, by omega⟩; first | exact h2.trans (by rw [pthL_n (by omega) (by rw [pcd, if_neg c40]; exact hF_58)]; rfl) | exact h2.trans (by rw [pthL_n (by omega) (by rw [pcd, if_pos c40, ← ev_48]; exact hF_58)]; rfl)), by first | exact ⟨by omega, by omega, by omega, ft⟩ | exact ⟨by rw [en_99]; omega, by rw [en_99]; omega, by rw [en_99]; omega, ft_99⟩⟩
  refine W.widen (k := lgc nn) (n := pot2 nn) (by first | exact Nat.zero_le _ | (rw [en_72]; first | exact lgc_add (by omega) (by omega) (by omega) (by omega) | exact pot2_add (by omega) (by omega) (by omega) (by omega))) (by first | exact Nat.zero_le _ | (rw [en_72]; first | exact lgc_add (by omega) (by omega) (by omega) (by omega) | exact pot2_add (by omega) (by omega) (by omega) (by omega))) ?_
  exact K21 ((r1_13 - a0) + 1) a0 qn nn 0 fn ([]) (by omega) (by omega) (by omega) (by omega) (by rfl) (by exact fun j hj => absurd hj (Nat.not_lt_zero _)) (by exact ⟨r1_13 + 1, by omega, by simp⟩) (by assumption) (Nat.lt_succ_self _) _ _ _ (hP.sub [0, 1, 2, 3, 4] rfl) (hD.sub [0, 1, 2, 3, 4] (by decide) rfl) hS (lv_sub hl [2, 3, 4, 5, 1, 0] rfl)

set_option maxHeartbeats 4000000 in
set_option maxRecDepth 100000 in
theorem c_type (l : Launch) (g : GT) (hp : Nat) (hn : Nat) (qn : Nat) (nn : Nat) (sn : Nat) (fn : Nat → Int32) (hn1 : sn ≤ nn) (hn2 : nn ≤ 4106) (hn3 : 256 ≤ nn) : CT l g yX3_type wsX3_type ({ frames := 6, cells := 0, slots := 0, locals := 131 } : Room) [.ref hp] [(hp, .inr (2, [.ref hn])), (hn, .inr (3, [.int (nI 4106), .ref qn, .int (nI sn)])), (qn, .inl (gB g, nn, .inl fn))] (fun r w => (∃ (k1 : Nat), r = some (.ref (gK g k1)) ∧ w = [(hp, .inr (2, [.ref hn])), (hn, .inr (3, [.int (nI 4106), .ref qn, .int (nI sn)])), (qn, .inl (gB g, nn, .inl fn))] ∧ (k1 = typK fn sn) ∧ (18 ≤ k1 ∧ k1 ≤ 27))) (0) (0) := by
  refine ct_of (cc := cX3_type) (maxL := 1) (ret := (some (.object "java/lang/String"))) (by decide) rfl (Nat.le_of_ble_eq_true rfl) ?_
  intro p e s m args below meth c A Q hx hb hr hml hown hts hlocks hnam hAe hQ hA hG hK hP hD hS ls hl
  have hl : lv_has ls 1 [(0, .ref hp)] := hl
  have hown : s.vm.findClass RX3 = some m.cls := hown
  have hinX3 : ∀ w ∈ u_ws RX3 TX3 1, w ∈ wsX3_type := by decide +kernel
  have hf24 := hts (.fieldLink RX3 24 "RequestReader$Path" "name" "LRequestReader$Row;") (by decide +kernel)
  refine lv_aload_n hx hb dX3_type_0 rfl (lv_at hl 0 rfl) ?_
  refine va_get (D := gD g) (ci := 2) (v := .ref hn) (C := RX3) (T := TX3) (N := 1) hx hb hts hinX3 hown hK hP 0 rfl rfl 0 (by decide) hf24 (fun _ h9 => h9) rfl dX3_type_1 ?_
  refine va_ldcS hx hb hown ((hG.1 17 (by decide)).2.2.2.2) dX3_type_4 ?_
  refine ct_callV (wr := [(hp, .inr (2, [.ref hn]))]) hx hb hml hown hts hK hP hD hS hA hG hl.1 (c_endsWith l g hn qn 4106 nn sn fn 17 (by omega) (by omega) (by omega) (by first | assumption | decide)) (cwV 1 hts gX3_type_X4_endsWith rfl rfl rfl (by decide +kernel) ⟨Nat.le_of_ble_eq_true rfl, Nat.le_of_ble_eq_true rfl⟩) (va_recv hK hP (ci := 3) (q0 := 1) rfl rfl) rfl rfl (Nat.le_of_ble_eq_true rfl) dX3_type_6 ⟨show 0 + 0 ≤ 0 by omega, show 0 + 0 ≤ 0 by omega⟩ [1, 2] [0] rfl rfl (by decide) (by decide) (by decide) (fun r_ w_ H locs hp_ hP hD hS => ?_)
  rcases hp_ with ⟨rfl, rfl, hT_6⟩ | ⟨rfl, rfl, hF_6⟩
  · skip
    have hP : va_P (gD g) vwCl [(hp, .inr (2, [.ref hn])), (hn, .inr (3, [.int (nI 4106), .ref qn, .int (nI sn)])), (qn, .inl (gB g, nn, .inl fn))] H := hP
    have hD : va_D A [(hp, .inr (2, [.ref hn])), (hn, .inr (3, [.int (nI 4106), .ref qn, .int (nI sn)])), (qn, .inl (gB g, nn, .inl fn))] := hD
    have hT_6 : pEnds fn sn 17 := hT_6
    refine W.eq (g2 := F0 m 9 ls [.int (nI 1)]) rfl ?_
    refine lv_if_eq (tgt := 15) hx hb dX3_type_9 (by decide) (fun c9 => absurd c9 (by decide)) (fun _ => ?_)
    refine va_ldcS hx hb hown ((hG.1 18 (by decide)).2.2.2.2) dX3_type_12 ?_
    refine ct_aret (w := [(hp, .inr (2, [.ref hn])), (hn, .inr (3, [.int (nI 4106), .ref qn, .int (nI sn)])), (qn, .inl (gB g, nn, .inl fn))]) hx hb hr (Or.inl ⟨_, rfl⟩) hlocks hQ hAe hK (hP.sub [0, 1, 2] rfl) (hD.sub [0, 1, 2] (by decide) rfl) hS (by omega) (by omega) dX3_type_14 ?_
    exact ⟨18, rfl, rfl, by first | exact (iteC_p hT_6).symm | exact ((iteC_n hF_6).trans (iteC_p hT_21)).symm | exact ((iteC_n hF_6).trans ((iteC_n hF_21).trans (iteC_p hT_36))).symm | exact ((iteC_n hF_6).trans ((iteC_n hF_21).trans ((iteC_n hF_36).trans (iteC_p hT_51)))).symm | exact ((iteC_n hF_6).trans ((iteC_n hF_21).trans ((iteC_n hF_36).trans ((iteC_n hF_51).trans (iteC_p hT_66))))).symm | exact ((iteC_n hF_6).trans ((iteC_n hF_21).trans ((iteC_n hF_36).trans ((iteC_n hF_51).trans (iteC_n hF_66))))).symm, by omega⟩
  · skip
    have hP : va_P (gD g) vwCl [(hp, .inr (2, [.ref hn])), (hn, .inr (3, [.int (nI 4106), .ref qn, .int (nI sn)])), (qn, .inl (gB g, nn, .inl fn))] H := hP
    have hD : va_D A [(hp, .inr (2, [.ref hn])), (hn, .inr (3, [.int (nI 4106), .ref qn, .int (nI sn)])), (qn, .inl (gB g, nn, .inl fn))] := hD
    have hF_6 : ¬ (pEnds fn sn 17) := hF_6
    refine W.eq (g2 := F0 m 9 ls [.int (nI 0)]) rfl ?_
    refine lv_if_eq (tgt := 15) hx hb dX3_type_9 (by decide) (fun _ => ?_) (fun c9 => absurd (by decide) c9)
    refine lv_aload_n hx hb dX3_type_15 rfl (lv_at hl 0 rfl) ?_
    refine va_get (D := gD g) (ci := 2) (v := .ref hn) (C := RX3) (T := TX3) (N := 1) hx hb hts hinX3 hown hK hP 0 rfl rfl 0 (by decide) hf24 (fun _ h9 => h9) rfl dX3_type_16 ?_
    refine va_ldcS hx hb hown ((hG.1 19 (by decide)).2.2.2.2) dX3_type_19 ?_
    refine ct_callV (wr := [(hp, .inr (2, [.ref hn]))]) hx hb hml hown hts hK hP hD hS hA hG hl.1 (c_endsWith l g hn qn 4106 nn sn fn 19 (by omega) (by omega) (by omega) (by first | assumption | decide)) (cwV 1 hts gX3_type_X4_endsWith rfl rfl rfl (by decide +kernel) ⟨Nat.le_of_ble_eq_true rfl, Nat.le_of_ble_eq_true rfl⟩) (va_recv hK hP (ci := 3) (q0 := 1) rfl rfl) rfl rfl (Nat.le_of_ble_eq_true rfl) dX3_type_21 ⟨show 0 + 0 ≤ 0 by omega, show 0 + 0 ≤ 0 by omega⟩ [1, 2] [0] rfl rfl (by decide) (by decide) (by decide) (fun r_ w_ H locs hp_ hP hD hS => ?_)
    rcases hp_ with ⟨rfl, rfl, hT_21⟩ | ⟨rfl, rfl, hF_21⟩
    · skip
      have hP : va_P (gD g) vwCl [(hp, .inr (2, [.ref hn])), (hn, .inr (3, [.int (nI 4106), .ref qn, .int (nI sn)])), (qn, .inl (gB g, nn, .inl fn))] H := hP
      have hD : va_D A [(hp, .inr (2, [.ref hn])), (hn, .inr (3, [.int (nI 4106), .ref qn, .int (nI sn)])), (qn, .inl (gB g, nn, .inl fn))] := hD
      have hT_21 : pEnds fn sn 19 := hT_21
      refine W.eq (g2 := F0 m 24 ls [.int (nI 1)]) rfl ?_
      refine lv_if_eq (tgt := 30) hx hb dX3_type_24 (by decide) (fun c24 => absurd c24 (by decide)) (fun _ => ?_)
      refine va_ldcS hx hb hown ((hG.1 20 (by decide)).2.2.2.2) dX3_type_27 ?_
      refine ct_aret (w := [(hp, .inr (2, [.ref hn])), (hn, .inr (3, [.int (nI 4106), .ref qn, .int (nI sn)])), (qn, .inl (gB g, nn, .inl fn))]) hx hb hr (Or.inl ⟨_, rfl⟩) hlocks hQ hAe hK (hP.sub [0, 1, 2] rfl) (hD.sub [0, 1, 2] (by decide) rfl) hS (by omega) (by omega) dX3_type_29 ?_
      exact ⟨20, rfl, rfl, by first | exact (iteC_p hT_6).symm | exact ((iteC_n hF_6).trans (iteC_p hT_21)).symm | exact ((iteC_n hF_6).trans ((iteC_n hF_21).trans (iteC_p hT_36))).symm | exact ((iteC_n hF_6).trans ((iteC_n hF_21).trans ((iteC_n hF_36).trans (iteC_p hT_51)))).symm | exact ((iteC_n hF_6).trans ((iteC_n hF_21).trans ((iteC_n hF_36).trans ((iteC_n hF_51).trans (iteC_p hT_66))))).symm | exact ((iteC_n hF_6).trans ((iteC_n hF_21).trans ((iteC_n hF_36).trans ((iteC_n hF_51).trans (iteC_n hF_66))))).symm, by omega⟩
    · skip
      have hP : va_P (gD g) vwCl [(hp, .inr (2, [.ref hn])), (hn, .inr (3, [.int (nI 4106), .ref qn, .int (nI sn)])), (qn, .inl (gB g, nn, .inl fn))] H := hP
      have hD : va_D A [(hp, .inr (2, [.ref hn])), (hn, .inr (3, [.int (nI 4106), .ref qn, .int (nI sn)])), (qn, .inl (gB g, nn, .inl fn))] := hD
      have hF_21 : ¬ (pEnds fn sn 19) := hF_21
      refine W.eq (g2 := F0 m 24 ls [.int (nI 0)]) rfl ?_
      refine lv_if_eq (tgt := 30) hx hb dX3_type_24 (by decide) (fun _ => ?_) (fun c24 => absurd (by decide) c24)
      refine lv_aload_n hx hb dX3_type_30 rfl (lv_at hl 0 rfl) ?_
      refine va_get (D := gD g) (ci := 2) (v := .ref hn) (C := RX3) (T := TX3) (N := 1) hx hb hts hinX3 hown hK hP 0 rfl rfl 0 (by decide) hf24 (fun _ h9 => h9) rfl dX3_type_31 ?_
      refine va_ldcS hx hb hown ((hG.1 21 (by decide)).2.2.2.2) dX3_type_34 ?_
      refine ct_callV (wr := [(hp, .inr (2, [.ref hn]))]) hx hb hml hown hts hK hP hD hS hA hG hl.1 (c_endsWith l g hn qn 4106 nn sn fn 21 (by omega) (by omega) (by omega) (by first | assumption | decide)) (cwV 1 hts gX3_type_X4_endsWith rfl rfl rfl (by decide +kernel) ⟨Nat.le_of_ble_eq_true rfl, Nat.le_of_ble_eq_true rfl⟩) (va_recv hK hP (ci := 3) (q0 := 1) rfl rfl) rfl rfl (Nat.le_of_ble_eq_true rfl) dX3_type_36 ⟨show 0 + 0 ≤ 0 by omega, show 0 + 0 ≤ 0 by omega⟩ [1, 2] [0] rfl rfl (by decide) (by decide) (by decide) (fun r_ w_ H locs hp_ hP hD hS => ?_)
      rcases hp_ with ⟨rfl, rfl, hT_36⟩ | ⟨rfl, rfl, hF_36⟩
      · skip
        have hP : va_P (gD g) vwCl [(hp, .inr (2, [.ref hn])), (hn, .inr (3, [.int (nI 4106), .ref qn, .int (nI sn)])), (qn, .inl (gB g, nn, .inl fn))] H := hP
        have hD : va_D A [(hp, .inr (2, [.ref hn])), (hn, .inr (3, [.int (nI 4106), .ref qn, .int (nI sn)])), (qn, .inl (gB g, nn, .inl fn))] := hD
        have hT_36 : pEnds fn sn 21 := hT_36
        refine W.eq (g2 := F0 m 39 ls [.int (nI 1)]) rfl ?_
        refine lv_if_eq (tgt := 45) hx hb dX3_type_39 (by decide) (fun c39 => absurd c39 (by decide)) (fun _ => ?_)
        refine va_ldcS hx hb hown ((hG.1 22 (by decide)).2.2.2.2) dX3_type_42 ?_
        refine ct_aret (w := [(hp, .inr (2, [.ref hn])), (hn, .inr (3, [.int (nI 4106), .ref qn, .int (nI sn)])), (qn, .inl (gB g, nn, .inl fn))]) hx hb hr (Or.inl ⟨_, rfl⟩) hlocks hQ hAe hK (hP.sub [0, 1, 2] rfl) (hD.sub [0, 1, 2] (by decide) rfl) hS (by omega) (by omega) dX3_type_44 ?_
        exact ⟨22, rfl, rfl, by first | exact (iteC_p hT_6).symm | exact ((iteC_n hF_6).trans (iteC_p hT_21)).symm | exact ((iteC_n hF_6).trans ((iteC_n hF_21).trans (iteC_p hT_36))).symm | exact ((iteC_n hF_6).trans ((iteC_n hF_21).trans ((iteC_n hF_36).trans (iteC_p hT_51)))).symm | exact ((iteC_n hF_6).trans ((iteC_n hF_21).trans ((iteC_n hF_36).trans ((iteC_n hF_51).trans (iteC_p hT_66))))).symm | exact ((iteC_n hF_6).trans ((iteC_n hF_21).trans ((iteC_n hF_36).trans ((iteC_n hF_51).trans (iteC_n hF_66))))).symm, by omega⟩
      · skip
        have hP : va_P (gD g) vwCl [(hp, .inr (2, [.ref hn])), (hn, .inr (3, [.int (nI 4106), .ref qn, .int (nI sn)])), (qn, .inl (gB g, nn, .inl fn))] H := hP
        have hD : va_D A [(hp, .inr (2, [.ref hn])), (hn, .inr (3, [.int (nI 4106), .ref qn, .int (nI sn)])), (qn, .inl (gB g, nn, .inl fn))] := hD
        have hF_36 : ¬ (pEnds fn sn 21) := hF_36
        refine W.eq (g2 := F0 m 39 ls [.int (nI 0)]) rfl ?_
        refine lv_if_eq (tgt := 45) hx hb dX3_type_39 (by decide) (fun _ => ?_) (fun c39 => absurd (by decide) c39)
        refine lv_aload_n hx hb dX3_type_45 rfl (lv_at hl 0 rfl) ?_
        refine va_get (D := gD g) (ci := 2) (v := .ref hn) (C := RX3) (T := TX3) (N := 1) hx hb hts hinX3 hown hK hP 0 rfl rfl 0 (by decide) hf24 (fun _ h9 => h9) rfl dX3_type_46 ?_
        refine va_ldcS hx hb hown ((hG.1 23 (by decide)).2.2.2.2) dX3_type_49 ?_
        refine ct_callV (wr := [(hp, .inr (2, [.ref hn]))]) hx hb hml hown hts hK hP hD hS hA hG hl.1 (c_endsWith l g hn qn 4106 nn sn fn 23 (by omega) (by omega) (by omega) (by first | assumption | decide)) (cwV 1 hts gX3_type_X4_endsWith rfl rfl rfl (by decide +kernel) ⟨Nat.le_of_ble_eq_true rfl, Nat.le_of_ble_eq_true rfl⟩) (va_recv hK hP (ci := 3) (q0 := 1) rfl rfl) rfl rfl (Nat.le_of_ble_eq_true rfl) dX3_type_51 ⟨show 0 + 0 ≤ 0 by omega, show 0 + 0 ≤ 0 by omega⟩ [1, 2] [0] rfl rfl (by decide) (by decide) (by decide) (fun r_ w_ H locs hp_ hP hD hS => ?_)
        rcases hp_ with ⟨rfl, rfl, hT_51⟩ | ⟨rfl, rfl, hF_51⟩
        · skip
          have hP : va_P (gD g) vwCl [(hp, .inr (2, [.ref hn])), (hn, .inr (3, [.int (nI 4106), .ref qn, .int (nI sn)])), (qn, .inl (gB g, nn, .inl fn))] H := hP
          have hD : va_D A [(hp, .inr (2, [.ref hn])), (hn, .inr (3, [.int (nI 4106), .ref qn, .int (nI sn)])), (qn, .inl (gB g, nn, .inl fn))] := hD
          have hT_51 : pEnds fn sn 23 := hT_51
          refine W.eq (g2 := F0 m 54 ls [.int (nI 1)]) rfl ?_
          refine lv_if_eq (tgt := 60) hx hb dX3_type_54 (by decide) (fun c54 => absurd c54 (by decide)) (fun _ => ?_)
          refine va_ldcS hx hb hown ((hG.1 24 (by decide)).2.2.2.2) dX3_type_57 ?_
          refine ct_aret (w := [(hp, .inr (2, [.ref hn])), (hn, .inr (3, [.int (nI 4106), .ref qn, .int (nI sn)])), (qn, .inl (gB g, nn, .inl fn))]) hx hb hr (Or.inl ⟨_, rfl⟩) hlocks hQ hAe hK (hP.sub [0, 1, 2] rfl) (hD.sub [0, 1, 2] (by decide) rfl) hS (by omega) (by omega) dX3_type_59 ?_
          exact ⟨24, rfl, rfl, by first | exact (iteC_p hT_6).symm | exact ((iteC_n hF_6).trans (iteC_p hT_21)).symm | exact ((iteC_n hF_6).trans ((iteC_n hF_21).trans (iteC_p hT_36))).symm | exact ((iteC_n hF_6).trans ((iteC_n hF_21).trans ((iteC_n hF_36).trans (iteC_p hT_51)))).symm | exact ((iteC_n hF_6).trans ((iteC_n hF_21).trans ((iteC_n hF_36).trans ((iteC_n hF_51).trans (iteC_p hT_66))))).symm | exact ((iteC_n hF_6).trans ((iteC_n hF_21).trans ((iteC_n hF_36).trans ((iteC_n hF_51).trans (iteC_n hF_66))))).symm, by omega⟩
        · skip
          have hP : va_P (gD g) vwCl [(hp, .inr (2, [.ref hn])), (hn, .inr (3, [.int (nI 4106), .ref qn, .int (nI sn)])), (qn, .inl (gB g, nn, .inl fn))] H := hP
          have hD : va_D A [(hp, .inr (2, [.ref hn])), (hn, .inr (3, [.int (nI 4106), .ref qn, .int (nI sn)])), (qn, .inl (gB g, nn, .inl fn))] := hD
          have hF_51 : ¬ (pEnds fn sn 23) := hF_51
          refine W.eq (g2 := F0 m 54 ls [.int (nI 0)]) rfl ?_
          refine lv_if_eq (tgt := 60) hx hb dX3_type_54 (by decide) (fun _ => ?_) (fun c54 => absurd (by decide) c54)
          refine lv_aload_n hx hb dX3_type_60 rfl (lv_at hl 0 rfl) ?_
          refine va_get (D := gD g) (ci := 2) (v := .ref hn) (C := RX3) (T := TX3) (N := 1) hx hb hts hinX3 hown hK hP 0 rfl rfl 0 (by decide) hf24 (fun _ h9 => h9) rfl dX3_type_61 ?_
          refine va_ldcS hx hb hown ((hG.1 25 (by decide)).2.2.2.2) dX3_type_64 ?_
          refine ct_callV (wr := [(hp, .inr (2, [.ref hn]))]) hx hb hml hown hts hK hP hD hS hA hG hl.1 (c_endsWith l g hn qn 4106 nn sn fn 25 (by omega) (by omega) (by omega) (by first | assumption | decide)) (cwV 1 hts gX3_type_X4_endsWith rfl rfl rfl (by decide +kernel) ⟨Nat.le_of_ble_eq_true rfl, Nat.le_of_ble_eq_true rfl⟩) (va_recv hK hP (ci := 3) (q0 := 1) rfl rfl) rfl rfl (Nat.le_of_ble_eq_true rfl) dX3_type_66 ⟨show 0 + 0 ≤ 0 by omega, show 0 + 0 ≤ 0 by omega⟩ [1, 2] [0] rfl rfl (by decide) (by decide) (by decide) (fun r_ w_ H locs hp_ hP hD hS => ?_)
          rcases hp_ with ⟨rfl, rfl, hT_66⟩ | ⟨rfl, rfl, hF_66⟩
          · skip
            have hP : va_P (gD g) vwCl [(hp, .inr (2, [.ref hn])), (hn, .inr (3, [.int (nI 4106), .ref qn, .int (nI sn)])), (qn, .inl (gB g, nn, .inl fn))] H := hP
            have hD : va_D A [(hp, .inr (2, [.ref hn])), (hn, .inr (3, [.int (nI 4106), .ref qn, .int (nI sn)])), (qn, .inl (gB g, nn, .inl fn))] := hD
            have hT_66 : pEnds fn sn 25 := hT_66
            refine W.eq (g2 := F0 m 69 ls [.int (nI 1)]) rfl ?_
            refine lv_if_eq (tgt := 77) hx hb dX3_type_69 (by decide) (fun c69 => absurd c69 (by decide)) (fun _ => ?_)
            refine va_ldcS hx hb hown ((hG.1 26 (by decide)).2.2.2.2) dX3_type_72 ?_
            refine lv_goto (tgt := 79) hx hb dX3_type_74 (by decide) ?_
            refine ct_aret (w := [(hp, .inr (2, [.ref hn])), (hn, .inr (3, [.int (nI 4106), .ref qn, .int (nI sn)])), (qn, .inl (gB g, nn, .inl fn))]) hx hb hr (Or.inl ⟨_, rfl⟩) hlocks hQ hAe hK (hP.sub [0, 1, 2] rfl) (hD.sub [0, 1, 2] (by decide) rfl) hS (by omega) (by omega) dX3_type_79 ?_
            exact ⟨26, rfl, rfl, by first | exact (iteC_p hT_6).symm | exact ((iteC_n hF_6).trans (iteC_p hT_21)).symm | exact ((iteC_n hF_6).trans ((iteC_n hF_21).trans (iteC_p hT_36))).symm | exact ((iteC_n hF_6).trans ((iteC_n hF_21).trans ((iteC_n hF_36).trans (iteC_p hT_51)))).symm | exact ((iteC_n hF_6).trans ((iteC_n hF_21).trans ((iteC_n hF_36).trans ((iteC_n hF_51).trans (iteC_p hT_66))))).symm | exact ((iteC_n hF_6).trans ((iteC_n hF_21).trans ((iteC_n hF_36).trans ((iteC_n hF_51).trans (iteC_n hF_66))))).symm, by omega⟩
          · skip
            have hP : va_P (gD g) vwCl [(hp, .inr (2, [.ref hn])), (hn, .inr (3, [.int (nI 4106), .ref qn, .int (nI sn)])), (qn, .inl (gB g, nn, .inl fn))] H := hP
            have hD : va_D A [(hp, .inr (2, [.ref hn])), (hn, .inr (3, [.int (nI 4106), .ref qn, .int (nI sn)])), (qn, .inl (gB g, nn, .inl fn))] := hD
            have hF_66 : ¬ (pEnds fn sn 25) := hF_66
            refine W.eq (g2 := F0 m 69 ls [.int (nI 0)]) rfl ?_
            refine lv_if_eq (tgt := 77) hx hb dX3_type_69 (by decide) (fun _ => ?_) (fun c69 => absurd (by decide) c69)
            refine va_ldcS hx hb hown ((hG.1 27 (by decide)).2.2.2.2) dX3_type_77 ?_
            refine ct_aret (w := [(hp, .inr (2, [.ref hn])), (hn, .inr (3, [.int (nI 4106), .ref qn, .int (nI sn)])), (qn, .inl (gB g, nn, .inl fn))]) hx hb hr (Or.inl ⟨_, rfl⟩) hlocks hQ hAe hK (hP.sub [0, 1, 2] rfl) (hD.sub [0, 1, 2] (by decide) rfl) hS (by omega) (by omega) dX3_type_79 ?_
            exact ⟨27, rfl, rfl, by first | exact (iteC_p hT_6).symm | exact ((iteC_n hF_6).trans (iteC_p hT_21)).symm | exact ((iteC_n hF_6).trans ((iteC_n hF_21).trans (iteC_p hT_36))).symm | exact ((iteC_n hF_6).trans ((iteC_n hF_21).trans ((iteC_n hF_36).trans (iteC_p hT_51)))).symm | exact ((iteC_n hF_6).trans ((iteC_n hF_21).trans ((iteC_n hF_36).trans ((iteC_n hF_51).trans (iteC_p hT_66))))).symm | exact ((iteC_n hF_6).trans ((iteC_n hF_21).trans ((iteC_n hF_36).trans ((iteC_n hF_51).trans (iteC_n hF_66))))).symm, by omega⟩

set_option maxHeartbeats 4000000 in
set_option maxRecDepth 100000 in
theorem c_pathInit (l : Launch) (g : GT) (hp : Nat)  : CT l g yX3_init wsX3_init ({ frames := 2, cells := 2, slots := 259, locals := 51 } : Room) [.ref hp] [(hp, .inr (2, [.null]))] (fun r w => (∃ (hn : Nat) (qn : Nat), r = none ∧ w = [(hp, .inr (2, [.ref hn])), (hn, .inr (3, [.int (nI 4106), .ref qn, .int (nI 0)])), (qn, .inl (gB g, 256, .inl ((fun _ => 0))))])) (2) (259) := by
  refine ct_of (cc := cX3_init) (maxL := 1) (ret := none) (by decide) rfl (Nat.le_of_ble_eq_true rfl) ?_
  intro p e s m args below meth c A Q hx hb hr hml hown hts hlocks hnam hAe hQ hA hG hK hP hD hS ls hl
  have hl : lv_has ls 1 [(0, .ref hp)] := hl
  have hown : s.vm.findClass RX3 = some m.cls := hown
  have hinX3 : ∀ w ∈ u_ws RX3 TX3 1, w ∈ wsX3_init := by decide +kernel
  have hinX4 : ∀ w ∈ u_ws RX4 TX4 3, w ∈ wsX3_init := by decide +kernel
  have hf24 := hts (.fieldLink RX3 24 "RequestReader$Path" "name" "LRequestReader$Row;") (by decide +kernel)
  have hs0 : slen 0 = 10 := by decide
  refine lv_aload_n hx hb dX3_init_0 rfl (lv_at hl 0 rfl) ?_
  refine W.objInit hx hb hown (hts (.methodLink RX3 3 objectInit) (by decide +kernel)) (hts (.instanceMethod objectInit) (by decide +kernel)) (hts (.code objectInit ⟨#[0xb1]⟩ 1 none) (by decide +kernel)) rfl (by rw [hml]; exact hl.1) rfl dX3_init_1 (Nat.le_of_ble_eq_true rfl) (Nat.le_of_ble_eq_true rfl) ?_
  refine W.eq (g2 := F0 m 4 ls []) rfl ?_
  refine lv_aload_n hx hb dX3_init_4 rfl (lv_at hl 0 rfl) ?_
  refine va_new (ci := 3) (fs := [.int (nI 0), .null, .int (nI 0)]) (C := RX4) (T := TX4) (N := 3) hx hb hts hinX4 tyX4 tyX4_ok hown (hts (.classLink RX3 9 RX4) (by decide +kernel)) (hts (.instantiable RX4 3) (by decide +kernel)) (hts (.initialized RX4) (by decide +kernel)) hK hP hD hS hA rfl (fun j hj => by rcases (show j = 0 ∨ j = 1 ∨ j = 2 by omega) with rfl | rfl | rfl <;> rfl) (show 0 + 1 ≤ 2 by omega) (show 0 + 3 ≤ 259 by omega) dX3_init_5 (fun qn_5 H hP hD hS => ?_)
  have hP : va_P (gD g) vwCl [(hp, .inr (2, [.null])), (qn_5, .inr (3, [.int (nI 0), .null, .int (nI 0)]))] H := hP
  have hD : va_D A [(hp, .inr (2, [.null])), (qn_5, .inr (3, [.int (nI 0), .null, .int (nI 0)]))] := hD
  refine lv_dup hx hb dX3_init_8 rfl ?_
  refine lv_sipush (v := nI 4096) hx hb dX3_init_9 (by decide) ?_
  refine va_ldcS hx hb hown ((hG.1 0 (by decide)).2.2.2.2) dX3_init_12 ?_
  refine ct_callV (wr := [(hp, .inr (2, [.null])), (qn_5, .inr (3, [.int (nI 0), .null, .int (nI 0)]))]) hx hb hml hown hts hK hP hD hS hA hG hl.1 (c_slen l g 0 (by first | assumption | decide)) (cwV 0 hts gX3_init_J0_length_8abf5 rfl rfl rfl (by decide +kernel) ⟨Nat.le_of_ble_eq_true rfl, Nat.le_of_ble_eq_true rfl⟩) (st_recv hG (k := 0) (by decide) hS) rfl rfl (Nat.le_of_ble_eq_true rfl) dX3_init_14 ⟨show 1 + 0 ≤ 2 by omega, show 3 + 0 ≤ 259 by omega⟩ [] [0, 1] rfl rfl (by decide) (by decide) (by decide) (fun r_ w_ H locs hp_ hP hD hS => ?_)
  obtain ⟨rfl, rfl⟩ := hp_
  have hP : va_P (gD g) vwCl [(hp, .inr (2, [.null])), (qn_5, .inr (3, [.int (nI 0), .null, .int (nI 0)]))] H := hP
  have hD : va_D A [(hp, .inr (2, [.null])), (qn_5, .inr (3, [.int (nI 0), .null, .int (nI 0)]))] := hD
  refine W.eq (g2 := F0 m 17 ls [.int (nI (slen 0)), .int (nI 4096), .ref qn_5, .ref qn_5, .ref hp]) rfl ?_
  refine q_iadd (v := nI 4106) hx hb dX3_init_17 (by rw [hs0]; rfl) ?_
  refine ct_callI (wr := [(hp, .inr (2, [.null]))]) hx hb hml hown hts hK hP hD hS hA hG hl.1 (c_rowInit l g qn_5 4106 ) (cwI 1 hts gX3_init_X4_init rfl rfl rfl (hts (.initialized RX4) (by decide +kernel)) (hts (.methodLink RX3 21 yX4_init) (by decide +kernel)) (hts (.instanceMethod yX4_init) (by decide +kernel)) rfl (by decide +kernel) ⟨Nat.le_of_ble_eq_true rfl, Nat.le_of_ble_eq_true rfl⟩) rfl rfl (Nat.le_of_ble_eq_true rfl) dX3_init_18 ⟨show 1 + 1 ≤ 2 by omega, show 3 + 256 ≤ 259 by omega⟩ [1] [0] rfl rfl (by decide) (by decide) (by decide) (fun r_ w_ H locs hp_ hP hD hS => ?_)
  obtain ⟨q1_18, rfl, rfl⟩ := hp_
  have hP : va_P (gD g) vwCl [(hp, .inr (2, [.null])), (qn_5, .inr (3, [.int (nI 4106), .ref q1_18, .int (nI 0)])), (q1_18, .inl (gB g, 256, .inl ((fun _ => 0))))] H := hP
  have hD : va_D A [(hp, .inr (2, [.null])), (qn_5, .inr (3, [.int (nI 4106), .ref q1_18, .int (nI 0)])), (q1_18, .inl (gB g, 256, .inl ((fun _ => 0))))] := hD
  refine W.widen (k := 2) (n := 259) (by omega) (by omega) ?_
  refine W.eq (g2 := F0 m 21 ls [.ref qn_5, .ref hp]) rfl ?_
  refine va_putF (D := gD g) (ci := 2) (v := .ref qn_5) (ty := (.object "RequestReader$Row")) (C := RX3) (T := TX3) (N := 1) hx hb hts hinX3 tyX3 tyX3_ok nmX3 hown hK hP hD hS 0 rfl rfl 0 (by decide) hf24 (fun _ h9 => h9) rfl hnam rfl (by decide +kernel) rfl rfl (Nat.le_of_ble_eq_true rfl) dX3_init_21 (fun H locs hP hD hS => ?_)
  have hP : va_P (gD g) vwCl [(hp, .inr (2, [.ref qn_5])), (qn_5, .inr (3, [.int (nI 4106), .ref q1_18, .int (nI 0)])), (q1_18, .inl (gB g, 256, .inl ((fun _ => 0))))] H := hP
  have hD : va_D A [(hp, .inr (2, [.ref qn_5])), (qn_5, .inr (3, [.int (nI 4106), .ref q1_18, .int (nI 0)])), (q1_18, .inl (gB g, 256, .inl ((fun _ => 0))))] := hD
  refine ct_vret (w := [(hp, .inr (2, [.ref qn_5])), (qn_5, .inr (3, [.int (nI 4106), .ref q1_18, .int (nI 0)])), (q1_18, .inl (gB g, 256, .inl ((fun _ => 0))))]) hx hb hr hlocks hQ hAe hK (hP.sub [0, 1, 2] rfl) (hD.sub [0, 1, 2] (by decide) rfl) hS (by omega) (by omega) dX3_init_24 ?_
  exact ⟨qn_5, q1_18, rfl, rfl⟩
