abbrev pSign (x : Int32) : Prop := x = nI 45 ∨ x = nI 95 ∨ x = nI 46 ∨ x = nI 33 ∨ x = nI 35 ∨ x = nI 36 ∨ x = nI 37 ∨ x = nI 38 ∨ x = nI 39 ∨ x = nI 42 ∨ x = nI 43 ∨ x = nI 94 ∨ x = nI 96 ∨ x = nI 124 ∨ x = nI 126
abbrev pNameM (x : Int32) : Prop := (¬ lowI x < nI 97 ∧ lowI x ≤ nI 122) ∨ pDigit x ∨ pSign x
def sgL : List Int32 := [nI 45, nI 95, nI 46, nI 33, nI 35, nI 36, nI 37, nI 38, nI 39, nI 42, nI 43, nI 94, nI 96, nI 124, nI 126]
theorem sgL_iff (x : Int32) : pSign x ↔ x ∈ sgL := by simp only [sgL, pSign, List.mem_cons, List.not_mem_nil, or_false]
theorem exS (x : Int32) : (∃ j, j < slen 6 ∧ sbyt 6 j &&& 255 = x) ↔ x ∈ (List.range (slen 6)).map (fun j => sbyt 6 j &&& 255) := by
  simp only [List.mem_map, List.mem_range]
theorem nameMC : ∀ n, n < 256 → (pNameM (nI n) ↔ pNameC (nI n)) := by
  intro n hn
  have k : ∀ n, n < 256 → (((¬ lowI (nI n) < nI 97 ∧ lowI (nI n) ≤ nI 122) ∨ pDigit (nI n) ∨ nI n ∈ sgL) ↔ (pGreat (nI n) ∨ pDigit (nI n) ∨ (¬ nI n < nI 97 ∧ nI n ≤ nI 122) ∨ (pVis (nI n) ∧ nI n ∈ (List.range (slen 6)).map (fun j => sbyt 6 j &&& 255)))) := by
    unfold lowI
    decide +kernel
  show pNameM (nI n) ↔ (pGreat (nI n) ∨ pDigit (nI n) ∨ (¬ nI n < nI 97 ∧ nI n ≤ nI 122) ∨ (pVis (nI n) ∧ ∃ j, j < slen 6 ∧ sbyt 6 j &&& 255 = nI n))
  rw [exS, pNameM, sgL_iff]
  exact k n hn
theorem lowI_1 {x : Int32} (h : ¬ x < nI 65) (h2 : ¬ nI 90 < x) : x + nI 32 = lowI x := (if_pos ⟨h, h2⟩).symm
theorem lowI_2 {x : Int32} (h : x < nI 65) : x = lowI x := by unfold lowI; rw [if_neg (fun z => z.1 h)]
theorem lowI_3 {x : Int32} (h : nI 90 < x) : x = lowI x := by unfold lowI; rw [if_neg (fun z => z.2 h)]
theorem nameMC' (x : Int32) : pNameM (x &&& 255) ↔ pNameC (x &&& 255) := by rw [u8_eq]; exact nameMC _ (u8_lt x)
def hexM (x : Int32) : Int32 := if pDigit x then x - nI 48 else if ¬ lowI x < nI 97 ∧ ¬ nI 102 < lowI x then lowI x - nI 97 + nI 10 else -1
theorem hexMC : ∀ n, n < 256 → hexM (nI n) = hexV (nI n) := by
  unfold hexM hexV lowI
  decide +kernel
theorem hexMC' (x : Int32) : hexM (x &&& 255) = hexV (x &&& 255) := by rw [u8_eq]; exact hexMC _ (u8_lt x)
theorem hexM_1 {x : Int32} (h : pDigit x) : hexM x = x - nI 48 := if_pos h
theorem hexM_2 {x : Int32} (h : ¬ pDigit x) (h1 : ¬ lowI x < nI 97) (h2 : ¬ nI 102 < lowI x) : hexM x = lowI x - nI 97 + nI 10 := by rw [hexM, if_neg h, if_pos ⟨h1, h2⟩]
theorem hexM_3 {x : Int32} (h : ¬ pDigit x) (h1 : lowI x < nI 97 ∨ nI 102 < lowI x) : hexM x = -1 := by rw [hexM, if_neg h, if_neg (fun z => h1.elim z.1 z.2)]
theorem hexD : ∀ d, d < 16 → (if d < 10 then nI 48 + nI d else nI 97 + nI d - nI 10) = sbyt 15 d &&& 255 := by decide +kernel
theorem mk_hex {v : Int32} {k d : Nat} (hk : k < 8) (hd : d = nibU v (28 - 4 * k)) {r : Int32} (hr : r = if d < 10 then nI 48 + nI d else nI 97 + nI d - nI 10) : r = mkC v (k + 1) := by
  rw [hr, hexD d (by rw [hd]; exact nibU_lt _ _), mkC, if_neg (by omega), hd, show 4 * (8 - (k + 1)) = 28 - 4 * k by omega]
theorem nib_sar {v : Int32} {s : Nat} (hs : s ≤ 28) : (v >>> (nI s &&& 31)) &&& nI 15 = nI (nibU v s) := by rw [sar_15 hs]; exact pk_and _ 4 (by decide)

set_option maxHeartbeats 4000000 in
set_option maxRecDepth 100000 in
theorem c_mSmall (l : Launch) (g : GT) (x : Int32)  : CT l g yX9_small wsX9_small ({ frames := 0, cells := 0, slots := 0, locals := 0 } : Room) [.int x] [] (fun r w => (∃ (v1 : Int32), r = some (.int v1) ∧ w = [] ∧ (v1 = lowI x))) (0) (0) := by
  refine ct_of (cc := cX9_small) (maxL := 1) (ret := (some .int)) (by decide) rfl (Nat.le_of_ble_eq_true rfl) ?_
  intro p e s m args below meth c A Q hx hb hr hml hown hts hlocks hnam hAe hQ hA hG hK hP hD hS ls hl
  have hl : lv_has ls 1 [(0, .int x)] := hl
  have hown : s.vm.findClass RX9 = some m.cls := hown
  refine lv_iload_n hx hb dX9_small_0 rfl (lv_at hl 0 rfl) ?_
  refine lv_bipush (v := nI 65) hx hb dX9_small_1 (by decide) ?_
  refine lv_icmp_lt (tgt := 19) hx hb dX9_small_3 (by decide) (fun c3 => ?_) (fun c3 => ?_)
  · skip
    refine lv_iload_n hx hb dX9_small_19 rfl (lv_at hl 0 rfl) ?_
    refine ct_iret (w := []) hx hb hr rfl hlocks hQ hAe hK (hP.sub [] rfl) (hD.sub [] (by decide) rfl) hS (by omega) (by omega) dX9_small_20 ?_
    exact ⟨x, rfl, rfl, by first | exact lowI_1 c3 c9 | exact lowI_2 c3 | exact lowI_3 c9⟩
  · skip
    refine lv_iload_n hx hb dX9_small_6 rfl (lv_at hl 0 rfl) ?_
    refine lv_bipush (v := nI 90) hx hb dX9_small_7 (by decide) ?_
    refine lv_icmp_gt (tgt := 19) hx hb dX9_small_9 (by decide) (fun c9 => ?_) (fun c9 => ?_)
    · skip
      refine lv_iload_n hx hb dX9_small_19 rfl (lv_at hl 0 rfl) ?_
      refine ct_iret (w := []) hx hb hr rfl hlocks hQ hAe hK (hP.sub [] rfl) (hD.sub [] (by decide) rfl) hS (by omega) (by omega) dX9_small_20 ?_
      exact ⟨x, rfl, rfl, by first | exact lowI_1 c3 c9 | exact lowI_2 c3 | exact lowI_3 c9⟩
    · skip
      refine lv_iload_n hx hb dX9_small_12 rfl (lv_at hl 0 rfl) ?_
      refine lv_bipush (v := nI 32) hx hb dX9_small_13 (by decide) ?_
      refine q_iadd (v := x + (nI 32)) hx hb dX9_small_15 (rfl) ?_
      refine lv_goto (tgt := 20) hx hb dX9_small_16 (by decide) ?_
      refine ct_iret (w := []) hx hb hr rfl hlocks hQ hAe hK (hP.sub [] rfl) (hD.sub [] (by decide) rfl) hS (by omega) (by omega) dX9_small_20 ?_
      exact ⟨x + (nI 32), rfl, rfl, by first | exact lowI_1 c3 c9 | exact lowI_2 c3 | exact lowI_3 c9⟩

set_option maxHeartbeats 4000000 in
set_option maxRecDepth 100000 in
theorem c_mDigit (l : Launch) (g : GT) (x : Int32)  : CT l g yX9_isDigit wsX9_isDigit ({ frames := 0, cells := 0, slots := 0, locals := 0 } : Room) [.int x] [] (fun r w => (r = some (.int (nI 1)) ∧ w = [] ∧ (pDigit x)) ∨ (r = some (.int (nI 0)) ∧ w = [] ∧ (¬ (pDigit x)))) (0) (0) := by
  refine ct_of (cc := cX9_isDigit) (maxL := 1) (ret := (some .boolean)) (by decide) rfl (Nat.le_of_ble_eq_true rfl) ?_
  intro p e s m args below meth c A Q hx hb hr hml hown hts hlocks hnam hAe hQ hA hG hK hP hD hS ls hl
  have hl : lv_has ls 1 [(0, .int x)] := hl
  have hown : s.vm.findClass RX9 = some m.cls := hown
  refine lv_iload_n hx hb dX9_isDigit_0 rfl (lv_at hl 0 rfl) ?_
  refine lv_bipush (v := nI 48) hx hb dX9_isDigit_1 (by decide) ?_
  refine lv_icmp_lt (tgt := 16) hx hb dX9_isDigit_3 (by decide) (fun c3 => ?_) (fun c3 => ?_)
  · skip
    refine lv_iconst (v := nI 0) hx hb dX9_isDigit_16 (by decide) ?_
    refine ct_iret (w := []) hx hb hr rfl hlocks hQ hAe hK (hP.sub [] rfl) (hD.sub [] (by decide) rfl) hS (by omega) (by omega) dX9_isDigit_17 ?_
    refine Or.inr ((?_))
    exact ⟨rfl, rfl, by first | omega | (simp only [pGreat, pDigit, pVis, pSpace]; simp_all; done)⟩
  · skip
    refine lv_iload_n hx hb dX9_isDigit_6 rfl (lv_at hl 0 rfl) ?_
    refine lv_bipush (v := nI 57) hx hb dX9_isDigit_7 (by decide) ?_
    refine lv_icmp_gt (tgt := 16) hx hb dX9_isDigit_9 (by decide) (fun c9 => ?_) (fun c9 => ?_)
    · skip
      refine lv_iconst (v := nI 0) hx hb dX9_isDigit_16 (by decide) ?_
      refine ct_iret (w := []) hx hb hr rfl hlocks hQ hAe hK (hP.sub [] rfl) (hD.sub [] (by decide) rfl) hS (by omega) (by omega) dX9_isDigit_17 ?_
      refine Or.inr ((?_))
      exact ⟨rfl, rfl, by first | omega | (simp only [pGreat, pDigit, pVis, pSpace]; simp_all; done)⟩
    · skip
      refine lv_iconst (v := nI 1) hx hb dX9_isDigit_12 (by decide) ?_
      refine lv_goto (tgt := 17) hx hb dX9_isDigit_13 (by decide) ?_
      refine ct_iret (w := []) hx hb hr rfl hlocks hQ hAe hK (hP.sub [] rfl) (hD.sub [] (by decide) rfl) hS (by omega) (by omega) dX9_isDigit_17 ?_
      refine Or.inl (?_)
      exact ⟨rfl, rfl, by first | omega | (simp only [pGreat, pDigit, pVis, pSpace]; simp_all; done)⟩

set_option maxHeartbeats 4000000 in
set_option maxRecDepth 100000 in
theorem c_mBlank (l : Launch) (g : GT) (x : Int32)  : CT l g yX9_isBlank wsX9_isBlank ({ frames := 0, cells := 0, slots := 0, locals := 0 } : Room) [.int x] [] (fun r w => (r = some (.int (nI 1)) ∧ w = [] ∧ (pSpace x)) ∨ (r = some (.int (nI 0)) ∧ w = [] ∧ (¬ (pSpace x)))) (0) (0) := by
  refine ct_of (cc := cX9_isBlank) (maxL := 1) (ret := (some .boolean)) (by decide) rfl (Nat.le_of_ble_eq_true rfl) ?_
  intro p e s m args below meth c A Q hx hb hr hml hown hts hlocks hnam hAe hQ hA hG hK hP hD hS ls hl
  have hl : lv_has ls 1 [(0, .int x)] := hl
  have hown : s.vm.findClass RX9 = some m.cls := hown
  refine lv_iload_n hx hb dX9_isBlank_0 rfl (lv_at hl 0 rfl) ?_
  refine lv_bipush (v := nI 32) hx hb dX9_isBlank_1 (by decide) ?_
  refine lv_icmp_eq (tgt := 12) hx hb dX9_isBlank_3 (by decide) (fun c3 => ?_) (fun c3 => ?_)
  · skip
    refine lv_iconst (v := nI 1) hx hb dX9_isBlank_12 (by decide) ?_
    refine lv_goto (tgt := 17) hx hb dX9_isBlank_13 (by decide) ?_
    refine ct_iret (w := []) hx hb hr rfl hlocks hQ hAe hK (hP.sub [] rfl) (hD.sub [] (by decide) rfl) hS (by omega) (by omega) dX9_isBlank_17 ?_
    refine Or.inl (?_)
    exact ⟨rfl, rfl, by first | omega | (simp only [pGreat, pDigit, pVis, pSpace]; simp_all; done)⟩
  · skip
    refine lv_iload_n hx hb dX9_isBlank_6 rfl (lv_at hl 0 rfl) ?_
    refine lv_bipush (v := nI 9) hx hb dX9_isBlank_7 (by decide) ?_
    refine lv_icmp_ne (tgt := 16) hx hb dX9_isBlank_9 (by decide) (fun c9 => ?_) (fun c9 => ?_)
    · skip
      refine lv_iconst (v := nI 0) hx hb dX9_isBlank_16 (by decide) ?_
      refine ct_iret (w := []) hx hb hr rfl hlocks hQ hAe hK (hP.sub [] rfl) (hD.sub [] (by decide) rfl) hS (by omega) (by omega) dX9_isBlank_17 ?_
      refine Or.inr ((?_))
      exact ⟨rfl, rfl, by first | omega | (simp only [pGreat, pDigit, pVis, pSpace]; simp_all; done)⟩
    · skip
      refine lv_iconst (v := nI 1) hx hb dX9_isBlank_12 (by decide) ?_
      refine lv_goto (tgt := 17) hx hb dX9_isBlank_13 (by decide) ?_
      refine ct_iret (w := []) hx hb hr rfl hlocks hQ hAe hK (hP.sub [] rfl) (hD.sub [] (by decide) rfl) hS (by omega) (by omega) dX9_isBlank_17 ?_
      refine Or.inl (?_)
      exact ⟨rfl, rfl, by first | omega | (simp only [pGreat, pDigit, pVis, pSpace]; simp_all; done)⟩

set_option maxHeartbeats 4000000 in
set_option maxRecDepth 100000 in
theorem c_mName (l : Launch) (g : GT) (x : Int32)  : CT l g yX9_isNameCode wsX9_isNameCode ({ frames := 1, cells := 0, slots := 0, locals := 20 } : Room) [.int x] [] (fun r w => (r = some (.int (nI 1)) ∧ w = [] ∧ (pNameM x)) ∨ (r = some (.int (nI 0)) ∧ w = [] ∧ (¬ (pNameM x)))) (0) (0) := by
  refine ct_of (cc := cX9_isNameCode) (maxL := 3) (ret := (some .boolean)) (by decide) rfl (Nat.le_of_ble_eq_true rfl) ?_
  intro p e s m args below meth c A Q hx hb hr hml hown hts hlocks hnam hAe hQ hA hG hK hP hD hS ls hl
  have hl : lv_has ls 3 [(0, .int x)] := hl
  have hown : s.vm.findClass RX9 = some m.cls := hown
  refine lv_iload_n hx hb dX9_isNameCode_0 rfl (lv_at hl 0 rfl) ?_
  refine ct_callS (wr := []) hx hb hml hown hts hK hP hD hS hA hG hl.1 (c_mSmall l g x ) (va_cwS 1 hts gX9_isNameCode_X9_small rfl rfl rfl (by decide +kernel) ⟨Nat.le_of_ble_eq_true rfl, Nat.le_of_ble_eq_true rfl⟩) rfl rfl (Nat.le_of_ble_eq_true rfl) dX9_isNameCode_1 ⟨show 0 + 0 ≤ 0 by omega, show 0 + 0 ≤ 0 by omega⟩ [] [] rfl rfl (by decide) (by decide) (by decide) (fun r_ w_ H locs hp_ hP hD hS => ?_)
  obtain ⟨v1_1, rfl, rfl, ev_1⟩ := hp_
  have hP : va_P (gD g) vwCl [] H := hP
  have hD : va_D A [] := hD
  have ev_1 : v1_1 = lowI x := ev_1
  refine W.eq (g2 := F0 m 4 ls [.int v1_1]) rfl ?_
  refine lv_istore_n (lv' := [(1, .int v1_1), (0, .int x)]) hx hb dX9_isNameCode_4 rfl hl (by decide) rfl (fun ls hl => ?_)
  have J101 : ∀ (sg : Nat), ((sg = 1 ∧ pSign x) ∨ (sg = 0 ∧ ¬ pSign x)) → ∀ (H : Heap) (locs : List Loc) (ls : Array Slot), va_P (gD g) vwCl [] H → va_D A [] → va_S A s.heap H locs → lv_has ls 3 [(0, .int x), (1, .int v1_1), (2, .int (nI sg))] → W p l e ({ frames := 1, cells := 0, slots := 0, locals := 20 } : Room) s m args below meth c H locs (0) (0) Q (F0 m 101 ls []) := by
    intro sg hsg H locs ls hP hD hS hl
    refine lv_iload_n hx hb dX9_isNameCode_101 rfl (lv_at hl 1 rfl) ?_
    refine lv_bipush (v := nI 97) hx hb dX9_isNameCode_102 (by decide) ?_
    refine lv_icmp_lt (tgt := 113) hx hb dX9_isNameCode_104 (by decide) (fun c104 => ?_) (fun c104 => ?_)
    · skip
      refine lv_iload_n hx hb dX9_isNameCode_113 rfl (lv_at hl 0 rfl) ?_
      refine ct_callS (wr := []) hx hb hml hown hts hK hP hD hS hA hG hl.1 (c_mDigit l g x ) (va_cwS 1 hts gX9_isNameCode_X9_isDigit rfl rfl rfl (by decide +kernel) ⟨Nat.le_of_ble_eq_true rfl, Nat.le_of_ble_eq_true rfl⟩) rfl rfl (Nat.le_of_ble_eq_true rfl) dX9_isNameCode_114 ⟨show 0 + 0 ≤ 0 by omega, show 0 + 0 ≤ 0 by omega⟩ [] [] rfl rfl (by decide) (by decide) (by decide) (fun r_ w_ H locs hp_ hP hD hS => ?_)
      rcases hp_ with ⟨rfl, rfl, hT_114⟩ | ⟨rfl, rfl, hF_114⟩
      · skip
        have hP : va_P (gD g) vwCl [] H := hP
        have hD : va_D A [] := hD
        have hT_114 : pDigit x := hT_114
        refine W.eq (g2 := F0 m 117 ls [.int (nI 1)]) rfl ?_
        refine lv_if_ne (tgt := 124) hx hb dX9_isNameCode_117 (by decide) (fun _ => ?_) (fun c117 => absurd c117 (by decide))
        refine lv_iconst (v := nI 1) hx hb dX9_isNameCode_124 (by decide) ?_
        refine lv_goto (tgt := 129) hx hb dX9_isNameCode_125 (by decide) ?_
        refine ct_iret (w := []) hx hb hr rfl hlocks hQ hAe hK (hP.sub [] rfl) (hD.sub [] (by decide) rfl) hS (by omega) (by omega) dX9_isNameCode_129 ?_
        refine Or.inl (?_)
        exact ⟨rfl, rfl, by first | exact Or.inl ⟨by rw [← ev_1]; exact c104, by rw [← ev_1]; exact c110⟩ | exact Or.inr (Or.inl hT_114) | exact Or.inr (Or.inr hs0)⟩
      · skip
        have hP : va_P (gD g) vwCl [] H := hP
        have hD : va_D A [] := hD
        have hF_114 : ¬ (pDigit x) := hF_114
        refine W.eq (g2 := F0 m 117 ls [.int (nI 0)]) rfl ?_
        refine lv_if_ne (tgt := 124) hx hb dX9_isNameCode_117 (by decide) (fun c117 => absurd (by decide) c117) (fun _ => ?_)
        refine lv_iload_n hx hb dX9_isNameCode_120 rfl (lv_at hl 2 rfl) ?_
        refine lv_if_eq (tgt := 128) hx hb dX9_isNameCode_121 (by decide) (fun c121 => ?_) (fun c121 => ?_)
        · skip
          have c121 : sg = 0 := (nI_eq (a := sg) (b := 0) (by rcases hsg with z_ | z_ <;> omega) (by rcases hsg with z_ | z_ <;> omega)).mp c121
          have hs0 : ¬ pSign x := hsg.elim (fun z => absurd z.1 (by omega)) (fun z => z.2)
          refine lv_iconst (v := nI 0) hx hb dX9_isNameCode_128 (by decide) ?_
          refine ct_iret (w := []) hx hb hr rfl hlocks hQ hAe hK (hP.sub [] rfl) (hD.sub [] (by decide) rfl) hS (by omega) (by omega) dX9_isNameCode_129 ?_
          refine Or.inr ((?_))
          exact ⟨rfl, rfl, by first | exact fun z => z.elim (fun z => z.1 (by rw [← ev_1]; exact c104)) (fun z => z.elim hF_114 hs0) | exact fun z => z.elim (fun z => c110 (by rw [ev_1]; exact z.2)) (fun z => z.elim hF_114 hs0)⟩
        · skip
          have c121 : ¬ (sg = 0) := fun z => c121 ((nI_eq (a := sg) (b := 0) (by rcases hsg with z_ | z_ <;> omega) (by rcases hsg with z_ | z_ <;> omega)).mpr z)
          have hs0 : pSign x := hsg.elim (fun z => z.2) (fun z => absurd z.1 (by omega))
          refine lv_iconst (v := nI 1) hx hb dX9_isNameCode_124 (by decide) ?_
          refine lv_goto (tgt := 129) hx hb dX9_isNameCode_125 (by decide) ?_
          refine ct_iret (w := []) hx hb hr rfl hlocks hQ hAe hK (hP.sub [] rfl) (hD.sub [] (by decide) rfl) hS (by omega) (by omega) dX9_isNameCode_129 ?_
          refine Or.inl (?_)
          exact ⟨rfl, rfl, by first | exact Or.inl ⟨by rw [← ev_1]; exact c104, by rw [← ev_1]; exact c110⟩ | exact Or.inr (Or.inl hT_114) | exact Or.inr (Or.inr hs0)⟩
    · skip
      refine lv_iload_n hx hb dX9_isNameCode_107 rfl (lv_at hl 1 rfl) ?_
      refine lv_bipush (v := nI 122) hx hb dX9_isNameCode_108 (by decide) ?_
      refine lv_icmp_le (tgt := 124) hx hb dX9_isNameCode_110 (by decide) (fun c110 => ?_) (fun c110 => ?_)
      · skip
        refine lv_iconst (v := nI 1) hx hb dX9_isNameCode_124 (by decide) ?_
        refine lv_goto (tgt := 129) hx hb dX9_isNameCode_125 (by decide) ?_
        refine ct_iret (w := []) hx hb hr rfl hlocks hQ hAe hK (hP.sub [] rfl) (hD.sub [] (by decide) rfl) hS (by omega) (by omega) dX9_isNameCode_129 ?_
        refine Or.inl (?_)
        exact ⟨rfl, rfl, by first | exact Or.inl ⟨by rw [← ev_1]; exact c104, by rw [← ev_1]; exact c110⟩ | exact Or.inr (Or.inl hT_114) | exact Or.inr (Or.inr hs0)⟩
      · skip
        refine lv_iload_n hx hb dX9_isNameCode_113 rfl (lv_at hl 0 rfl) ?_
        refine ct_callS (wr := []) hx hb hml hown hts hK hP hD hS hA hG hl.1 (c_mDigit l g x ) (va_cwS 1 hts gX9_isNameCode_X9_isDigit rfl rfl rfl (by decide +kernel) ⟨Nat.le_of_ble_eq_true rfl, Nat.le_of_ble_eq_true rfl⟩) rfl rfl (Nat.le_of_ble_eq_true rfl) dX9_isNameCode_114 ⟨show 0 + 0 ≤ 0 by omega, show 0 + 0 ≤ 0 by omega⟩ [] [] rfl rfl (by decide) (by decide) (by decide) (fun r_ w_ H locs hp_ hP hD hS => ?_)
        rcases hp_ with ⟨rfl, rfl, hT_114⟩ | ⟨rfl, rfl, hF_114⟩
        · skip
          have hP : va_P (gD g) vwCl [] H := hP
          have hD : va_D A [] := hD
          have hT_114 : pDigit x := hT_114
          refine W.eq (g2 := F0 m 117 ls [.int (nI 1)]) rfl ?_
          refine lv_if_ne (tgt := 124) hx hb dX9_isNameCode_117 (by decide) (fun _ => ?_) (fun c117 => absurd c117 (by decide))
          refine lv_iconst (v := nI 1) hx hb dX9_isNameCode_124 (by decide) ?_
          refine lv_goto (tgt := 129) hx hb dX9_isNameCode_125 (by decide) ?_
          refine ct_iret (w := []) hx hb hr rfl hlocks hQ hAe hK (hP.sub [] rfl) (hD.sub [] (by decide) rfl) hS (by omega) (by omega) dX9_isNameCode_129 ?_
          refine Or.inl (?_)
          exact ⟨rfl, rfl, by first | exact Or.inl ⟨by rw [← ev_1]; exact c104, by rw [← ev_1]; exact c110⟩ | exact Or.inr (Or.inl hT_114) | exact Or.inr (Or.inr hs0)⟩
        · skip
          have hP : va_P (gD g) vwCl [] H := hP
          have hD : va_D A [] := hD
          have hF_114 : ¬ (pDigit x) := hF_114
          refine W.eq (g2 := F0 m 117 ls [.int (nI 0)]) rfl ?_
          refine lv_if_ne (tgt := 124) hx hb dX9_isNameCode_117 (by decide) (fun c117 => absurd (by decide) c117) (fun _ => ?_)
          refine lv_iload_n hx hb dX9_isNameCode_120 rfl (lv_at hl 2 rfl) ?_
          refine lv_if_eq (tgt := 128) hx hb dX9_isNameCode_121 (by decide) (fun c121 => ?_) (fun c121 => ?_)
          · skip
            have c121 : sg = 0 := (nI_eq (a := sg) (b := 0) (by rcases hsg with z_ | z_ <;> omega) (by rcases hsg with z_ | z_ <;> omega)).mp c121
            have hs0 : ¬ pSign x := hsg.elim (fun z => absurd z.1 (by omega)) (fun z => z.2)
            refine lv_iconst (v := nI 0) hx hb dX9_isNameCode_128 (by decide) ?_
            refine ct_iret (w := []) hx hb hr rfl hlocks hQ hAe hK (hP.sub [] rfl) (hD.sub [] (by decide) rfl) hS (by omega) (by omega) dX9_isNameCode_129 ?_
            refine Or.inr ((?_))
            exact ⟨rfl, rfl, by first | exact fun z => z.elim (fun z => z.1 (by rw [← ev_1]; exact c104)) (fun z => z.elim hF_114 hs0) | exact fun z => z.elim (fun z => c110 (by rw [ev_1]; exact z.2)) (fun z => z.elim hF_114 hs0)⟩
          · skip
            have c121 : ¬ (sg = 0) := fun z => c121 ((nI_eq (a := sg) (b := 0) (by rcases hsg with z_ | z_ <;> omega) (by rcases hsg with z_ | z_ <;> omega)).mpr z)
            have hs0 : pSign x := hsg.elim (fun z => z.2) (fun z => absurd z.1 (by omega))
            refine lv_iconst (v := nI 1) hx hb dX9_isNameCode_124 (by decide) ?_
            refine lv_goto (tgt := 129) hx hb dX9_isNameCode_125 (by decide) ?_
            refine ct_iret (w := []) hx hb hr rfl hlocks hQ hAe hK (hP.sub [] rfl) (hD.sub [] (by decide) rfl) hS (by omega) (by omega) dX9_isNameCode_129 ?_
            refine Or.inl (?_)
            exact ⟨rfl, rfl, by first | exact Or.inl ⟨by rw [← ev_1]; exact c104, by rw [← ev_1]; exact c110⟩ | exact Or.inr (Or.inl hT_114) | exact Or.inr (Or.inr hs0)⟩
  refine lv_iload_n hx hb dX9_isNameCode_5 rfl (lv_at hl 1 rfl) ?_
  refine lv_bipush (v := nI 45) hx hb dX9_isNameCode_6 (by decide) ?_
  refine lv_icmp_eq (tgt := 95) hx hb dX9_isNameCode_8 (by decide) (fun c8 => ?_) (fun c8 => ?_)
  · skip
    refine lv_iconst (v := nI 1) hx hb dX9_isNameCode_95 (by decide) ?_
    refine lv_goto (tgt := 100) hx hb dX9_isNameCode_96 (by decide) ?_
    refine lv_istore_n (lv' := [(2, .int (nI 1)), (1, .int v1_1), (0, .int x)]) hx hb dX9_isNameCode_100 rfl hl (by decide) rfl (fun ls hl => ?_)
    exact J101 1 (by first | exact Or.inl ⟨rfl, by rw [c8]; decide⟩ | exact Or.inl ⟨rfl, by rw [c14]; decide⟩ | exact Or.inl ⟨rfl, by rw [c20]; decide⟩ | exact Or.inl ⟨rfl, by rw [c26]; decide⟩ | exact Or.inl ⟨rfl, by rw [c32]; decide⟩ | exact Or.inl ⟨rfl, by rw [c38]; decide⟩ | exact Or.inl ⟨rfl, by rw [c44]; decide⟩ | exact Or.inl ⟨rfl, by rw [c50]; decide⟩ | exact Or.inl ⟨rfl, by rw [c56]; decide⟩ | exact Or.inl ⟨rfl, by rw [c62]; decide⟩ | exact Or.inl ⟨rfl, by rw [c68]; decide⟩ | exact Or.inl ⟨rfl, by rw [c74]; decide⟩ | exact Or.inl ⟨rfl, by rw [c80]; decide⟩ | exact Or.inl ⟨rfl, by rw [c86]; decide⟩ | exact Or.inl ⟨rfl, by rw [c92]; decide⟩ | exact Or.inr ⟨rfl, fun z => z.elim c8 (fun z => z.elim c14 (fun z => z.elim c20 (fun z => z.elim c26 (fun z => z.elim c32 (fun z => z.elim c38 (fun z => z.elim c44 (fun z => z.elim c50 (fun z => z.elim c56 (fun z => z.elim c62 (fun z => z.elim c68 (fun z => z.elim c74 (fun z => z.elim c80 (fun z => z.elim c86 (c92))))))))))))))⟩) _ _ _ (hP.sub [] rfl) (hD.sub [] (by decide) rfl) hS (lv_sub hl [2, 1, 0] rfl)
  · skip
    refine lv_iload_n hx hb dX9_isNameCode_11 rfl (lv_at hl 1 rfl) ?_
    refine lv_bipush (v := nI 95) hx hb dX9_isNameCode_12 (by decide) ?_
    refine lv_icmp_eq (tgt := 95) hx hb dX9_isNameCode_14 (by decide) (fun c14 => ?_) (fun c14 => ?_)
    · skip
      refine lv_iconst (v := nI 1) hx hb dX9_isNameCode_95 (by decide) ?_
      refine lv_goto (tgt := 100) hx hb dX9_isNameCode_96 (by decide) ?_
      refine lv_istore_n (lv' := [(2, .int (nI 1)), (1, .int v1_1), (0, .int x)]) hx hb dX9_isNameCode_100 rfl hl (by decide) rfl (fun ls hl => ?_)
      exact J101 1 (by first | exact Or.inl ⟨rfl, by rw [c8]; decide⟩ | exact Or.inl ⟨rfl, by rw [c14]; decide⟩ | exact Or.inl ⟨rfl, by rw [c20]; decide⟩ | exact Or.inl ⟨rfl, by rw [c26]; decide⟩ | exact Or.inl ⟨rfl, by rw [c32]; decide⟩ | exact Or.inl ⟨rfl, by rw [c38]; decide⟩ | exact Or.inl ⟨rfl, by rw [c44]; decide⟩ | exact Or.inl ⟨rfl, by rw [c50]; decide⟩ | exact Or.inl ⟨rfl, by rw [c56]; decide⟩ | exact Or.inl ⟨rfl, by rw [c62]; decide⟩ | exact Or.inl ⟨rfl, by rw [c68]; decide⟩ | exact Or.inl ⟨rfl, by rw [c74]; decide⟩ | exact Or.inl ⟨rfl, by rw [c80]; decide⟩ | exact Or.inl ⟨rfl, by rw [c86]; decide⟩ | exact Or.inl ⟨rfl, by rw [c92]; decide⟩ | exact Or.inr ⟨rfl, fun z => z.elim c8 (fun z => z.elim c14 (fun z => z.elim c20 (fun z => z.elim c26 (fun z => z.elim c32 (fun z => z.elim c38 (fun z => z.elim c44 (fun z => z.elim c50 (fun z => z.elim c56 (fun z => z.elim c62 (fun z => z.elim c68 (fun z => z.elim c74 (fun z => z.elim c80 (fun z => z.elim c86 (c92))))))))))))))⟩) _ _ _ (hP.sub [] rfl) (hD.sub [] (by decide) rfl) hS (lv_sub hl [2, 1, 0] rfl)
    · skip
      refine lv_iload_n hx hb dX9_isNameCode_17 rfl (lv_at hl 1 rfl) ?_
      refine lv_bipush (v := nI 46) hx hb dX9_isNameCode_18 (by decide) ?_
      refine lv_icmp_eq (tgt := 95) hx hb dX9_isNameCode_20 (by decide) (fun c20 => ?_) (fun c20 => ?_)
      · skip
        refine lv_iconst (v := nI 1) hx hb dX9_isNameCode_95 (by decide) ?_
        refine lv_goto (tgt := 100) hx hb dX9_isNameCode_96 (by decide) ?_
        refine lv_istore_n (lv' := [(2, .int (nI 1)), (1, .int v1_1), (0, .int x)]) hx hb dX9_isNameCode_100 rfl hl (by decide) rfl (fun ls hl => ?_)
        exact J101 1 (by first | exact Or.inl ⟨rfl, by rw [c8]; decide⟩ | exact Or.inl ⟨rfl, by rw [c14]; decide⟩ | exact Or.inl ⟨rfl, by rw [c20]; decide⟩ | exact Or.inl ⟨rfl, by rw [c26]; decide⟩ | exact Or.inl ⟨rfl, by rw [c32]; decide⟩ | exact Or.inl ⟨rfl, by rw [c38]; decide⟩ | exact Or.inl ⟨rfl, by rw [c44]; decide⟩ | exact Or.inl ⟨rfl, by rw [c50]; decide⟩ | exact Or.inl ⟨rfl, by rw [c56]; decide⟩ | exact Or.inl ⟨rfl, by rw [c62]; decide⟩ | exact Or.inl ⟨rfl, by rw [c68]; decide⟩ | exact Or.inl ⟨rfl, by rw [c74]; decide⟩ | exact Or.inl ⟨rfl, by rw [c80]; decide⟩ | exact Or.inl ⟨rfl, by rw [c86]; decide⟩ | exact Or.inl ⟨rfl, by rw [c92]; decide⟩ | exact Or.inr ⟨rfl, fun z => z.elim c8 (fun z => z.elim c14 (fun z => z.elim c20 (fun z => z.elim c26 (fun z => z.elim c32 (fun z => z.elim c38 (fun z => z.elim c44 (fun z => z.elim c50 (fun z => z.elim c56 (fun z => z.elim c62 (fun z => z.elim c68 (fun z => z.elim c74 (fun z => z.elim c80 (fun z => z.elim c86 (c92))))))))))))))⟩) _ _ _ (hP.sub [] rfl) (hD.sub [] (by decide) rfl) hS (lv_sub hl [2, 1, 0] rfl)
      · skip
        refine lv_iload_n hx hb dX9_isNameCode_23 rfl (lv_at hl 1 rfl) ?_
        refine lv_bipush (v := nI 33) hx hb dX9_isNameCode_24 (by decide) ?_
        refine lv_icmp_eq (tgt := 95) hx hb dX9_isNameCode_26 (by decide) (fun c26 => ?_) (fun c26 => ?_)
        · skip
          refine lv_iconst (v := nI 1) hx hb dX9_isNameCode_95 (by decide) ?_
          refine lv_goto (tgt := 100) hx hb dX9_isNameCode_96 (by decide) ?_
          refine lv_istore_n (lv' := [(2, .int (nI 1)), (1, .int v1_1), (0, .int x)]) hx hb dX9_isNameCode_100 rfl hl (by decide) rfl (fun ls hl => ?_)
          exact J101 1 (by first | exact Or.inl ⟨rfl, by rw [c8]; decide⟩ | exact Or.inl ⟨rfl, by rw [c14]; decide⟩ | exact Or.inl ⟨rfl, by rw [c20]; decide⟩ | exact Or.inl ⟨rfl, by rw [c26]; decide⟩ | exact Or.inl ⟨rfl, by rw [c32]; decide⟩ | exact Or.inl ⟨rfl, by rw [c38]; decide⟩ | exact Or.inl ⟨rfl, by rw [c44]; decide⟩ | exact Or.inl ⟨rfl, by rw [c50]; decide⟩ | exact Or.inl ⟨rfl, by rw [c56]; decide⟩ | exact Or.inl ⟨rfl, by rw [c62]; decide⟩ | exact Or.inl ⟨rfl, by rw [c68]; decide⟩ | exact Or.inl ⟨rfl, by rw [c74]; decide⟩ | exact Or.inl ⟨rfl, by rw [c80]; decide⟩ | exact Or.inl ⟨rfl, by rw [c86]; decide⟩ | exact Or.inl ⟨rfl, by rw [c92]; decide⟩ | exact Or.inr ⟨rfl, fun z => z.elim c8 (fun z => z.elim c14 (fun z => z.elim c20 (fun z => z.elim c26 (fun z => z.elim c32 (fun z => z.elim c38 (fun z => z.elim c44 (fun z => z.elim c50 (fun z => z.elim c56 (fun z => z.elim c62 (fun z => z.elim c68 (fun z => z.elim c74 (fun z => z.elim c80 (fun z => z.elim c86 (c92))))))))))))))⟩) _ _ _ (hP.sub [] rfl) (hD.sub [] (by decide) rfl) hS (lv_sub hl [2, 1, 0] rfl)
        · skip
          refine lv_iload_n hx hb dX9_isNameCode_29 rfl (lv_at hl 1 rfl) ?_
          refine lv_bipush (v := nI 35) hx hb dX9_isNameCode_30 (by decide) ?_
          refine lv_icmp_eq (tgt := 95) hx hb dX9_isNameCode_32 (by decide) (fun c32 => ?_) (fun c32 => ?_)
          · skip
            refine lv_iconst (v := nI 1) hx hb dX9_isNameCode_95 (by decide) ?_
            refine lv_goto (tgt := 100) hx hb dX9_isNameCode_96 (by decide) ?_
            refine lv_istore_n (lv' := [(2, .int (nI 1)), (1, .int v1_1), (0, .int x)]) hx hb dX9_isNameCode_100 rfl hl (by decide) rfl (fun ls hl => ?_)
            exact J101 1 (by first | exact Or.inl ⟨rfl, by rw [c8]; decide⟩ | exact Or.inl ⟨rfl, by rw [c14]; decide⟩ | exact Or.inl ⟨rfl, by rw [c20]; decide⟩ | exact Or.inl ⟨rfl, by rw [c26]; decide⟩ | exact Or.inl ⟨rfl, by rw [c32]; decide⟩ | exact Or.inl ⟨rfl, by rw [c38]; decide⟩ | exact Or.inl ⟨rfl, by rw [c44]; decide⟩ | exact Or.inl ⟨rfl, by rw [c50]; decide⟩ | exact Or.inl ⟨rfl, by rw [c56]; decide⟩ | exact Or.inl ⟨rfl, by rw [c62]; decide⟩ | exact Or.inl ⟨rfl, by rw [c68]; decide⟩ | exact Or.inl ⟨rfl, by rw [c74]; decide⟩ | exact Or.inl ⟨rfl, by rw [c80]; decide⟩ | exact Or.inl ⟨rfl, by rw [c86]; decide⟩ | exact Or.inl ⟨rfl, by rw [c92]; decide⟩ | exact Or.inr ⟨rfl, fun z => z.elim c8 (fun z => z.elim c14 (fun z => z.elim c20 (fun z => z.elim c26 (fun z => z.elim c32 (fun z => z.elim c38 (fun z => z.elim c44 (fun z => z.elim c50 (fun z => z.elim c56 (fun z => z.elim c62 (fun z => z.elim c68 (fun z => z.elim c74 (fun z => z.elim c80 (fun z => z.elim c86 (c92))))))))))))))⟩) _ _ _ (hP.sub [] rfl) (hD.sub [] (by decide) rfl) hS (lv_sub hl [2, 1, 0] rfl)
          · skip
            refine lv_iload_n hx hb dX9_isNameCode_35 rfl (lv_at hl 1 rfl) ?_
            refine lv_bipush (v := nI 36) hx hb dX9_isNameCode_36 (by decide) ?_
            refine lv_icmp_eq (tgt := 95) hx hb dX9_isNameCode_38 (by decide) (fun c38 => ?_) (fun c38 => ?_)
            · skip
              refine lv_iconst (v := nI 1) hx hb dX9_isNameCode_95 (by decide) ?_
              refine lv_goto (tgt := 100) hx hb dX9_isNameCode_96 (by decide) ?_
              refine lv_istore_n (lv' := [(2, .int (nI 1)), (1, .int v1_1), (0, .int x)]) hx hb dX9_isNameCode_100 rfl hl (by decide) rfl (fun ls hl => ?_)
              exact J101 1 (by first | exact Or.inl ⟨rfl, by rw [c8]; decide⟩ | exact Or.inl ⟨rfl, by rw [c14]; decide⟩ | exact Or.inl ⟨rfl, by rw [c20]; decide⟩ | exact Or.inl ⟨rfl, by rw [c26]; decide⟩ | exact Or.inl ⟨rfl, by rw [c32]; decide⟩ | exact Or.inl ⟨rfl, by rw [c38]; decide⟩ | exact Or.inl ⟨rfl, by rw [c44]; decide⟩ | exact Or.inl ⟨rfl, by rw [c50]; decide⟩ | exact Or.inl ⟨rfl, by rw [c56]; decide⟩ | exact Or.inl ⟨rfl, by rw [c62]; decide⟩ | exact Or.inl ⟨rfl, by rw [c68]; decide⟩ | exact Or.inl ⟨rfl, by rw [c74]; decide⟩ | exact Or.inl ⟨rfl, by rw [c80]; decide⟩ | exact Or.inl ⟨rfl, by rw [c86]; decide⟩ | exact Or.inl ⟨rfl, by rw [c92]; decide⟩ | exact Or.inr ⟨rfl, fun z => z.elim c8 (fun z => z.elim c14 (fun z => z.elim c20 (fun z => z.elim c26 (fun z => z.elim c32 (fun z => z.elim c38 (fun z => z.elim c44 (fun z => z.elim c50 (fun z => z.elim c56 (fun z => z.elim c62 (fun z => z.elim c68 (fun z => z.elim c74 (fun z => z.elim c80 (fun z => z.elim c86 (c92))))))))))))))⟩) _ _ _ (hP.sub [] rfl) (hD.sub [] (by decide) rfl) hS (lv_sub hl [2, 1, 0] rfl)
            · skip
              refine lv_iload_n hx hb dX9_isNameCode_41 rfl (lv_at hl 1 rfl) ?_
              refine lv_bipush (v := nI 37) hx hb dX9_isNameCode_42 (by decide) ?_
              refine lv_icmp_eq (tgt := 95) hx hb dX9_isNameCode_44 (by decide) (fun c44 => ?_) (fun c44 => ?_)
              · skip
                refine lv_iconst (v := nI 1) hx hb dX9_isNameCode_95 (by decide) ?_
                refine lv_goto (tgt := 100) hx hb dX9_isNameCode_96 (by decide) ?_
                refine lv_istore_n (lv' := [(2, .int (nI 1)), (1, .int v1_1), (0, .int x)]) hx hb dX9_isNameCode_100 rfl hl (by decide) rfl (fun ls hl => ?_)
                exact J101 1 (by first | exact Or.inl ⟨rfl, by rw [c8]; decide⟩ | exact Or.inl ⟨rfl, by rw [c14]; decide⟩ | exact Or.inl ⟨rfl, by rw [c20]; decide⟩ | exact Or.inl ⟨rfl, by rw [c26]; decide⟩ | exact Or.inl ⟨rfl, by rw [c32]; decide⟩ | exact Or.inl ⟨rfl, by rw [c38]; decide⟩ | exact Or.inl ⟨rfl, by rw [c44]; decide⟩ | exact Or.inl ⟨rfl, by rw [c50]; decide⟩ | exact Or.inl ⟨rfl, by rw [c56]; decide⟩ | exact Or.inl ⟨rfl, by rw [c62]; decide⟩ | exact Or.inl ⟨rfl, by rw [c68]; decide⟩ | exact Or.inl ⟨rfl, by rw [c74]; decide⟩ | exact Or.inl ⟨rfl, by rw [c80]; decide⟩ | exact Or.inl ⟨rfl, by rw [c86]; decide⟩ | exact Or.inl ⟨rfl, by rw [c92]; decide⟩ | exact Or.inr ⟨rfl, fun z => z.elim c8 (fun z => z.elim c14 (fun z => z.elim c20 (fun z => z.elim c26 (fun z => z.elim c32 (fun z => z.elim c38 (fun z => z.elim c44 (fun z => z.elim c50 (fun z => z.elim c56 (fun z => z.elim c62 (fun z => z.elim c68 (fun z => z.elim c74 (fun z => z.elim c80 (fun z => z.elim c86 (c92))))))))))))))⟩) _ _ _ (hP.sub [] rfl) (hD.sub [] (by decide) rfl) hS (lv_sub hl [2, 1, 0] rfl)
              · skip
                refine lv_iload_n hx hb dX9_isNameCode_47 rfl (lv_at hl 1 rfl) ?_
                refine lv_bipush (v := nI 38) hx hb dX9_isNameCode_48 (by decide) ?_
                refine lv_icmp_eq (tgt := 95) hx hb dX9_isNameCode_50 (by decide) (fun c50 => ?_) (fun c50 => ?_)
                · skip
                  refine lv_iconst (v := nI 1) hx hb dX9_isNameCode_95 (by decide) ?_
                  refine lv_goto (tgt := 100) hx hb dX9_isNameCode_96 (by decide) ?_
                  refine lv_istore_n (lv' := [(2, .int (nI 1)), (1, .int v1_1), (0, .int x)]) hx hb dX9_isNameCode_100 rfl hl (by decide) rfl (fun ls hl => ?_)
                  exact J101 1 (by first | exact Or.inl ⟨rfl, by rw [c8]; decide⟩ | exact Or.inl ⟨rfl, by rw [c14]; decide⟩ | exact Or.inl ⟨rfl, by rw [c20]; decide⟩ | exact Or.inl ⟨rfl, by rw [c26]; decide⟩ | exact Or.inl ⟨rfl, by rw [c32]; decide⟩ | exact Or.inl ⟨rfl, by rw [c38]; decide⟩ | exact Or.inl ⟨rfl, by rw [c44]; decide⟩ | exact Or.inl ⟨rfl, by rw [c50]; decide⟩ | exact Or.inl ⟨rfl, by rw [c56]; decide⟩ | exact Or.inl ⟨rfl, by rw [c62]; decide⟩ | exact Or.inl ⟨rfl, by rw [c68]; decide⟩ | exact Or.inl ⟨rfl, by rw [c74]; decide⟩ | exact Or.inl ⟨rfl, by rw [c80]; decide⟩ | exact Or.inl ⟨rfl, by rw [c86]; decide⟩ | exact Or.inl ⟨rfl, by rw [c92]; decide⟩ | exact Or.inr ⟨rfl, fun z => z.elim c8 (fun z => z.elim c14 (fun z => z.elim c20 (fun z => z.elim c26 (fun z => z.elim c32 (fun z => z.elim c38 (fun z => z.elim c44 (fun z => z.elim c50 (fun z => z.elim c56 (fun z => z.elim c62 (fun z => z.elim c68 (fun z => z.elim c74 (fun z => z.elim c80 (fun z => z.elim c86 (c92))))))))))))))⟩) _ _ _ (hP.sub [] rfl) (hD.sub [] (by decide) rfl) hS (lv_sub hl [2, 1, 0] rfl)
                · skip
                  refine lv_iload_n hx hb dX9_isNameCode_53 rfl (lv_at hl 1 rfl) ?_
                  refine lv_bipush (v := nI 39) hx hb dX9_isNameCode_54 (by decide) ?_
                  refine lv_icmp_eq (tgt := 95) hx hb dX9_isNameCode_56 (by decide) (fun c56 => ?_) (fun c56 => ?_)
                  · skip
                    refine lv_iconst (v := nI 1) hx hb dX9_isNameCode_95 (by decide) ?_
                    refine lv_goto (tgt := 100) hx hb dX9_isNameCode_96 (by decide) ?_
                    refine lv_istore_n (lv' := [(2, .int (nI 1)), (1, .int v1_1), (0, .int x)]) hx hb dX9_isNameCode_100 rfl hl (by decide) rfl (fun ls hl => ?_)
                    exact J101 1 (by first | exact Or.inl ⟨rfl, by rw [c8]; decide⟩ | exact Or.inl ⟨rfl, by rw [c14]; decide⟩ | exact Or.inl ⟨rfl, by rw [c20]; decide⟩ | exact Or.inl ⟨rfl, by rw [c26]; decide⟩ | exact Or.inl ⟨rfl, by rw [c32]; decide⟩ | exact Or.inl ⟨rfl, by rw [c38]; decide⟩ | exact Or.inl ⟨rfl, by rw [c44]; decide⟩ | exact Or.inl ⟨rfl, by rw [c50]; decide⟩ | exact Or.inl ⟨rfl, by rw [c56]; decide⟩ | exact Or.inl ⟨rfl, by rw [c62]; decide⟩ | exact Or.inl ⟨rfl, by rw [c68]; decide⟩ | exact Or.inl ⟨rfl, by rw [c74]; decide⟩ | exact Or.inl ⟨rfl, by rw [c80]; decide⟩ | exact Or.inl ⟨rfl, by rw [c86]; decide⟩ | exact Or.inl ⟨rfl, by rw [c92]; decide⟩ | exact Or.inr ⟨rfl, fun z => z.elim c8 (fun z => z.elim c14 (fun z => z.elim c20 (fun z => z.elim c26 (fun z => z.elim c32 (fun z => z.elim c38 (fun z => z.elim c44 (fun z => z.elim c50 (fun z => z.elim c56 (fun z => z.elim c62 (fun z => z.elim c68 (fun z => z.elim c74 (fun z => z.elim c80 (fun z => z.elim c86 (c92))))))))))))))⟩) _ _ _ (hP.sub [] rfl) (hD.sub [] (by decide) rfl) hS (lv_sub hl [2, 1, 0] rfl)
                  · skip
                    refine lv_iload_n hx hb dX9_isNameCode_59 rfl (lv_at hl 1 rfl) ?_
                    refine lv_bipush (v := nI 42) hx hb dX9_isNameCode_60 (by decide) ?_
                    refine lv_icmp_eq (tgt := 95) hx hb dX9_isNameCode_62 (by decide) (fun c62 => ?_) (fun c62 => ?_)
                    · skip
                      refine lv_iconst (v := nI 1) hx hb dX9_isNameCode_95 (by decide) ?_
                      refine lv_goto (tgt := 100) hx hb dX9_isNameCode_96 (by decide) ?_
                      refine lv_istore_n (lv' := [(2, .int (nI 1)), (1, .int v1_1), (0, .int x)]) hx hb dX9_isNameCode_100 rfl hl (by decide) rfl (fun ls hl => ?_)
                      exact J101 1 (by first | exact Or.inl ⟨rfl, by rw [c8]; decide⟩ | exact Or.inl ⟨rfl, by rw [c14]; decide⟩ | exact Or.inl ⟨rfl, by rw [c20]; decide⟩ | exact Or.inl ⟨rfl, by rw [c26]; decide⟩ | exact Or.inl ⟨rfl, by rw [c32]; decide⟩ | exact Or.inl ⟨rfl, by rw [c38]; decide⟩ | exact Or.inl ⟨rfl, by rw [c44]; decide⟩ | exact Or.inl ⟨rfl, by rw [c50]; decide⟩ | exact Or.inl ⟨rfl, by rw [c56]; decide⟩ | exact Or.inl ⟨rfl, by rw [c62]; decide⟩ | exact Or.inl ⟨rfl, by rw [c68]; decide⟩ | exact Or.inl ⟨rfl, by rw [c74]; decide⟩ | exact Or.inl ⟨rfl, by rw [c80]; decide⟩ | exact Or.inl ⟨rfl, by rw [c86]; decide⟩ | exact Or.inl ⟨rfl, by rw [c92]; decide⟩ | exact Or.inr ⟨rfl, fun z => z.elim c8 (fun z => z.elim c14 (fun z => z.elim c20 (fun z => z.elim c26 (fun z => z.elim c32 (fun z => z.elim c38 (fun z => z.elim c44 (fun z => z.elim c50 (fun z => z.elim c56 (fun z => z.elim c62 (fun z => z.elim c68 (fun z => z.elim c74 (fun z => z.elim c80 (fun z => z.elim c86 (c92))))))))))))))⟩) _ _ _ (hP.sub [] rfl) (hD.sub [] (by decide) rfl) hS (lv_sub hl [2, 1, 0] rfl)
                    · skip
                      refine lv_iload_n hx hb dX9_isNameCode_65 rfl (lv_at hl 1 rfl) ?_
                      refine lv_bipush (v := nI 43) hx hb dX9_isNameCode_66 (by decide) ?_
                      refine lv_icmp_eq (tgt := 95) hx hb dX9_isNameCode_68 (by decide) (fun c68 => ?_) (fun c68 => ?_)
                      · skip
                        refine lv_iconst (v := nI 1) hx hb dX9_isNameCode_95 (by decide) ?_
                        refine lv_goto (tgt := 100) hx hb dX9_isNameCode_96 (by decide) ?_
                        refine lv_istore_n (lv' := [(2, .int (nI 1)), (1, .int v1_1), (0, .int x)]) hx hb dX9_isNameCode_100 rfl hl (by decide) rfl (fun ls hl => ?_)
                        exact J101 1 (by first | exact Or.inl ⟨rfl, by rw [c8]; decide⟩ | exact Or.inl ⟨rfl, by rw [c14]; decide⟩ | exact Or.inl ⟨rfl, by rw [c20]; decide⟩ | exact Or.inl ⟨rfl, by rw [c26]; decide⟩ | exact Or.inl ⟨rfl, by rw [c32]; decide⟩ | exact Or.inl ⟨rfl, by rw [c38]; decide⟩ | exact Or.inl ⟨rfl, by rw [c44]; decide⟩ | exact Or.inl ⟨rfl, by rw [c50]; decide⟩ | exact Or.inl ⟨rfl, by rw [c56]; decide⟩ | exact Or.inl ⟨rfl, by rw [c62]; decide⟩ | exact Or.inl ⟨rfl, by rw [c68]; decide⟩ | exact Or.inl ⟨rfl, by rw [c74]; decide⟩ | exact Or.inl ⟨rfl, by rw [c80]; decide⟩ | exact Or.inl ⟨rfl, by rw [c86]; decide⟩ | exact Or.inl ⟨rfl, by rw [c92]; decide⟩ | exact Or.inr ⟨rfl, fun z => z.elim c8 (fun z => z.elim c14 (fun z => z.elim c20 (fun z => z.elim c26 (fun z => z.elim c32 (fun z => z.elim c38 (fun z => z.elim c44 (fun z => z.elim c50 (fun z => z.elim c56 (fun z => z.elim c62 (fun z => z.elim c68 (fun z => z.elim c74 (fun z => z.elim c80 (fun z => z.elim c86 (c92))))))))))))))⟩) _ _ _ (hP.sub [] rfl) (hD.sub [] (by decide) rfl) hS (lv_sub hl [2, 1, 0] rfl)
                      · skip
                        refine lv_iload_n hx hb dX9_isNameCode_71 rfl (lv_at hl 1 rfl) ?_
                        refine lv_bipush (v := nI 94) hx hb dX9_isNameCode_72 (by decide) ?_
                        refine lv_icmp_eq (tgt := 95) hx hb dX9_isNameCode_74 (by decide) (fun c74 => ?_) (fun c74 => ?_)
                        · skip
                          refine lv_iconst (v := nI 1) hx hb dX9_isNameCode_95 (by decide) ?_
                          refine lv_goto (tgt := 100) hx hb dX9_isNameCode_96 (by decide) ?_
                          refine lv_istore_n (lv' := [(2, .int (nI 1)), (1, .int v1_1), (0, .int x)]) hx hb dX9_isNameCode_100 rfl hl (by decide) rfl (fun ls hl => ?_)
                          exact J101 1 (by first | exact Or.inl ⟨rfl, by rw [c8]; decide⟩ | exact Or.inl ⟨rfl, by rw [c14]; decide⟩ | exact Or.inl ⟨rfl, by rw [c20]; decide⟩ | exact Or.inl ⟨rfl, by rw [c26]; decide⟩ | exact Or.inl ⟨rfl, by rw [c32]; decide⟩ | exact Or.inl ⟨rfl, by rw [c38]; decide⟩ | exact Or.inl ⟨rfl, by rw [c44]; decide⟩ | exact Or.inl ⟨rfl, by rw [c50]; decide⟩ | exact Or.inl ⟨rfl, by rw [c56]; decide⟩ | exact Or.inl ⟨rfl, by rw [c62]; decide⟩ | exact Or.inl ⟨rfl, by rw [c68]; decide⟩ | exact Or.inl ⟨rfl, by rw [c74]; decide⟩ | exact Or.inl ⟨rfl, by rw [c80]; decide⟩ | exact Or.inl ⟨rfl, by rw [c86]; decide⟩ | exact Or.inl ⟨rfl, by rw [c92]; decide⟩ | exact Or.inr ⟨rfl, fun z => z.elim c8 (fun z => z.elim c14 (fun z => z.elim c20 (fun z => z.elim c26 (fun z => z.elim c32 (fun z => z.elim c38 (fun z => z.elim c44 (fun z => z.elim c50 (fun z => z.elim c56 (fun z => z.elim c62 (fun z => z.elim c68 (fun z => z.elim c74 (fun z => z.elim c80 (fun z => z.elim c86 (c92))))))))))))))⟩) _ _ _ (hP.sub [] rfl) (hD.sub [] (by decide) rfl) hS (lv_sub hl [2, 1, 0] rfl)
                        · skip
                          refine lv_iload_n hx hb dX9_isNameCode_77 rfl (lv_at hl 1 rfl) ?_
                          refine lv_bipush (v := nI 96) hx hb dX9_isNameCode_78 (by decide) ?_
                          refine lv_icmp_eq (tgt := 95) hx hb dX9_isNameCode_80 (by decide) (fun c80 => ?_) (fun c80 => ?_)
                          · skip
                            refine lv_iconst (v := nI 1) hx hb dX9_isNameCode_95 (by decide) ?_
                            refine lv_goto (tgt := 100) hx hb dX9_isNameCode_96 (by decide) ?_
                            refine lv_istore_n (lv' := [(2, .int (nI 1)), (1, .int v1_1), (0, .int x)]) hx hb dX9_isNameCode_100 rfl hl (by decide) rfl (fun ls hl => ?_)
                            exact J101 1 (by first | exact Or.inl ⟨rfl, by rw [c8]; decide⟩ | exact Or.inl ⟨rfl, by rw [c14]; decide⟩ | exact Or.inl ⟨rfl, by rw [c20]; decide⟩ | exact Or.inl ⟨rfl, by rw [c26]; decide⟩ | exact Or.inl ⟨rfl, by rw [c32]; decide⟩ | exact Or.inl ⟨rfl, by rw [c38]; decide⟩ | exact Or.inl ⟨rfl, by rw [c44]; decide⟩ | exact Or.inl ⟨rfl, by rw [c50]; decide⟩ | exact Or.inl ⟨rfl, by rw [c56]; decide⟩ | exact Or.inl ⟨rfl, by rw [c62]; decide⟩ | exact Or.inl ⟨rfl, by rw [c68]; decide⟩ | exact Or.inl ⟨rfl, by rw [c74]; decide⟩ | exact Or.inl ⟨rfl, by rw [c80]; decide⟩ | exact Or.inl ⟨rfl, by rw [c86]; decide⟩ | exact Or.inl ⟨rfl, by rw [c92]; decide⟩ | exact Or.inr ⟨rfl, fun z => z.elim c8 (fun z => z.elim c14 (fun z => z.elim c20 (fun z => z.elim c26 (fun z => z.elim c32 (fun z => z.elim c38 (fun z => z.elim c44 (fun z => z.elim c50 (fun z => z.elim c56 (fun z => z.elim c62 (fun z => z.elim c68 (fun z => z.elim c74 (fun z => z.elim c80 (fun z => z.elim c86 (c92))))))))))))))⟩) _ _ _ (hP.sub [] rfl) (hD.sub [] (by decide) rfl) hS (lv_sub hl [2, 1, 0] rfl)
                          · skip
                            refine lv_iload_n hx hb dX9_isNameCode_83 rfl (lv_at hl 1 rfl) ?_
                            refine lv_bipush (v := nI 124) hx hb dX9_isNameCode_84 (by decide) ?_
                            refine lv_icmp_eq (tgt := 95) hx hb dX9_isNameCode_86 (by decide) (fun c86 => ?_) (fun c86 => ?_)
                            · skip
                              refine lv_iconst (v := nI 1) hx hb dX9_isNameCode_95 (by decide) ?_
                              refine lv_goto (tgt := 100) hx hb dX9_isNameCode_96 (by decide) ?_
                              refine lv_istore_n (lv' := [(2, .int (nI 1)), (1, .int v1_1), (0, .int x)]) hx hb dX9_isNameCode_100 rfl hl (by decide) rfl (fun ls hl => ?_)
                              exact J101 1 (by first | exact Or.inl ⟨rfl, by rw [c8]; decide⟩ | exact Or.inl ⟨rfl, by rw [c14]; decide⟩ | exact Or.inl ⟨rfl, by rw [c20]; decide⟩ | exact Or.inl ⟨rfl, by rw [c26]; decide⟩ | exact Or.inl ⟨rfl, by rw [c32]; decide⟩ | exact Or.inl ⟨rfl, by rw [c38]; decide⟩ | exact Or.inl ⟨rfl, by rw [c44]; decide⟩ | exact Or.inl ⟨rfl, by rw [c50]; decide⟩ | exact Or.inl ⟨rfl, by rw [c56]; decide⟩ | exact Or.inl ⟨rfl, by rw [c62]; decide⟩ | exact Or.inl ⟨rfl, by rw [c68]; decide⟩ | exact Or.inl ⟨rfl, by rw [c74]; decide⟩ | exact Or.inl ⟨rfl, by rw [c80]; decide⟩ | exact Or.inl ⟨rfl, by rw [c86]; decide⟩ | exact Or.inl ⟨rfl, by rw [c92]; decide⟩ | exact Or.inr ⟨rfl, fun z => z.elim c8 (fun z => z.elim c14 (fun z => z.elim c20 (fun z => z.elim c26 (fun z => z.elim c32 (fun z => z.elim c38 (fun z => z.elim c44 (fun z => z.elim c50 (fun z => z.elim c56 (fun z => z.elim c62 (fun z => z.elim c68 (fun z => z.elim c74 (fun z => z.elim c80 (fun z => z.elim c86 (c92))))))))))))))⟩) _ _ _ (hP.sub [] rfl) (hD.sub [] (by decide) rfl) hS (lv_sub hl [2, 1, 0] rfl)
                            · skip
                              refine lv_iload_n hx hb dX9_isNameCode_89 rfl (lv_at hl 1 rfl) ?_
                              refine lv_bipush (v := nI 126) hx hb dX9_isNameCode_90 (by decide) ?_
                              refine lv_icmp_ne (tgt := 99) hx hb dX9_isNameCode_92 (by decide) (fun c92 => ?_) (fun c92 => ?_)
                              · skip
                                refine lv_iconst (v := nI 0) hx hb dX9_isNameCode_99 (by decide) ?_
                                refine lv_istore_n (lv' := [(2, .int (nI 0)), (1, .int v1_1), (0, .int x)]) hx hb dX9_isNameCode_100 rfl hl (by decide) rfl (fun ls hl => ?_)
                                exact J101 0 (by first | exact Or.inl ⟨rfl, by rw [c8]; decide⟩ | exact Or.inl ⟨rfl, by rw [c14]; decide⟩ | exact Or.inl ⟨rfl, by rw [c20]; decide⟩ | exact Or.inl ⟨rfl, by rw [c26]; decide⟩ | exact Or.inl ⟨rfl, by rw [c32]; decide⟩ | exact Or.inl ⟨rfl, by rw [c38]; decide⟩ | exact Or.inl ⟨rfl, by rw [c44]; decide⟩ | exact Or.inl ⟨rfl, by rw [c50]; decide⟩ | exact Or.inl ⟨rfl, by rw [c56]; decide⟩ | exact Or.inl ⟨rfl, by rw [c62]; decide⟩ | exact Or.inl ⟨rfl, by rw [c68]; decide⟩ | exact Or.inl ⟨rfl, by rw [c74]; decide⟩ | exact Or.inl ⟨rfl, by rw [c80]; decide⟩ | exact Or.inl ⟨rfl, by rw [c86]; decide⟩ | exact Or.inl ⟨rfl, by rw [c92]; decide⟩ | exact Or.inr ⟨rfl, fun z => z.elim c8 (fun z => z.elim c14 (fun z => z.elim c20 (fun z => z.elim c26 (fun z => z.elim c32 (fun z => z.elim c38 (fun z => z.elim c44 (fun z => z.elim c50 (fun z => z.elim c56 (fun z => z.elim c62 (fun z => z.elim c68 (fun z => z.elim c74 (fun z => z.elim c80 (fun z => z.elim c86 (c92))))))))))))))⟩) _ _ _ (hP.sub [] rfl) (hD.sub [] (by decide) rfl) hS (lv_sub hl [2, 1, 0] rfl)
                              · skip
                                refine lv_iconst (v := nI 1) hx hb dX9_isNameCode_95 (by decide) ?_
                                refine lv_goto (tgt := 100) hx hb dX9_isNameCode_96 (by decide) ?_
                                refine lv_istore_n (lv' := [(2, .int (nI 1)), (1, .int v1_1), (0, .int x)]) hx hb dX9_isNameCode_100 rfl hl (by decide) rfl (fun ls hl => ?_)
                                exact J101 1 (by first | exact Or.inl ⟨rfl, by rw [c8]; decide⟩ | exact Or.inl ⟨rfl, by rw [c14]; decide⟩ | exact Or.inl ⟨rfl, by rw [c20]; decide⟩ | exact Or.inl ⟨rfl, by rw [c26]; decide⟩ | exact Or.inl ⟨rfl, by rw [c32]; decide⟩ | exact Or.inl ⟨rfl, by rw [c38]; decide⟩ | exact Or.inl ⟨rfl, by rw [c44]; decide⟩ | exact Or.inl ⟨rfl, by rw [c50]; decide⟩ | exact Or.inl ⟨rfl, by rw [c56]; decide⟩ | exact Or.inl ⟨rfl, by rw [c62]; decide⟩ | exact Or.inl ⟨rfl, by rw [c68]; decide⟩ | exact Or.inl ⟨rfl, by rw [c74]; decide⟩ | exact Or.inl ⟨rfl, by rw [c80]; decide⟩ | exact Or.inl ⟨rfl, by rw [c86]; decide⟩ | exact Or.inl ⟨rfl, by rw [c92]; decide⟩ | exact Or.inr ⟨rfl, fun z => z.elim c8 (fun z => z.elim c14 (fun z => z.elim c20 (fun z => z.elim c26 (fun z => z.elim c32 (fun z => z.elim c38 (fun z => z.elim c44 (fun z => z.elim c50 (fun z => z.elim c56 (fun z => z.elim c62 (fun z => z.elim c68 (fun z => z.elim c74 (fun z => z.elim c80 (fun z => z.elim c86 (c92))))))))))))))⟩) _ _ _ (hP.sub [] rfl) (hD.sub [] (by decide) rfl) hS (lv_sub hl [2, 1, 0] rfl)

set_option maxHeartbeats 4000000 in
set_option maxRecDepth 100000 in
theorem c_mHexa (l : Launch) (g : GT) (x : Int32)  : CT l g yX9_hexadecimal wsX9_hexadecimal ({ frames := 1, cells := 0, slots := 0, locals := 20 } : Room) [.int x] [] (fun r w => (∃ (v1 : Int32), r = some (.int v1) ∧ w = [] ∧ (v1 = hexM x))) (0) (0) := by
  refine ct_of (cc := cX9_hexadecimal) (maxL := 1) (ret := (some .int)) (by decide) rfl (Nat.le_of_ble_eq_true rfl) ?_
  intro p e s m args below meth c A Q hx hb hr hml hown hts hlocks hnam hAe hQ hA hG hK hP hD hS ls hl
  have hl : lv_has ls 1 [(0, .int x)] := hl
  have hown : s.vm.findClass RX9 = some m.cls := hown
  refine lv_iload_n hx hb dX9_hexadecimal_0 rfl (lv_at hl 0 rfl) ?_
  refine ct_callS (wr := []) hx hb hml hown hts hK hP hD hS hA hG hl.1 (c_mDigit l g x ) (va_cwS 1 hts gX9_hexadecimal_X9_isDigit rfl rfl rfl (by decide +kernel) ⟨Nat.le_of_ble_eq_true rfl, Nat.le_of_ble_eq_true rfl⟩) rfl rfl (Nat.le_of_ble_eq_true rfl) dX9_hexadecimal_1 ⟨show 0 + 0 ≤ 0 by omega, show 0 + 0 ≤ 0 by omega⟩ [] [] rfl rfl (by decide) (by decide) (by decide) (fun r_ w_ H locs hp_ hP hD hS => ?_)
  rcases hp_ with ⟨rfl, rfl, hT_1⟩ | ⟨rfl, rfl, hF_1⟩
  · skip
    have hP : va_P (gD g) vwCl [] H := hP
    have hD : va_D A [] := hD
    have hT_1 : pDigit x := hT_1
    refine W.eq (g2 := F0 m 4 ls [.int (nI 1)]) rfl ?_
    refine lv_if_eq (tgt := 14) hx hb dX9_hexadecimal_4 (by decide) (fun c4 => absurd c4 (by decide)) (fun _ => ?_)
    refine lv_iload_n hx hb dX9_hexadecimal_7 rfl (lv_at hl 0 rfl) ?_
    refine lv_bipush (v := nI 48) hx hb dX9_hexadecimal_8 (by decide) ?_
    refine q_isub (v := x - (nI 48)) hx hb dX9_hexadecimal_10 (rfl) ?_
    refine lv_goto (tgt := 46) hx hb dX9_hexadecimal_11 (by decide) ?_
    refine ct_iret (w := []) hx hb hr rfl hlocks hQ hAe hK (hP.sub [] rfl) (hD.sub [] (by decide) rfl) hS (by omega) (by omega) dX9_hexadecimal_46 ?_
    exact ⟨x - (nI 48), rfl, rfl, by first | exact (hexM_1 hT_1).symm | (rw [ev_33]; exact (hexM_2 hF_1 (by rw [← ev_15]; exact c20) (by rw [← ev_24]; exact c29)).symm) | exact (hexM_3 hF_1 (Or.inl (by rw [← ev_15]; exact c20))).symm | exact (hexM_3 hF_1 (Or.inr (by rw [← ev_24]; exact c29))).symm⟩
  · skip
    have hP : va_P (gD g) vwCl [] H := hP
    have hD : va_D A [] := hD
    have hF_1 : ¬ (pDigit x) := hF_1
    refine W.eq (g2 := F0 m 4 ls [.int (nI 0)]) rfl ?_
    refine lv_if_eq (tgt := 14) hx hb dX9_hexadecimal_4 (by decide) (fun _ => ?_) (fun c4 => absurd (by decide) c4)
    refine lv_iload_n hx hb dX9_hexadecimal_14 rfl (lv_at hl 0 rfl) ?_
    refine ct_callS (wr := []) hx hb hml hown hts hK hP hD hS hA hG hl.1 (c_mSmall l g x ) (va_cwS 1 hts gX9_hexadecimal_X9_small rfl rfl rfl (by decide +kernel) ⟨Nat.le_of_ble_eq_true rfl, Nat.le_of_ble_eq_true rfl⟩) rfl rfl (Nat.le_of_ble_eq_true rfl) dX9_hexadecimal_15 ⟨show 0 + 0 ≤ 0 by omega, show 0 + 0 ≤ 0 by omega⟩ [] [] rfl rfl (by decide) (by decide) (by decide) (fun r_ w_ H locs hp_ hP hD hS => ?_)
    obtain ⟨v1_15, rfl, rfl, ev_15⟩ := hp_
    have hP : va_P (gD g) vwCl [] H := hP
    have hD : va_D A [] := hD
    have ev_15 : v1_15 = lowI x := ev_15
    refine W.eq (g2 := F0 m 18 ls [.int v1_15]) rfl ?_
    refine lv_bipush (v := nI 97) hx hb dX9_hexadecimal_18 (by decide) ?_
    refine lv_icmp_lt (tgt := 45) hx hb dX9_hexadecimal_20 (by decide) (fun c20 => ?_) (fun c20 => ?_)
    · skip
      refine lv_iconst (v := (-1)) hx hb dX9_hexadecimal_45 (by decide) ?_
      refine ct_iret (w := []) hx hb hr rfl hlocks hQ hAe hK (hP.sub [] rfl) (hD.sub [] (by decide) rfl) hS (by omega) (by omega) dX9_hexadecimal_46 ?_
      exact ⟨-1, rfl, rfl, by first | exact (hexM_1 hT_1).symm | (rw [ev_33]; exact (hexM_2 hF_1 (by rw [← ev_15]; exact c20) (by rw [← ev_24]; exact c29)).symm) | exact (hexM_3 hF_1 (Or.inl (by rw [← ev_15]; exact c20))).symm | exact (hexM_3 hF_1 (Or.inr (by rw [← ev_24]; exact c29))).symm⟩
    · skip
      refine lv_iload_n hx hb dX9_hexadecimal_23 rfl (lv_at hl 0 rfl) ?_
      refine ct_callS (wr := []) hx hb hml hown hts hK hP hD hS hA hG hl.1 (c_mSmall l g x ) (va_cwS 1 hts gX9_hexadecimal_X9_small rfl rfl rfl (by decide +kernel) ⟨Nat.le_of_ble_eq_true rfl, Nat.le_of_ble_eq_true rfl⟩) rfl rfl (Nat.le_of_ble_eq_true rfl) dX9_hexadecimal_24 ⟨show 0 + 0 ≤ 0 by omega, show 0 + 0 ≤ 0 by omega⟩ [] [] rfl rfl (by decide) (by decide) (by decide) (fun r_ w_ H locs hp_ hP hD hS => ?_)
      obtain ⟨v1_24, rfl, rfl, ev_24⟩ := hp_
      have hP : va_P (gD g) vwCl [] H := hP
      have hD : va_D A [] := hD
      have ev_24 : v1_24 = lowI x := ev_24
      refine W.eq (g2 := F0 m 27 ls [.int v1_24]) rfl ?_
      refine lv_bipush (v := nI 102) hx hb dX9_hexadecimal_27 (by decide) ?_
      refine lv_icmp_gt (tgt := 45) hx hb dX9_hexadecimal_29 (by decide) (fun c29 => ?_) (fun c29 => ?_)
      · skip
        refine lv_iconst (v := (-1)) hx hb dX9_hexadecimal_45 (by decide) ?_
        refine ct_iret (w := []) hx hb hr rfl hlocks hQ hAe hK (hP.sub [] rfl) (hD.sub [] (by decide) rfl) hS (by omega) (by omega) dX9_hexadecimal_46 ?_
        exact ⟨-1, rfl, rfl, by first | exact (hexM_1 hT_1).symm | (rw [ev_33]; exact (hexM_2 hF_1 (by rw [← ev_15]; exact c20) (by rw [← ev_24]; exact c29)).symm) | exact (hexM_3 hF_1 (Or.inl (by rw [← ev_15]; exact c20))).symm | exact (hexM_3 hF_1 (Or.inr (by rw [← ev_24]; exact c29))).symm⟩
      · skip
        refine lv_iload_n hx hb dX9_hexadecimal_32 rfl (lv_at hl 0 rfl) ?_
        refine ct_callS (wr := []) hx hb hml hown hts hK hP hD hS hA hG hl.1 (c_mSmall l g x ) (va_cwS 1 hts gX9_hexadecimal_X9_small rfl rfl rfl (by decide +kernel) ⟨Nat.le_of_ble_eq_true rfl, Nat.le_of_ble_eq_true rfl⟩) rfl rfl (Nat.le_of_ble_eq_true rfl) dX9_hexadecimal_33 ⟨show 0 + 0 ≤ 0 by omega, show 0 + 0 ≤ 0 by omega⟩ [] [] rfl rfl (by decide) (by decide) (by decide) (fun r_ w_ H locs hp_ hP hD hS => ?_)
        obtain ⟨v1_33, rfl, rfl, ev_33⟩ := hp_
        have hP : va_P (gD g) vwCl [] H := hP
        have hD : va_D A [] := hD
        have ev_33 : v1_33 = lowI x := ev_33
        refine W.eq (g2 := F0 m 36 ls [.int v1_33]) rfl ?_
        refine lv_bipush (v := nI 97) hx hb dX9_hexadecimal_36 (by decide) ?_
        refine q_isub (v := v1_33 - (nI 97)) hx hb dX9_hexadecimal_38 (rfl) ?_
        refine lv_bipush (v := nI 10) hx hb dX9_hexadecimal_39 (by decide) ?_
        refine q_iadd (v := (v1_33 - (nI 97)) + (nI 10)) hx hb dX9_hexadecimal_41 (rfl) ?_
        refine lv_goto (tgt := 46) hx hb dX9_hexadecimal_42 (by decide) ?_
        refine ct_iret (w := []) hx hb hr rfl hlocks hQ hAe hK (hP.sub [] rfl) (hD.sub [] (by decide) rfl) hS (by omega) (by omega) dX9_hexadecimal_46 ?_
        exact ⟨(v1_33 - (nI 97)) + (nI 10), rfl, rfl, by first | exact (hexM_1 hT_1).symm | (rw [ev_33]; exact (hexM_2 hF_1 (by rw [← ev_15]; exact c20) (by rw [← ev_24]; exact c29)).symm) | exact (hexM_3 hF_1 (Or.inl (by rw [← ev_15]; exact c20))).symm | exact (hexM_3 hF_1 (Or.inr (by rw [← ev_24]; exact c29))).symm⟩

set_option maxHeartbeats 4000000 in
set_option maxRecDepth 100000 in
theorem c_mHexD (l : Launch) (g : GT) (v : Int32) (k : Nat) (hk : k < 8) : CT l g yX9_hexDigit wsX9_hexDigit ({ frames := 0, cells := 0, slots := 0, locals := 0 } : Room) [.int v, .int (nI k)] [] (fun r w => (∃ (v1 : Int32), r = some (.int v1) ∧ w = [] ∧ (v1 = mkC v (k + 1)))) (0) (0) := by
  refine ct_of (cc := cX9_hexDigit) (maxL := 3) (ret := (some .int)) (by decide) rfl (Nat.le_of_ble_eq_true rfl) ?_
  intro p e s m args below meth c A Q hx hb hr hml hown hts hlocks hnam hAe hQ hA hG hK hP hD hS ls hl
  have hl : lv_has ls 3 [(0, .int v), (1, .int (nI k))] := hl
  have hown : s.vm.findClass RX9 = some m.cls := hown
  have hnl := nibU_lt v (28 - 4 * k)
  refine lv_iload_n hx hb dX9_hexDigit_0 rfl (lv_at hl 0 rfl) ?_
  refine lv_bipush (v := nI 28) hx hb dX9_hexDigit_1 (by decide) ?_
  refine lv_iconst (v := nI 4) hx hb dX9_hexDigit_3 (by decide) ?_
  refine lv_iload_n hx hb dX9_hexDigit_4 rfl (lv_at hl 1 rfl) ?_
  refine q_imul (v := nI (4 * k)) hx hb dX9_hexDigit_5 (pk_mul 4 k) ?_
  refine q_isub (v := nI (28 - (4 * k))) hx hb dX9_hexDigit_6 (pk_sub (a := 28) (b := 4 * k) (by omega)) ?_
  refine q_ishr (v := v >>> (nI (28 - 4 * k) &&& 31)) hx hb dX9_hexDigit_7 (rfl) ?_
  refine lv_bipush (v := nI 15) hx hb dX9_hexDigit_8 (by decide) ?_
  refine q_iand (v := nI (nibU v (28 - 4 * k))) hx hb dX9_hexDigit_10 (nib_sar (by omega)) ?_
  refine lv_istore_n (lv' := [(2, .int (nI (nibU v (28 - 4 * k)))), (0, .int v), (1, .int (nI k))]) hx hb dX9_hexDigit_11 rfl hl (by decide) rfl (fun ls hl => ?_)
  refine lv_iload_n hx hb dX9_hexDigit_12 rfl (lv_at hl 0 rfl) ?_
  refine lv_bipush (v := nI 10) hx hb dX9_hexDigit_13 (by decide) ?_
  refine lv_icmp_ge (tgt := 25) hx hb dX9_hexDigit_15 (by decide) (fun c15 => ?_) (fun c15 => ?_)
  · skip
    have c15 : 10 ≤ nibU v (28 - 4 * k) := (nI_leI (a := 10) (b := nibU v (28 - 4 * k)) (by omega) (by omega)).mp c15
    refine lv_bipush (v := nI 97) hx hb dX9_hexDigit_25 (by decide) ?_
    refine lv_iload_n hx hb dX9_hexDigit_27 rfl (lv_at hl 0 rfl) ?_
    refine q_iadd (v := nI 97 + nI (nibU v (28 - 4 * k))) hx hb dX9_hexDigit_28 (rfl) ?_
    refine lv_bipush (v := nI 10) hx hb dX9_hexDigit_29 (by decide) ?_
    refine q_isub (v := (nI 97 + nI (nibU v (28 - 4 * k))) - (nI 10)) hx hb dX9_hexDigit_31 (rfl) ?_
    refine ct_iret (w := []) hx hb hr rfl hlocks hQ hAe hK (hP.sub [] rfl) (hD.sub [] (by decide) rfl) hS (by omega) (by omega) dX9_hexDigit_32 ?_
    exact ⟨(nI 97 + nI (nibU v (28 - 4 * k))) - (nI 10), rfl, rfl, by first | exact mk_hex hk rfl (if_pos (by omega)).symm | exact mk_hex hk rfl (if_neg (by omega)).symm⟩
  · skip
    have c15 : ¬ (10 ≤ nibU v (28 - 4 * k)) := fun z => c15 ((nI_leI (a := 10) (b := nibU v (28 - 4 * k)) (by omega) (by omega)).mpr z)
    refine lv_bipush (v := nI 48) hx hb dX9_hexDigit_18 (by decide) ?_
    refine lv_iload_n hx hb dX9_hexDigit_20 rfl (lv_at hl 0 rfl) ?_
    refine q_iadd (v := nI 48 + nI (nibU v (28 - 4 * k))) hx hb dX9_hexDigit_21 (rfl) ?_
    refine lv_goto (tgt := 32) hx hb dX9_hexDigit_22 (by decide) ?_
    refine ct_iret (w := []) hx hb hr rfl hlocks hQ hAe hK (hP.sub [] rfl) (hD.sub [] (by decide) rfl) hS (by omega) (by omega) dX9_hexDigit_32 ?_
    exact ⟨nI 48 + nI (nibU v (28 - 4 * k)), rfl, rfl, by first | exact mk_hex hk rfl (if_pos (by omega)).symm | exact mk_hex hk rfl (if_neg (by omega)).symm⟩
