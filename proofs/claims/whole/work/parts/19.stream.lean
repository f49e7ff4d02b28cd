/-- how many bytes from p on are empty lines -/
def eml (f : Nat → Int32) (n : Nat) : Nat → Nat → Nat
  | 0, p => p
  | m + 1, p => if p < n ∧ f p &&& 255 = nI 10 then eml f n m (p + 1) else if p + 1 < n ∧ f p &&& 255 = nI 13 ∧ f (p + 1) &&& 255 = nI 10 then eml f n m (p + 2) else p
theorem eml_1 {f : Nat → Int32} {n m p : Nat} (h : p < n) (h1 : f p &&& 255 = nI 10) : eml f n (m + 1) p = eml f n m (p + 1) := by rw [eml, if_pos ⟨h, h1⟩]
theorem eml_2 {f : Nat → Int32} {n m p : Nat} (h : p + 1 < n) (h1 : f p &&& 255 = nI 13) (h2 : f (p + 1) &&& 255 = nI 10) : eml f n (m + 1) p = eml f n m (p + 2) := by
  rw [eml, if_neg, if_pos ⟨h, h1, h2⟩]
  rintro ⟨-, z⟩
  rw [h1] at z
  exact absurd z (by decide)
theorem eml_3 {f : Nat → Int32} {n m p : Nat} (h1 : ¬ (p < n ∧ f p &&& 255 = nI 10)) (h2 : ¬ (p + 1 < n ∧ f p &&& 255 = nI 13 ∧ f (p + 1) &&& 255 = nI 10)) : eml f n m p = p := by
  cases m with
  | zero => rfl
  | succ m => rw [eml, if_neg h1, if_neg h2]
/-- the size of the head: k is looked at, its line began at b -/
def hsz (f : Nat → Int32) (n : Nat) : Nat → Nat → Nat → Nat
  | 0, _, _ => 0
  | m + 1, b, k => if n ≤ k then 0 else if f k &&& 255 = nI 10 then (if k = b ∨ (k = b + 1 ∧ f b &&& 255 = nI 13) then k + 1 else hsz f n m (k + 1) (k + 1)) else hsz f n m b (k + 1)
theorem hsz_1 {f : Nat → Int32} {n m b k : Nat} (h : k < n) (h1 : f k &&& 255 = nI 10) (h2 : k = b ∨ (k = b + 1 ∧ f b &&& 255 = nI 13)) : hsz f n (m + 1) b k = k + 1 := by rw [hsz, if_neg (by omega), if_pos h1, if_pos h2]
theorem hsz_2 {f : Nat → Int32} {n m b k : Nat} (h : k < n) (h1 : f k &&& 255 = nI 10) (h2 : ¬ (k = b ∨ (k = b + 1 ∧ f b &&& 255 = nI 13))) : hsz f n (m + 1) b k = hsz f n m (k + 1) (k + 1) := by rw [hsz, if_neg (by omega), if_pos h1, if_neg h2]
theorem hsz_3 {f : Nat → Int32} {n m b k : Nat} (h : k < n) (h1 : ¬ f k &&& 255 = nI 10) : hsz f n (m + 1) b k = hsz f n m b (k + 1) := by rw [hsz, if_neg (by omega), if_neg h1]
theorem hsz_4 {f : Nat → Int32} {n m b k : Nat} (h : n ≤ k) : hsz f n m b k = 0 := by
  cases m with
  | zero => rfl
  | succ m => rw [hsz, if_pos h]

set_option maxHeartbeats 4000000 in
set_option maxRecDepth 100000 in
theorem c_sForget (l : Launch) (g : GT) (hs : Nat) (kb : Nat) (lv : Nat) (qb : Nat) (nb : Nat) (sb : Nat) (fb : Nat → Int32) (hs1 : sb ≤ nb) (hs2 : nb ≤ 4096) : CT l g yX7_forget wsX7_forget ({ frames := 1, cells := 0, slots := 0, locals := 21 } : Room) [.ref hs] [(hs, .inr (5, [.ref kb, .int (nI lv)])), (kb, .inr (3, [.int (nI 4096), .ref qb, .int (nI sb)])), (qb, .inl (gB g, nb, .inl fb))] (fun r w => (r = none ∧ w = [(hs, .inr (5, [.ref kb, .int (nI 0)])), (kb, .inr (3, [.int (nI 4096), .ref qb, .int (nI 0)])), (qb, .inl (gB g, nb, .inl fb))])) (0) (0) := by
  refine ct_of (cc := cX7_forget) (maxL := 1) (ret := none) (by decide) rfl (Nat.le_of_ble_eq_true rfl) ?_
  intro p e s m args below meth c A Q hx hb hr hml hown hts hlocks hnam hAe hQ hA hG hK hP hD hS ls hl
  have hl : lv_has ls 1 [(0, .ref hs)] := hl
  have hown : s.vm.findClass RX7 = some m.cls := hown
  have hinX7 : ∀ w ∈ u_ws RX7 TX7 2, w ∈ wsX7_forget := by decide +kernel
  have hf14 := hts (.fieldLink RX7 14 "RequestReader$Stream" "bytes" "LRequestReader$Row;") (by decide +kernel)
  have hf20 := hts (.fieldLink RX7 20 "RequestReader$Stream" "toLeaveOut" "I") (by decide +kernel)
  refine lv_aload_n hx hb dX7_forget_0 rfl (lv_at hl 0 rfl) ?_
  refine va_get (D := gD g) (ci := 5) (v := .ref kb) (C := RX7) (T := TX7) (N := 2) hx hb hts hinX7 hown hK hP 0 rfl rfl 0 (by decide) hf14 (fun _ h9 => h9) rfl dX7_forget_1 ?_
  refine lv_iconst (v := nI 0) hx hb dX7_forget_4 (by decide) ?_
  refine ct_callV (wr := [(hs, .inr (5, [.ref kb, .int (nI lv)]))]) hx hb hml hown hts hK hP hD hS hA hG hl.1 (c_cut0 l g kb qb 4096 nb sb fb (by omega) (by omega)) (cwV 1 hts gX7_forget_X4_cutTo rfl rfl rfl (by decide +kernel) ⟨Nat.le_of_ble_eq_true rfl, Nat.le_of_ble_eq_true rfl⟩) (va_recv hK hP (ci := 3) (q0 := 1) rfl rfl) rfl rfl (Nat.le_of_ble_eq_true rfl) dX7_forget_5 ⟨show 0 + 0 ≤ 0 by omega, show 0 + 0 ≤ 0 by omega⟩ [1, 2] [0] rfl rfl (by decide) (by decide) (by decide) (fun r_ w_ H locs hp_ hP hD hS => ?_)
  obtain ⟨rfl, rfl⟩ := hp_
  have hP : va_P (gD g) vwCl [(hs, .inr (5, [.ref kb, .int (nI lv)])), (kb, .inr (3, [.int (nI 4096), .ref qb, .int (nI 0)])), (qb, .inl (gB g, nb, .inl fb))] H := hP
  have hD : va_D A [(hs, .inr (5, [.ref kb, .int (nI lv)])), (kb, .inr (3, [.int (nI 4096), .ref qb, .int (nI 0)])), (qb, .inl (gB g, nb, .inl fb))] := hD
  refine W.eq (g2 := F0 m 8 ls []) rfl ?_
  refine lv_aload_n hx hb dX7_forget_8 rfl (lv_at hl 0 rfl) ?_
  refine lv_iconst (v := nI 0) hx hb dX7_forget_9 (by decide) ?_
  refine va_put (D := gD g) (ci := 5) (v := .int (nI 0)) (ty := .int) (C := RX7) (T := TX7) (N := 2) hx hb hts hinX7 tyX7 tyX7_ok nmX7 hown hK hP hD hS 0 rfl rfl 1 (by decide) hf20 (fun _ h9 => h9) rfl (by decide +kernel) rfl rfl (Nat.le_of_ble_eq_true rfl) dX7_forget_10 (fun H locs hP hD hS => ?_)
  have hP : va_P (gD g) vwCl [(hs, .inr (5, [.ref kb, .int (nI 0)])), (kb, .inr (3, [.int (nI 4096), .ref qb, .int (nI 0)])), (qb, .inl (gB g, nb, .inl fb))] H := hP
  have hD : va_D A [(hs, .inr (5, [.ref kb, .int (nI 0)])), (kb, .inr (3, [.int (nI 4096), .ref qb, .int (nI 0)])), (qb, .inl (gB g, nb, .inl fb))] := hD
  refine ct_vret (w := [(hs, .inr (5, [.ref kb, .int (nI 0)])), (kb, .inr (3, [.int (nI 4096), .ref qb, .int (nI 0)])), (qb, .inl (gB g, nb, .inl fb))]) hx hb hr hlocks hQ hAe hK (hP.sub [0, 1, 2] rfl) (hD.sub [0, 1, 2] (by decide) rfl) hS (by omega) (by omega) dX7_forget_13 ?_
  exact ⟨rfl, rfl⟩

set_option maxHeartbeats 4000000 in
set_option maxRecDepth 100000 in
theorem c_sInit (l : Launch) (g : GT) (hs : Nat)  : CT l g yX7_init wsX7_init ({ frames := 2, cells := 2, slots := 259, locals := 51 } : Room) [.ref hs] [(hs, .inr (5, [.null, .int (nI 0)]))] (fun r w => (∃ (kb : Nat) (qb : Nat), r = none ∧ w = [(hs, .inr (5, [.ref kb, .int (nI 0)])), (kb, .inr (3, [.int (nI 4096), .ref qb, .int (nI 0)])), (qb, .inl (gB g, 256, .inl ((fun _ => 0))))])) (2) (259) := by
  refine ct_of (cc := cX7_init) (maxL := 1) (ret := none) (by decide) rfl (Nat.le_of_ble_eq_true rfl) ?_
  intro p e s m args below meth c A Q hx hb hr hml hown hts hlocks hnam hAe hQ hA hG hK hP hD hS ls hl
  have hl : lv_has ls 1 [(0, .ref hs)] := hl
  have hown : s.vm.findClass RX7 = some m.cls := hown
  have hinX4 : ∀ w ∈ u_ws RX4 TX4 3, w ∈ wsX7_init := by decide +kernel
  have hinX7 : ∀ w ∈ u_ws RX7 TX7 2, w ∈ wsX7_init := by decide +kernel
  have hf14 := hts (.fieldLink RX7 14 "RequestReader$Stream" "bytes" "LRequestReader$Row;") (by decide +kernel)
  have hf20 := hts (.fieldLink RX7 20 "RequestReader$Stream" "toLeaveOut" "I") (by decide +kernel)
  refine lv_aload_n hx hb dX7_init_0 rfl (lv_at hl 0 rfl) ?_
  refine W.objInit hx hb hown (hts (.methodLink RX7 3 objectInit) (by decide +kernel)) (hts (.instanceMethod objectInit) (by decide +kernel)) (hts (.code objectInit ⟨#[0xb1]⟩ 1 none) (by decide +kernel)) rfl (by rw [hml]; exact hl.1) rfl dX7_init_1 (Nat.le_of_ble_eq_true rfl) (Nat.le_of_ble_eq_true rfl) ?_
  refine W.eq (g2 := F0 m 4 ls []) rfl ?_
  refine lv_aload_n hx hb dX7_init_4 rfl (lv_at hl 0 rfl) ?_
  refine va_new (ci := 3) (fs := [.int (nI 0), .null, .int (nI 0)]) (C := RX4) (T := TX4) (N := 3) hx hb hts hinX4 tyX4 tyX4_ok hown (hts (.classLink RX7 9 RX4) (by decide +kernel)) (hts (.instantiable RX4 3) (by decide +kernel)) (hts (.initialized RX4) (by decide +kernel)) hK hP hD hS hA rfl (fun j hj => by rcases (show j = 0 ∨ j = 1 ∨ j = 2 by omega) with rfl | rfl | rfl <;> rfl) (show 0 + 1 ≤ 2 by omega) (show 0 + 3 ≤ 259 by omega) dX7_init_5 (fun qn_5 H hP hD hS => ?_)
  have hP : va_P (gD g) vwCl [(hs, .inr (5, [.null, .int (nI 0)])), (qn_5, .inr (3, [.int (nI 0), .null, .int (nI 0)]))] H := hP
  have hD : va_D A [(hs, .inr (5, [.null, .int (nI 0)])), (qn_5, .inr (3, [.int (nI 0), .null, .int (nI 0)]))] := hD
  refine lv_dup hx hb dX7_init_8 rfl ?_
  refine lv_sipush (v := nI 4096) hx hb dX7_init_9 (by decide) ?_
  refine ct_callI (wr := [(hs, .inr (5, [.null, .int (nI 0)]))]) hx hb hml hown hts hK hP hD hS hA hG hl.1 (c_rowInit l g qn_5 4096 ) (cwI 1 hts gX7_init_X4_init rfl rfl rfl (hts (.initialized RX4) (by decide +kernel)) (hts (.methodLink RX7 11 yX4_init) (by decide +kernel)) (hts (.instanceMethod yX4_init) (by decide +kernel)) rfl (by decide +kernel) ⟨Nat.le_of_ble_eq_true rfl, Nat.le_of_ble_eq_true rfl⟩) rfl rfl (Nat.le_of_ble_eq_true rfl) dX7_init_12 ⟨show 1 + 1 ≤ 2 by omega, show 3 + 256 ≤ 259 by omega⟩ [1] [0] rfl rfl (by decide) (by decide) (by decide) (fun r_ w_ H locs hp_ hP hD hS => ?_)
  obtain ⟨q1_12, rfl, rfl⟩ := hp_
  have hP : va_P (gD g) vwCl [(hs, .inr (5, [.null, .int (nI 0)])), (qn_5, .inr (3, [.int (nI 4096), .ref q1_12, .int (nI 0)])), (q1_12, .inl (gB g, 256, .inl ((fun _ => 0))))] H := hP
  have hD : va_D A [(hs, .inr (5, [.null, .int (nI 0)])), (qn_5, .inr (3, [.int (nI 4096), .ref q1_12, .int (nI 0)])), (q1_12, .inl (gB g, 256, .inl ((fun _ => 0))))] := hD
  refine W.widen (k := 2) (n := 259) (by omega) (by omega) ?_
  refine W.eq (g2 := F0 m 15 ls [.ref qn_5, .ref hs]) rfl ?_
  refine va_putF (D := gD g) (ci := 5) (v := .ref qn_5) (ty := (.object "RequestReader$Row")) (C := RX7) (T := TX7) (N := 2) hx hb hts hinX7 tyX7 tyX7_ok nmX7 hown hK hP hD hS 0 rfl rfl 0 (by decide) hf14 (fun _ h9 => h9) rfl hnam rfl (by decide +kernel) rfl rfl (Nat.le_of_ble_eq_true rfl) dX7_init_15 (fun H locs hP hD hS => ?_)
  have hP : va_P (gD g) vwCl [(hs, .inr (5, [.ref qn_5, .int (nI 0)])), (qn_5, .inr (3, [.int (nI 4096), .ref q1_12, .int (nI 0)])), (q1_12, .inl (gB g, 256, .inl ((fun _ => 0))))] H := hP
  have hD : va_D A [(hs, .inr (5, [.ref qn_5, .int (nI 0)])), (qn_5, .inr (3, [.int (nI 4096), .ref q1_12, .int (nI 0)])), (q1_12, .inl (gB g, 256, .inl ((fun _ => 0))))] := hD
  refine lv_aload_n hx hb dX7_init_18 rfl (lv_at hl 0 rfl) ?_
  refine lv_iconst (v := nI 0) hx hb dX7_init_19 (by decide) ?_
  refine va_put (D := gD g) (ci := 5) (v := .int (nI 0)) (ty := .int) (C := RX7) (T := TX7) (N := 2) hx hb hts hinX7 tyX7 tyX7_ok nmX7 hown hK hP hD hS 0 rfl rfl 1 (by decide) hf20 (fun _ h9 => h9) rfl (by decide +kernel) rfl rfl (Nat.le_of_ble_eq_true rfl) dX7_init_20 (fun H locs hP hD hS => ?_)
  have hP : va_P (gD g) vwCl [(hs, .inr (5, [.ref qn_5, .int (nI 0)])), (qn_5, .inr (3, [.int (nI 4096), .ref q1_12, .int (nI 0)])), (q1_12, .inl (gB g, 256, .inl ((fun _ => 0))))] H := hP
  have hD : va_D A [(hs, .inr (5, [.ref qn_5, .int (nI 0)])), (qn_5, .inr (3, [.int (nI 4096), .ref q1_12, .int (nI 0)])), (q1_12, .inl (gB g, 256, .inl ((fun _ => 0))))] := hD
  refine ct_vret (w := [(hs, .inr (5, [.ref qn_5, .int (nI 0)])), (qn_5, .inr (3, [.int (nI 4096), .ref q1_12, .int (nI 0)])), (q1_12, .inl (gB g, 256, .inl ((fun _ => 0))))]) hx hb hr hlocks hQ hAe hK (hP.sub [0, 1, 2] rfl) (hD.sub [0, 1, 2] (by decide) rfl) hS (by omega) (by omega) dX7_init_23 ?_
  exact ⟨qn_5, q1_12, rfl, rfl⟩

set_option maxHeartbeats 4000000 in
set_option maxRecDepth 100000 in
theorem c_takeBody (l : Launch) (g : GT) (hs : Nat) (kb : Nat) (lv : Nat) (qb : Nat) (nb : Nat) (sb : Nat) (fb : Nat → Int32) (hs1 : sb ≤ nb) (hs2 : nb ≤ 4096) (hfb : sb_Fit fb) (hlv : lv < 2 ^ 30) : CT l g yX7_takeBody wsX7_takeBody ({ frames := 2, cells := 0, slots := 0, locals := 61 } : Room) [.ref hs] [(hs, .inr (5, [.ref kb, .int (nI lv)])), (kb, .inr (3, [.int (nI 4096), .ref qb, .int (nI sb)])), (qb, .inl (gB g, nb, .inl fb))] (fun r w => (∃ (s1 : Nat) (f1 : Nat → Int32) (l1 : Nat), r = none ∧ w = [(hs, .inr (5, [.ref kb, .int (nI l1)])), (kb, .inr (3, [.int (nI 4096), .ref qb, .int (nI s1)])), (qb, .inl (gB g, nb, .inl f1))] ∧ (s1 = sb - min lv sb) ∧ (l1 = lv - min lv sb) ∧ (∀ j, j < s1 → f1 j = fb (min lv sb + j)) ∧ (sb_Fit f1))) (0) (0) := by
  refine ct_of (cc := cX7_takeBody) (maxL := 2) (ret := none) (by decide) rfl (Nat.le_of_ble_eq_true rfl) ?_
  intro p e s m args below meth c A Q hx hb hr hml hown hts hlocks hnam hAe hQ hA hG hK hP hD hS ls hl
  have hl : lv_has ls 2 [(0, .ref hs)] := hl
  have hown : s.vm.findClass RX7 = some m.cls := hown
  have hinX7 : ∀ w ∈ u_ws RX7 TX7 2, w ∈ wsX7_takeBody := by decide +kernel
  have hf14 := hts (.fieldLink RX7 14 "RequestReader$Stream" "bytes" "LRequestReader$Row;") (by decide +kernel)
  have hf20 := hts (.fieldLink RX7 20 "RequestReader$Stream" "toLeaveOut" "I") (by decide +kernel)
  refine lv_aload_n hx hb dX7_takeBody_0 rfl (lv_at hl 0 rfl) ?_
  refine va_get (D := gD g) (ci := 5) (v := .int (nI lv)) (C := RX7) (T := TX7) (N := 2) hx hb hts hinX7 hown hK hP 0 rfl rfl 1 (by decide) hf20 (fun _ h9 => h9) rfl dX7_takeBody_1 ?_
  refine lv_aload_n hx hb dX7_takeBody_4 rfl (lv_at hl 0 rfl) ?_
  refine va_get (D := gD g) (ci := 5) (v := .ref kb) (C := RX7) (T := TX7) (N := 2) hx hb hts hinX7 hown hK hP 0 rfl rfl 0 (by decide) hf14 (fun _ h9 => h9) rfl dX7_takeBody_5 ?_
  refine ct_callV (wr := [(hs, .inr (5, [.ref kb, .int (nI lv)]))]) hx hb hml hown hts hK hP hD hS hA hG hl.1 (c_count l g kb qb 4096 nb sb fb ) (cwV 0 hts gX7_takeBody_X4_count rfl rfl rfl (by decide +kernel) ⟨Nat.le_of_ble_eq_true rfl, Nat.le_of_ble_eq_true rfl⟩) (va_recv hK hP (ci := 3) (q0 := 1) rfl rfl) rfl rfl (Nat.le_of_ble_eq_true rfl) dX7_takeBody_8 ⟨show 0 + 0 ≤ 0 by omega, show 0 + 0 ≤ 0 by omega⟩ [1, 2] [0] rfl rfl (by decide) (by decide) (by decide) (fun r_ w_ H locs hp_ hP hD hS => ?_)
  obtain ⟨rfl, rfl⟩ := hp_
  have hP : va_P (gD g) vwCl [(hs, .inr (5, [.ref kb, .int (nI lv)])), (kb, .inr (3, [.int (nI 4096), .ref qb, .int (nI sb)])), (qb, .inl (gB g, nb, .inl fb))] H := hP
  have hD : va_D A [(hs, .inr (5, [.ref kb, .int (nI lv)])), (kb, .inr (3, [.int (nI 4096), .ref qb, .int (nI sb)])), (qb, .inl (gB g, nb, .inl fb))] := hD
  refine W.eq (g2 := F0 m 11 ls [.int (nI sb), .int (nI lv)]) rfl ?_
  refine va_mmin hx hb (by rw [hml]; exact hl.1.symm) hown (hts (.methodLink RX7 31 Lib.Math.min.name) (by decide +kernel)) (hts (.static Lib.Math.min.name) (by decide +kernel)) (hts (.initialized "java/lang/Math") (by decide +kernel)) (hts (.code Lib.Math.min.name Lib.Math.min.code 2 (some .int)) (by decide +kernel)) (Nat.le_of_ble_eq_true rfl) (Nat.le_of_ble_eq_true rfl) (show 0 ≤ 0 by omega) (show 0 ≤ 0 by omega) dX7_takeBody_11 ?_
  refine q_top (v := nI (min lv sb)) (nI_min lv sb (by omega) (by omega)) ?_
  refine lv_istore_n (lv' := [(1, .int (nI (min lv sb))), (0, .ref hs)]) hx hb dX7_takeBody_14 rfl hl (by decide) rfl (fun ls hl => ?_)
  refine lv_aload_n hx hb dX7_takeBody_15 rfl (lv_at hl 1 rfl) ?_
  refine va_get (D := gD g) (ci := 5) (v := .ref kb) (C := RX7) (T := TX7) (N := 2) hx hb hts hinX7 hown hK hP 0 rfl rfl 0 (by decide) hf14 (fun _ h9 => h9) rfl dX7_takeBody_16 ?_
  refine lv_iload_n hx hb dX7_takeBody_19 rfl (lv_at hl 0 rfl) ?_
  refine ct_callV (wr := [(hs, .inr (5, [.ref kb, .int (nI lv)]))]) hx hb hml hown hts hK hP hD hS hA hG hl.1 (c_dropFirst l g kb qb 4096 nb sb fb (min lv sb) (by omega) (by omega) (by assumption) (by omega)) (cwV 1 hts gX7_takeBody_X4_dropFirst rfl rfl rfl (by decide +kernel) ⟨Nat.le_of_ble_eq_true rfl, Nat.le_of_ble_eq_true rfl⟩) (va_recv hK hP (ci := 3) (q0 := 1) rfl rfl) rfl rfl (Nat.le_of_ble_eq_true rfl) dX7_takeBody_20 ⟨show 0 + 0 ≤ 0 by omega, show 0 + 0 ≤ 0 by omega⟩ [1, 2] [0] rfl rfl (by decide) (by decide) (by decide) (fun r_ w_ H locs hp_ hP hD hS => ?_)
  obtain ⟨s1_20, f1_20, rfl, rfl, es_20, ef_20, ft_20⟩ := hp_
  have hP : va_P (gD g) vwCl [(hs, .inr (5, [.ref kb, .int (nI lv)])), (kb, .inr (3, [.int (nI 4096), .ref qb, .int (nI s1_20)])), (qb, .inl (gB g, nb, .inl f1_20))] H := hP
  have hD : va_D A [(hs, .inr (5, [.ref kb, .int (nI lv)])), (kb, .inr (3, [.int (nI 4096), .ref qb, .int (nI s1_20)])), (qb, .inl (gB g, nb, .inl f1_20))] := hD
  have es_20 : s1_20 = sb - (min lv sb) := es_20
  have ef_20 : ∀ j, j < s1_20 → f1_20 j = fb ((min lv sb) + j) := ef_20
  have ft_20 : sb_Fit f1_20 := ft_20
  refine W.eq (g2 := F0 m 23 ls []) rfl ?_
  refine lv_aload_n hx hb dX7_takeBody_23 rfl (lv_at hl 1 rfl) ?_
  refine lv_dup hx hb dX7_takeBody_24 rfl ?_
  refine va_get (D := gD g) (ci := 5) (v := .int (nI lv)) (C := RX7) (T := TX7) (N := 2) hx hb hts hinX7 hown hK hP 0 rfl rfl 1 (by decide) hf20 (fun _ h9 => h9) rfl dX7_takeBody_25 ?_
  refine lv_iload_n hx hb dX7_takeBody_28 rfl (lv_at hl 0 rfl) ?_
  refine q_isub (v := nI (lv - (min lv sb))) hx hb dX7_takeBody_29 (pk_sub (a := lv) (b := min lv sb) (by omega)) ?_
  refine va_put (D := gD g) (ci := 5) (v := .int (nI (lv - (min lv sb)))) (ty := .int) (C := RX7) (T := TX7) (N := 2) hx hb hts hinX7 tyX7 tyX7_ok nmX7 hown hK hP hD hS 0 rfl rfl 1 (by decide) hf20 (fun _ h9 => h9) rfl (by decide +kernel) rfl rfl (Nat.le_of_ble_eq_true rfl) dX7_takeBody_30 (fun H locs hP hD hS => ?_)
  have hP : va_P (gD g) vwCl [(hs, .inr (5, [.ref kb, .int (nI (lv - (min lv sb)))])), (kb, .inr (3, [.int (nI 4096), .ref qb, .int (nI s1_20)])), (qb, .inl (gB g, nb, .inl f1_20))] H := hP
  have hD : va_D A [(hs, .inr (5, [.ref kb, .int (nI (lv - (min lv sb)))])), (kb, .inr (3, [.int (nI 4096), .ref qb, .int (nI s1_20)])), (qb, .inl (gB g, nb, .inl f1_20))] := hD
  refine ct_vret (w := [(hs, .inr (5, [.ref kb, .int (nI (lv - (min lv sb)))])), (kb, .inr (3, [.int (nI 4096), .ref qb, .int (nI s1_20)])), (qb, .inl (gB g, nb, .inl f1_20))]) hx hb hr hlocks hQ hAe hK (hP.sub [0, 1, 2] rfl) (hD.sub [0, 1, 2] (by decide) rfl) hS (by omega) (by omega) dX7_takeBody_33 ?_
  exact ⟨s1_20, f1_20, lv - (min lv sb), rfl, rfl, by omega, by omega, by assumption, by assumption⟩

set_option maxHeartbeats 4000000 in
set_option maxRecDepth 100000 in
theorem c_takeEmpty (l : Launch) (g : GT) (hs : Nat) (kb : Nat) (lv : Nat) (qb : Nat) (nb : Nat) (sb : Nat) (fb : Nat → Int32) (hs1 : sb ≤ nb) (hs2 : nb ≤ 4096) (hfb : sb_Fit fb) : CT l g yX7_takeEmptyLines wsX7_takeEmptyLines ({ frames := 2, cells := 0, slots := 0, locals := 61 } : Room) [.ref hs] [(hs, .inr (5, [.ref kb, .int (nI lv)])), (kb, .inr (3, [.int (nI 4096), .ref qb, .int (nI sb)])), (qb, .inl (gB g, nb, .inl fb))] (fun r w => (∃ (s1 : Nat) (f1 : Nat → Int32), r = none ∧ w = [(hs, .inr (5, [.ref kb, .int (nI lv)])), (kb, .inr (3, [.int (nI 4096), .ref qb, .int (nI s1)])), (qb, .inl (gB g, nb, .inl f1))] ∧ (eml fb sb (sb + 1) 0 ≤ sb) ∧ (s1 = sb - eml fb sb (sb + 1) 0) ∧ (∀ j, j < s1 → f1 j = fb (eml fb sb (sb + 1) 0 + j)) ∧ (sb_Fit f1))) (0) (0) := by
  refine ct_of (cc := cX7_takeEmptyLines) (maxL := 4) (ret := none) (by decide) rfl (Nat.le_of_ble_eq_true rfl) ?_
  intro p e s m args below meth c A Q hx hb hr hml hown hts hlocks hnam hAe hQ hA hG hK hP hD hS ls hl
  have hl : lv_has ls 4 [(0, .ref hs)] := hl
  have hown : s.vm.findClass RX7 = some m.cls := hown
  have hinX7 : ∀ w ∈ u_ws RX7 TX7 2, w ∈ wsX7_takeEmptyLines := by decide +kernel
  have hf14 := hts (.fieldLink RX7 14 "RequestReader$Stream" "bytes" "LRequestReader$Row;") (by decide +kernel)
  refine lv_iconst (v := nI 0) hx hb dX7_takeEmptyLines_0 (by decide) ?_
  refine lv_istore_n (lv' := [(1, .int (nI 0)), (0, .ref hs)]) hx hb dX7_takeEmptyLines_1 rfl hl (by decide) rfl (fun ls hl => ?_)
  refine lv_iconst (v := nI 0) hx hb dX7_takeEmptyLines_2 (by decide) ?_
  refine lv_istore_n (lv' := [(2, .int (nI 0)), (1, .int (nI 0)), (0, .ref hs)]) hx hb dX7_takeEmptyLines_3 rfl hl (by decide) rfl (fun ls hl => ?_)
  have K4 : ∀ (N_ : Nat) (s0 : Nat) (i : Nat), (s0 ≤ sb) → (i = s0 ∨ (i = s0 + 1 ∧ i < sb ∧ fb s0 &&& 255 = nI 13 ∧ fb i &&& 255 = nI 10)) → (∃ m, sb < s0 + m ∧ eml fb sb (sb + 1) 0 = eml fb sb m s0) → (sb - i) < N_ → ∀ (H : Heap) (locs : List Loc) (ls : Array Slot), va_P (gD g) vwCl [(hs, .inr (5, [.ref kb, .int (nI lv)])), (kb, .inr (3, [.int (nI 4096), .ref qb, .int (nI sb)])), (qb, .inl (gB g, nb, .inl fb))] H → va_D A [(hs, .inr (5, [.ref kb, .int (nI lv)])), (kb, .inr (3, [.int (nI 4096), .ref qb, .int (nI sb)])), (qb, .inl (gB g, nb, .inl fb))] → va_S A s.heap H locs → lv_has ls 4 [(0, .ref hs), (1, .int (nI s0)), (2, .int (nI i))] → W p l e ({ frames := 2, cells := 0, slots := 0, locals := 61 } : Room) s m args below meth c H locs (0) (0) Q (F0 m 4 ls []) := by
    intro N_
    induction N_ with
    | zero => intro s0 i hsb hi3 hE hm_; exact absurd hm_ (Nat.not_lt_zero _)
    | succ N_ ih_K4 =>
      intro s0 i hsb hi3 hE hm_ H locs ls hP hD hS hl
      have J67 : ∀ (k0 : Nat), (k0 = eml fb sb (sb + 1) 0) → (k0 ≤ sb) → ∀ (H : Heap) (locs : List Loc) (ls : Array Slot), va_P (gD g) vwCl [(hs, .inr (5, [.ref kb, .int (nI lv)])), (kb, .inr (3, [.int (nI 4096), .ref qb, .int (nI sb)])), (qb, .inl (gB g, nb, .inl fb))] H → va_D A [(hs, .inr (5, [.ref kb, .int (nI lv)])), (kb, .inr (3, [.int (nI 4096), .ref qb, .int (nI sb)])), (qb, .inl (gB g, nb, .inl fb))] → va_S A s.heap H locs → lv_has ls 4 [(0, .ref hs), (1, .int (nI k0))] → W p l e ({ frames := 2, cells := 0, slots := 0, locals := 61 } : Room) s m args below meth c H locs (0) (0) Q (F0 m 67 ls []) := by
        intro k0 hk0 hk1 H locs ls hP hD hS hl
        refine lv_aload_n hx hb dX7_takeEmptyLines_67 rfl (lv_at hl 0 rfl) ?_
        refine va_get (D := gD g) (ci := 5) (v := .ref kb) (C := RX7) (T := TX7) (N := 2) hx hb hts hinX7 hown hK hP 0 rfl rfl 0 (by decide) hf14 (fun _ h9 => h9) rfl dX7_takeEmptyLines_68 ?_
        refine lv_iload_n hx hb dX7_takeEmptyLines_71 rfl (lv_at hl 1 rfl) ?_
        refine ct_callV (wr := [(hs, .inr (5, [.ref kb, .int (nI lv)]))]) hx hb hml hown hts hK hP hD hS hA hG hl.1 (c_dropFirst l g kb qb 4096 nb sb fb k0 (by omega) (by omega) (by assumption) (by omega)) (cwV 1 hts gX7_takeEmptyLines_X4_dropFirst rfl rfl rfl (by decide +kernel) ⟨Nat.le_of_ble_eq_true rfl, Nat.le_of_ble_eq_true rfl⟩) (va_recv hK hP (ci := 3) (q0 := 1) rfl rfl) rfl rfl (Nat.le_of_ble_eq_true rfl) dX7_takeEmptyLines_72 ⟨show 0 + 0 ≤ 0 by omega, show 0 + 0 ≤ 0 by omega⟩ [1, 2] [0] rfl rfl (by decide) (by decide) (by decide) (fun r_ w_ H locs hp_ hP hD hS => ?_)
        obtain ⟨s1_72, f1_72, rfl, rfl, es_72, ef_72, ft_72⟩ := hp_
        have hP : va_P (gD g) vwCl [(hs, .inr (5, [.ref kb, .int (nI lv)])), (kb, .inr (3, [.int (nI 4096), .ref qb, .int (nI s1_72)])), (qb, .inl (gB g, nb, .inl f1_72))] H := hP
        have hD : va_D A [(hs, .inr (5, [.ref kb, .int (nI lv)])), (kb, .inr (3, [.int (nI 4096), .ref qb, .int (nI s1_72)])), (qb, .inl (gB g, nb, .inl f1_72))] := hD
        have es_72 : s1_72 = sb - k0 := es_72
        have ef_72 : ∀ j, j < s1_72 → f1_72 j = fb (k0 + j) := ef_72
        have ft_72 : sb_Fit f1_72 := ft_72
        refine W.eq (g2 := F0 m 75 ls []) rfl ?_
        refine ct_vret (w := [(hs, .inr (5, [.ref kb, .int (nI lv)])), (kb, .inr (3, [.int (nI 4096), .ref qb, .int (nI s1_72)])), (qb, .inl (gB g, nb, .inl f1_72))]) hx hb hr hlocks hQ hAe hK (hP.sub [0, 1, 2] rfl) (hD.sub [0, 1, 2] (by decide) rfl) hS (by omega) (by omega) dX7_takeEmptyLines_75 ?_
        exact ⟨s1_72, f1_72, rfl, rfl, by omega, by omega, by rw [← hk0]; assumption, by assumption⟩
      refine lv_iload_n hx hb dX7_takeEmptyLines_4 rfl (lv_at hl 2 rfl) ?_
      refine lv_aload_n hx hb dX7_takeEmptyLines_5 rfl (lv_at hl 0 rfl) ?_
      refine va_get (D := gD g) (ci := 5) (v := .ref kb) (C := RX7) (T := TX7) (N := 2) hx hb hts hinX7 hown hK hP 0 rfl rfl 0 (by decide) hf14 (fun _ h9 => h9) rfl dX7_takeEmptyLines_6 ?_
      refine ct_callV (wr := [(hs, .inr (5, [.ref kb, .int (nI lv)]))]) hx hb hml hown hts hK hP hD hS hA hG hl.1 (c_count l g kb qb 4096 nb sb fb ) (cwV 0 hts gX7_takeEmptyLines_X4_count rfl rfl rfl (by decide +kernel) ⟨Nat.le_of_ble_eq_true rfl, Nat.le_of_ble_eq_true rfl⟩) (va_recv hK hP (ci := 3) (q0 := 1) rfl rfl) rfl rfl (Nat.le_of_ble_eq_true rfl) dX7_takeEmptyLines_9 ⟨show 0 + 0 ≤ 0 by omega, show 0 + 0 ≤ 0 by omega⟩ [1, 2] [0] rfl rfl (by decide) (by decide) (by decide) (fun r_ w_ H locs hp_ hP hD hS => ?_)
      obtain ⟨rfl, rfl⟩ := hp_
      have hP : va_P (gD g) vwCl [(hs, .inr (5, [.ref kb, .int (nI lv)])), (kb, .inr (3, [.int (nI 4096), .ref qb, .int (nI sb)])), (qb, .inl (gB g, nb, .inl fb))] H := hP
      have hD : va_D A [(hs, .inr (5, [.ref kb, .int (nI lv)])), (kb, .inr (3, [.int (nI 4096), .ref qb, .int (nI sb)])), (qb, .inl (gB g, nb, .inl fb))] := hD
      refine W.eq (g2 := F0 m 12 ls [.int (nI sb), .int (nI i)]) rfl ?_
      refine lv_icmp_ge (tgt := 67) hx hb dX7_takeEmptyLines_12 (by decide) (fun c12 => ?_) (fun c12 => ?_)
      · skip
        have c12 : sb ≤ i := (nI_leI (a := sb) (b := i) (by omega) (by omega)).mp c12
        exact J67 s0 (by (obtain ⟨m, h1, h2⟩ := hE; rw [h2]; rcases hi3 with z | z <;> first | exact (eml_3 (fun w => absurd w.1 (by omega)) (fun w => absurd w.1 (by omega))).symm | exact (eml_3 (fun w => c27 (by rw [z]; exact w.2)) (fun w => c40 (by rw [z]; exact w.2.1))).symm | exact (eml_3 (fun w => c27 (by rw [z]; exact w.2)) (fun w => c55 (by rw [z]; exact w.2.2))).symm | exact (eml_3 (fun w => c27 (by rw [z]; exact w.2)) (fun w => absurd w.1 (by omega))).symm | exact absurd z.2.2.2 c27 | (exfalso; omega))) (by omega) _ _ _ (hP.sub [0, 1, 2] rfl) (hD.sub [0, 1, 2] (by decide) rfl) hS (lv_sub hl [0, 1] rfl)
      · skip
        have c12 : ¬ (sb ≤ i) := fun z => c12 ((nI_leI (a := sb) (b := i) (by omega) (by omega)).mpr z)
        refine lv_aload_n hx hb dX7_takeEmptyLines_15 rfl (lv_at hl 0 rfl) ?_
        refine va_get (D := gD g) (ci := 5) (v := .ref kb) (C := RX7) (T := TX7) (N := 2) hx hb hts hinX7 hown hK hP 0 rfl rfl 0 (by decide) hf14 (fun _ h9 => h9) rfl dX7_takeEmptyLines_16 ?_
        refine lv_iload_n hx hb dX7_takeEmptyLines_19 rfl (lv_at hl 2 rfl) ?_
        refine ct_callV (wr := [(hs, .inr (5, [.ref kb, .int (nI lv)]))]) hx hb hml hown hts hK hP hD hS hA hG hl.1 (c_getIn l g kb qb 4096 nb sb fb i (by omega) (by omega) (by omega)) (cwV 1 hts gX7_takeEmptyLines_X4_get rfl rfl rfl (by decide +kernel) ⟨Nat.le_of_ble_eq_true rfl, Nat.le_of_ble_eq_true rfl⟩) (va_recv hK hP (ci := 3) (q0 := 1) rfl rfl) rfl rfl (Nat.le_of_ble_eq_true rfl) dX7_takeEmptyLines_20 ⟨show 0 + 0 ≤ 0 by omega, show 0 + 0 ≤ 0 by omega⟩ [1, 2] [0] rfl rfl (by decide) (by decide) (by decide) (fun r_ w_ H locs hp_ hP hD hS => ?_)
        obtain ⟨rfl, rfl⟩ := hp_
        have hP : va_P (gD g) vwCl [(hs, .inr (5, [.ref kb, .int (nI lv)])), (kb, .inr (3, [.int (nI 4096), .ref qb, .int (nI sb)])), (qb, .inl (gB g, nb, .inl fb))] H := hP
        have hD : va_D A [(hs, .inr (5, [.ref kb, .int (nI lv)])), (kb, .inr (3, [.int (nI 4096), .ref qb, .int (nI sb)])), (qb, .inl (gB g, nb, .inl fb))] := hD
        refine W.eq (g2 := F0 m 23 ls [.int (fb i &&& 255)]) rfl ?_
        refine lv_istore_n (lv' := [(3, .int (fb i &&& 255)), (0, .ref hs), (1, .int (nI s0)), (2, .int (nI i))]) hx hb dX7_takeEmptyLines_23 rfl hl (by decide) rfl (fun ls hl => ?_)
        refine lv_iload_n hx hb dX7_takeEmptyLines_24 rfl (lv_at hl 0 rfl) ?_
        refine lv_bipush (v := nI 10) hx hb dX7_takeEmptyLines_25 (by decide) ?_
        refine lv_icmp_ne (tgt := 37) hx hb dX7_takeEmptyLines_27 (by decide) (fun c27 => ?_) (fun c27 => ?_)
        · skip
          refine lv_iload_n hx hb dX7_takeEmptyLines_37 rfl (lv_at hl 0 rfl) ?_
          refine lv_bipush (v := nI 13) hx hb dX7_takeEmptyLines_38 (by decide) ?_
          refine lv_icmp_ne (tgt := 67) hx hb dX7_takeEmptyLines_40 (by decide) (fun c40 => ?_) (fun c40 => ?_)
          · skip
            exact J67 s0 (by (obtain ⟨m, h1, h2⟩ := hE; rw [h2]; rcases hi3 with z | z <;> first | exact (eml_3 (fun w => absurd w.1 (by omega)) (fun w => absurd w.1 (by omega))).symm | exact (eml_3 (fun w => c27 (by rw [z]; exact w.2)) (fun w => c40 (by rw [z]; exact w.2.1))).symm | exact (eml_3 (fun w => c27 (by rw [z]; exact w.2)) (fun w => c55 (by rw [z]; exact w.2.2))).symm | exact (eml_3 (fun w => c27 (by rw [z]; exact w.2)) (fun w => absurd w.1 (by omega))).symm | exact absurd z.2.2.2 c27 | (exfalso; omega))) (by omega) _ _ _ (hP.sub [0, 1, 2] rfl) (hD.sub [0, 1, 2] (by decide) rfl) hS (lv_sub hl [1, 2] rfl)
          · skip
            refine lv_aload_n hx hb dX7_takeEmptyLines_43 rfl (lv_at hl 1 rfl) ?_
            refine va_get (D := gD g) (ci := 5) (v := .ref kb) (C := RX7) (T := TX7) (N := 2) hx hb hts hinX7 hown hK hP 0 rfl rfl 0 (by decide) hf14 (fun _ h9 => h9) rfl dX7_takeEmptyLines_44 ?_
            refine lv_iload_n hx hb dX7_takeEmptyLines_47 rfl (lv_at hl 3 rfl) ?_
            refine lv_iconst (v := nI 1) hx hb dX7_takeEmptyLines_48 (by decide) ?_
            refine q_iadd (v := nI (i + 1)) hx hb dX7_takeEmptyLines_49 (nI_add i 1) ?_
            rcases Nat.lt_or_ge (i + 1) sb with hcs | hcs
            · skip
              refine ct_callV (wr := [(hs, .inr (5, [.ref kb, .int (nI lv)]))]) hx hb hml hown hts hK hP hD hS hA hG hl.1 (c_getIn l g kb qb 4096 nb sb fb (i + 1) (by omega) (by omega) (by omega)) (cwV 1 hts gX7_takeEmptyLines_X4_get rfl rfl rfl (by decide +kernel) ⟨Nat.le_of_ble_eq_true rfl, Nat.le_of_ble_eq_true rfl⟩) (va_recv hK hP (ci := 3) (q0 := 1) rfl rfl) rfl rfl (Nat.le_of_ble_eq_true rfl) dX7_takeEmptyLines_50 ⟨show 0 + 0 ≤ 0 by omega, show 0 + 0 ≤ 0 by omega⟩ [1, 2] [0] rfl rfl (by decide) (by decide) (by decide) (fun r_ w_ H locs hp_ hP hD hS => ?_)
              obtain ⟨rfl, rfl⟩ := hp_
              have hP : va_P (gD g) vwCl [(hs, .inr (5, [.ref kb, .int (nI lv)])), (kb, .inr (3, [.int (nI 4096), .ref qb, .int (nI sb)])), (qb, .inl (gB g, nb, .inl fb))] H := hP
              have hD : va_D A [(hs, .inr (5, [.ref kb, .int (nI lv)])), (kb, .inr (3, [.int (nI 4096), .ref qb, .int (nI sb)])), (qb, .inl (gB g, nb, .inl fb))] := hD
              refine W.eq (g2 := F0 m 53 ls [.int (fb (i + 1) &&& 255)]) rfl ?_
              refine lv_bipush (v := nI 10) hx hb dX7_takeEmptyLines_53 (by decide) ?_
              refine lv_icmp_eq (tgt := 61) hx hb dX7_takeEmptyLines_55 (by decide) (fun c55 => ?_) (fun c55 => ?_)
              · skip
                refine lv_iinc (v := nI (i + 1)) (lv' := [(2, .int (nI (i + 1))), (3, .int (fb i &&& 255)), (0, .ref hs), (1, .int (nI s0))]) hx hb dX7_takeEmptyLines_61 hl (k := 3) rfl (nI_inc i 1) (by decide) rfl (fun ls hl => ?_)
                refine lv_goto (tgt := 4) hx hb dX7_takeEmptyLines_64 (by decide) ?_
                exact ih_K4 s0 (i + 1) (by omega) (by first | exact Or.inl rfl | (rcases hi3 with z | z <;> first | exact Or.inr ⟨by omega, hcs, by rw [← z]; exact c40, c55⟩ | exact absurd z.2.2.2 c27)) (by first | exact hE | (obtain ⟨m, h1, h2⟩ := hE; obtain ⟨m, rfl⟩ : ∃ k, m = k + 1 := ⟨m - 1, by omega⟩; rcases hi3 with z | z <;> first | exact ⟨m, by omega, h2.trans (by rw [z]; exact eml_1 (by omega) (by rw [← z]; exact c27))⟩ | exact ⟨m, by omega, h2.trans (by rw [z.1]; exact eml_2 (by omega) z.2.2.1 (by rw [← z.1]; exact z.2.2.2))⟩)) (by omega) _ _ _ (hP.sub [0, 1, 2] rfl) (hD.sub [0, 1, 2] (by decide) rfl) hS (lv_sub hl [2, 3, 0] rfl)
              · skip
                refine lv_goto (tgt := 67) hx hb dX7_takeEmptyLines_58 (by decide) ?_
                exact J67 s0 (by (obtain ⟨m, h1, h2⟩ := hE; rw [h2]; rcases hi3 with z | z <;> first | exact (eml_3 (fun w => absurd w.1 (by omega)) (fun w => absurd w.1 (by omega))).symm | exact (eml_3 (fun w => c27 (by rw [z]; exact w.2)) (fun w => c40 (by rw [z]; exact w.2.1))).symm | exact (eml_3 (fun w => c27 (by rw [z]; exact w.2)) (fun w => c55 (by rw [z]; exact w.2.2))).symm | exact (eml_3 (fun w => c27 (by rw [z]; exact w.2)) (fun w => absurd w.1 (by omega))).symm | exact absurd z.2.2.2 c27 | (exfalso; omega))) (by omega) _ _ _ (hP.sub [0, 1, 2] rfl) (hD.sub [0, 1, 2] (by decide) rfl) hS (lv_sub hl [1, 2] rfl)
            · skip
              refine ct_callV (wr := [(hs, .inr (5, [.ref kb, .int (nI lv)]))]) hx hb hml hown hts hK hP hD hS hA hG hl.1 (c_getOut l g kb qb 4096 nb sb fb (i + 1) (by omega) (by omega) (by omega) (by omega)) (cwV 1 hts gX7_takeEmptyLines_X4_get rfl rfl rfl (by decide +kernel) ⟨Nat.le_of_ble_eq_true rfl, Nat.le_of_ble_eq_true rfl⟩) (va_recv hK hP (ci := 3) (q0 := 1) rfl rfl) rfl rfl (Nat.le_of_ble_eq_true rfl) dX7_takeEmptyLines_50 ⟨show 0 + 0 ≤ 0 by omega, show 0 + 0 ≤ 0 by omega⟩ [1, 2] [0] rfl rfl (by decide) (by decide) (by decide) (fun r_ w_ H locs hp_ hP hD hS => ?_)
              obtain ⟨rfl, rfl⟩ := hp_
              have hP : va_P (gD g) vwCl [(hs, .inr (5, [.ref kb, .int (nI lv)])), (kb, .inr (3, [.int (nI 4096), .ref qb, .int (nI sb)])), (qb, .inl (gB g, nb, .inl fb))] H := hP
              have hD : va_D A [(hs, .inr (5, [.ref kb, .int (nI lv)])), (kb, .inr (3, [.int (nI 4096), .ref qb, .int (nI sb)])), (qb, .inl (gB g, nb, .inl fb))] := hD
              refine W.eq (g2 := F0 m 53 ls [.int (-1)]) rfl ?_
              refine lv_bipush (v := nI 10) hx hb dX7_takeEmptyLines_53 (by decide) ?_
              refine lv_icmp_eq (tgt := 61) hx hb dX7_takeEmptyLines_55 (by decide) (fun c55 => absurd c55 (by decide)) (fun _ => ?_)
              refine lv_goto (tgt := 67) hx hb dX7_takeEmptyLines_58 (by decide) ?_
              exact J67 s0 (by (obtain ⟨m, h1, h2⟩ := hE; rw [h2]; rcases hi3 with z | z <;> first | exact (eml_3 (fun w => absurd w.1 (by omega)) (fun w => absurd w.1 (by omega))).symm | exact (eml_3 (fun w => c27 (by rw [z]; exact w.2)) (fun w => c40 (by rw [z]; exact w.2.1))).symm | exact (eml_3 (fun w => c27 (by rw [z]; exact w.2)) (fun w => c55 (by rw [z]; exact w.2.2))).symm | exact (eml_3 (fun w => c27 (by rw [z]; exact w.2)) (fun w => absurd w.1 (by omega))).symm | exact absurd z.2.2.2 c27 | (exfalso; omega))) (by omega) _ _ _ (hP.sub [0, 1, 2] rfl) (hD.sub [0, 1, 2] (by decide) rfl) hS (lv_sub hl [1, 2] rfl)
        · skip
          refine lv_iload_n hx hb dX7_takeEmptyLines_30 rfl (lv_at hl 3 rfl) ?_
          refine lv_iconst (v := nI 1) hx hb dX7_takeEmptyLines_31 (by decide) ?_
          refine q_iadd (v := nI (i + 1)) hx hb dX7_takeEmptyLines_32 (nI_add i 1) ?_
          refine lv_istore_n (lv' := [(1, .int (nI (i + 1))), (3, .int (fb i &&& 255)), (0, .ref hs), (2, .int (nI i))]) hx hb dX7_takeEmptyLines_33 rfl hl (by decide) rfl (fun ls hl => ?_)
          refine lv_goto (tgt := 61) hx hb dX7_takeEmptyLines_34 (by decide) ?_
          refine lv_iinc (v := nI (i + 1)) (lv' := [(2, .int (nI (i + 1))), (1, .int (nI (i + 1))), (3, .int (fb i &&& 255)), (0, .ref hs)]) hx hb dX7_takeEmptyLines_61 hl (k := 3) rfl (nI_inc i 1) (by decide) rfl (fun ls hl => ?_)
          refine lv_goto (tgt := 4) hx hb dX7_takeEmptyLines_64 (by decide) ?_
          exact ih_K4 (i + 1) (i + 1) (by omega) (by first | exact Or.inl rfl | (rcases hi3 with z | z <;> first | exact Or.inr ⟨by omega, hcs, by rw [← z]; exact c40, c55⟩ | exact absurd z.2.2.2 c27)) (by first | exact hE | (obtain ⟨m, h1, h2⟩ := hE; obtain ⟨m, rfl⟩ : ∃ k, m = k + 1 := ⟨m - 1, by omega⟩; rcases hi3 with z | z <;> first | exact ⟨m, by omega, h2.trans (by rw [z]; exact eml_1 (by omega) (by rw [← z]; exact c27))⟩ | exact ⟨m, by omega, h2.trans (by rw [z.1]; exact eml_2 (by omega) z.2.2.1 (by rw [← z.1]; exact z.2.2.2))⟩)) (by omega) _ _ _ (hP.sub [0, 1, 2] rfl) (hD.sub [0, 1, 2] (by decide) rfl) hS (lv_sub hl [3, 1, 0] rfl)
  exact K4 ((sb - 0) + 1) 0 0 (by omega) (by omega) (by exact ⟨sb + 1, by omega, rfl⟩) (Nat.lt_succ_self _) _ _ _ (hP.sub [0, 1, 2] rfl) (hD.sub [0, 1, 2] (by decide) rfl) hS (lv_sub hl [2, 1, 0] rfl)

set_option maxHeartbeats 4000000 in
set_option maxRecDepth 100000 in
theorem c_headSize (l : Launch) (g : GT) (hs : Nat) (kb : Nat) (lv : Nat) (qb : Nat) (nb : Nat) (sb : Nat) (fb : Nat → Int32) (hs1 : sb ≤ nb) (hs2 : nb ≤ 4096) : CT l g yX7_headSize wsX7_headSize ({ frames := 2, cells := 0, slots := 0, locals := 44 } : Room) [.ref hs] [(hs, .inr (5, [.ref kb, .int (nI lv)])), (kb, .inr (3, [.int (nI 4096), .ref qb, .int (nI sb)])), (qb, .inl (gB g, nb, .inl fb))] (fun r w => (∃ (r1 : Nat), r = some (.int (nI r1)) ∧ w = [(hs, .inr (5, [.ref kb, .int (nI lv)])), (kb, .inr (3, [.int (nI 4096), .ref qb, .int (nI sb)])), (qb, .inl (gB g, nb, .inl fb))] ∧ (r1 = hsz fb sb (sb + 1) 0 0) ∧ (r1 ≤ sb))) (0) (0) := by
  refine ct_of (cc := cX7_headSize) (maxL := 3) (ret := (some .int)) (by decide) rfl (Nat.le_of_ble_eq_true rfl) ?_
  intro p e s m args below meth c A Q hx hb hr hml hown hts hlocks hnam hAe hQ hA hG hK hP hD hS ls hl
  have hl : lv_has ls 3 [(0, .ref hs)] := hl
  have hown : s.vm.findClass RX7 = some m.cls := hown
  have hinX7 : ∀ w ∈ u_ws RX7 TX7 2, w ∈ wsX7_headSize := by decide +kernel
  have hf14 := hts (.fieldLink RX7 14 "RequestReader$Stream" "bytes" "LRequestReader$Row;") (by decide +kernel)
  refine lv_iconst (v := nI 0) hx hb dX7_headSize_0 (by decide) ?_
  refine lv_istore_n (lv' := [(1, .int (nI 0)), (0, .ref hs)]) hx hb dX7_headSize_1 rfl hl (by decide) rfl (fun ls hl => ?_)
  refine lv_iconst (v := nI 0) hx hb dX7_headSize_2 (by decide) ?_
  refine lv_istore_n (lv' := [(2, .int (nI 0)), (1, .int (nI 0)), (0, .ref hs)]) hx hb dX7_headSize_3 rfl hl (by decide) rfl (fun ls hl => ?_)
  have K4 : ∀ (N_ : Nat) (b0 : Nat) (i : Nat), (b0 ≤ i) → (i ≤ sb) → (∃ m, sb < i + m ∧ hsz fb sb (sb + 1) 0 0 = hsz fb sb m b0 i) → (sb - i) < N_ → ∀ (H : Heap) (locs : List Loc) (ls : Array Slot), va_P (gD g) vwCl [(hs, .inr (5, [.ref kb, .int (nI lv)])), (kb, .inr (3, [.int (nI 4096), .ref qb, .int (nI sb)])), (qb, .inl (gB g, nb, .inl fb))] H → va_D A [(hs, .inr (5, [.ref kb, .int (nI lv)])), (kb, .inr (3, [.int (nI 4096), .ref qb, .int (nI sb)])), (qb, .inl (gB g, nb, .inl fb))] → va_S A s.heap H locs → lv_has ls 3 [(0, .ref hs), (1, .int (nI b0)), (2, .int (nI i))] → W p l e ({ frames := 2, cells := 0, slots := 0, locals := 44 } : Room) s m args below meth c H locs (0) (0) Q (F0 m 4 ls []) := by
    intro N_
    induction N_ with
    | zero => intro b0 i hbi his hE hm_; exact absurd hm_ (Nat.not_lt_zero _)
    | succ N_ ih_K4 =>
      intro b0 i hbi his hE hm_ H locs ls hP hD hS hl
      refine lv_iload_n hx hb dX7_headSize_4 rfl (lv_at hl 2 rfl) ?_
      refine lv_aload_n hx hb dX7_headSize_5 rfl (lv_at hl 0 rfl) ?_
      refine va_get (D := gD g) (ci := 5) (v := .ref kb) (C := RX7) (T := TX7) (N := 2) hx hb hts hinX7 hown hK hP 0 rfl rfl 0 (by decide) hf14 (fun _ h9 => h9) rfl dX7_headSize_6 ?_
      refine ct_callV (wr := [(hs, .inr (5, [.ref kb, .int (nI lv)]))]) hx hb hml hown hts hK hP hD hS hA hG hl.1 (c_count l g kb qb 4096 nb sb fb ) (cwV 0 hts gX7_headSize_X4_count rfl rfl rfl (by decide +kernel) ⟨Nat.le_of_ble_eq_true rfl, Nat.le_of_ble_eq_true rfl⟩) (va_recv hK hP (ci := 3) (q0 := 1) rfl rfl) rfl rfl (Nat.le_of_ble_eq_true rfl) dX7_headSize_9 ⟨show 0 + 0 ≤ 0 by omega, show 0 + 0 ≤ 0 by omega⟩ [1, 2] [0] rfl rfl (by decide) (by decide) (by decide) (fun r_ w_ H locs hp_ hP hD hS => ?_)
      obtain ⟨rfl, rfl⟩ := hp_
      have hP : va_P (gD g) vwCl [(hs, .inr (5, [.ref kb, .int (nI lv)])), (kb, .inr (3, [.int (nI 4096), .ref qb, .int (nI sb)])), (qb, .inl (gB g, nb, .inl fb))] H := hP
      have hD : va_D A [(hs, .inr (5, [.ref kb, .int (nI lv)])), (kb, .inr (3, [.int (nI 4096), .ref qb, .int (nI sb)])), (qb, .inl (gB g, nb, .inl fb))] := hD
      refine W.eq (g2 := F0 m 12 ls [.int (nI sb), .int (nI i)]) rfl ?_
      refine lv_icmp_ge (tgt := 55) hx hb dX7_headSize_12 (by decide) (fun c12 => ?_) (fun c12 => ?_)
      · skip
        have c12 : sb ≤ i := (nI_leI (a := sb) (b := i) (by omega) (by omega)).mp c12
        refine lv_iconst (v := nI 0) hx hb dX7_headSize_55 (by decide) ?_
        refine ct_iret (w := [(hs, .inr (5, [.ref kb, .int (nI lv)])), (kb, .inr (3, [.int (nI 4096), .ref qb, .int (nI sb)])), (qb, .inl (gB g, nb, .inl fb))]) hx hb hr rfl hlocks hQ hAe hK (hP.sub [0, 1, 2] rfl) (hD.sub [0, 1, 2] (by decide) rfl) hS (by omega) (by omega) dX7_headSize_56 ?_
        exact ⟨0, rfl, rfl, by (obtain ⟨m, h1, h2⟩ := hE; first | exact (h2.trans (hsz_4 (by omega))).symm | (obtain ⟨m, rfl⟩ : ∃ k, m = k + 1 := ⟨m - 1, by omega⟩; exact (h2.trans (hsz_1 (by omega) c25 (by rcases hL_34 with z | z <;> first | exact Or.inl (by omega) | exact Or.inr ⟨by omega, by rw [show b0 = i - 1 by omega]; exact z.2.2⟩))).symm)), by omega⟩
      · skip
        have c12 : ¬ (sb ≤ i) := fun z => c12 ((nI_leI (a := sb) (b := i) (by omega) (by omega)).mpr z)
        refine lv_aload_n hx hb dX7_headSize_15 rfl (lv_at hl 0 rfl) ?_
        refine va_get (D := gD g) (ci := 5) (v := .ref kb) (C := RX7) (T := TX7) (N := 2) hx hb hts hinX7 hown hK hP 0 rfl rfl 0 (by decide) hf14 (fun _ h9 => h9) rfl dX7_headSize_16 ?_
        refine lv_iload_n hx hb dX7_headSize_19 rfl (lv_at hl 2 rfl) ?_
        refine ct_callV (wr := [(hs, .inr (5, [.ref kb, .int (nI lv)]))]) hx hb hml hown hts hK hP hD hS hA hG hl.1 (c_getIn l g kb qb 4096 nb sb fb i (by omega) (by omega) (by omega)) (cwV 1 hts gX7_headSize_X4_get rfl rfl rfl (by decide +kernel) ⟨Nat.le_of_ble_eq_true rfl, Nat.le_of_ble_eq_true rfl⟩) (va_recv hK hP (ci := 3) (q0 := 1) rfl rfl) rfl rfl (Nat.le_of_ble_eq_true rfl) dX7_headSize_20 ⟨show 0 + 0 ≤ 0 by omega, show 0 + 0 ≤ 0 by omega⟩ [1, 2] [0] rfl rfl (by decide) (by decide) (by decide) (fun r_ w_ H locs hp_ hP hD hS => ?_)
        obtain ⟨rfl, rfl⟩ := hp_
        have hP : va_P (gD g) vwCl [(hs, .inr (5, [.ref kb, .int (nI lv)])), (kb, .inr (3, [.int (nI 4096), .ref qb, .int (nI sb)])), (qb, .inl (gB g, nb, .inl fb))] H := hP
        have hD : va_D A [(hs, .inr (5, [.ref kb, .int (nI lv)])), (kb, .inr (3, [.int (nI 4096), .ref qb, .int (nI sb)])), (qb, .inl (gB g, nb, .inl fb))] := hD
        refine W.eq (g2 := F0 m 23 ls [.int (fb i &&& 255)]) rfl ?_
        refine lv_bipush (v := nI 10) hx hb dX7_headSize_23 (by decide) ?_
        refine lv_icmp_ne (tgt := 49) hx hb dX7_headSize_25 (by decide) (fun c25 => ?_) (fun c25 => ?_)
        · skip
          refine lv_iinc (v := nI (i + 1)) (lv' := [(2, .int (nI (i + 1))), (0, .ref hs), (1, .int (nI b0))]) hx hb dX7_headSize_49 hl (k := 2) rfl (nI_inc i 1) (by decide) rfl (fun ls hl => ?_)
          refine lv_goto (tgt := 4) hx hb dX7_headSize_52 (by decide) ?_
          exact ih_K4 b0 (i + 1) (by omega) (by omega) (by (obtain ⟨m, h1, h2⟩ := hE; obtain ⟨m, rfl⟩ : ∃ k, m = k + 1 := ⟨m - 1, by omega⟩; first | exact ⟨m, by omega, h2.trans (hsz_3 (by omega) c25)⟩ | exact ⟨m, by omega, h2.trans (hsz_2 (by omega) c25 (fun w => c38 (by rcases hL_34 with z | z <;> rcases w with w | w <;> first | omega | exact absurd ⟨by omega, by rw [show i - 1 = b0 by omega]; exact w.2⟩ z.2)))⟩)) (by omega) _ _ _ (hP.sub [0, 1, 2] rfl) (hD.sub [0, 1, 2] (by decide) rfl) hS (lv_sub hl [1, 2, 0] rfl)
        · skip
          refine lv_aload_n hx hb dX7_headSize_28 rfl (lv_at hl 0 rfl) ?_
          refine va_get (D := gD g) (ci := 5) (v := .ref kb) (C := RX7) (T := TX7) (N := 2) hx hb hts hinX7 hown hK hP 0 rfl rfl 0 (by decide) hf14 (fun _ h9 => h9) rfl dX7_headSize_29 ?_
          refine lv_iload_n hx hb dX7_headSize_32 rfl (lv_at hl 1 rfl) ?_
          refine lv_iload_n hx hb dX7_headSize_33 rfl (lv_at hl 2 rfl) ?_
          refine ct_callV (wr := [(hs, .inr (5, [.ref kb, .int (nI lv)]))]) hx hb hml hown hts hK hP hD hS hA hG hl.1 (c_lineEnd l g kb qb 4096 nb sb fb b0 i (by omega) (by omega) (by omega) (by omega)) (cwV 2 hts gX7_headSize_X4_lineEnd rfl rfl rfl (by decide +kernel) ⟨Nat.le_of_ble_eq_true rfl, Nat.le_of_ble_eq_true rfl⟩) (va_recv hK hP (ci := 3) (q0 := 1) rfl rfl) rfl rfl (Nat.le_of_ble_eq_true rfl) dX7_headSize_34 ⟨show 0 + 0 ≤ 0 by omega, show 0 + 0 ≤ 0 by omega⟩ [1, 2] [0] rfl rfl (by decide) (by decide) (by decide) (fun r_ w_ H locs hp_ hP hD hS => ?_)
          obtain ⟨r1_34, rfl, rfl, hL_34⟩ := hp_
          have hP : va_P (gD g) vwCl [(hs, .inr (5, [.ref kb, .int (nI lv)])), (kb, .inr (3, [.int (nI 4096), .ref qb, .int (nI sb)])), (qb, .inl (gB g, nb, .inl fb))] H := hP
          have hD : va_D A [(hs, .inr (5, [.ref kb, .int (nI lv)])), (kb, .inr (3, [.int (nI 4096), .ref qb, .int (nI sb)])), (qb, .inl (gB g, nb, .inl fb))] := hD
          have hL_34 : (r1_34 = i ∧ ¬ (b0 < i ∧ fb (i - 1) &&& 255 = nI 13)) ∨ (r1_34 + 1 = i ∧ b0 < i ∧ fb (i - 1) &&& 255 = nI 13) := hL_34
          refine W.eq (g2 := F0 m 37 ls [.int (nI r1_34)]) rfl ?_
          refine lv_iload_n hx hb dX7_headSize_37 rfl (lv_at hl 1 rfl) ?_
          refine lv_icmp_ne (tgt := 45) hx hb dX7_headSize_38 (by decide) (fun c38 => ?_) (fun c38 => ?_)
          · skip
            have c38 : ¬ (r1_34 = b0) := fun z => c38 ((nI_eq (a := r1_34) (b := b0) (by omega) (by omega)).mpr z)
            refine lv_iload_n hx hb dX7_headSize_45 rfl (lv_at hl 2 rfl) ?_
            refine lv_iconst (v := nI 1) hx hb dX7_headSize_46 (by decide) ?_
            refine q_iadd (v := nI (i + 1)) hx hb dX7_headSize_47 (nI_add i 1) ?_
            refine lv_istore_n (lv' := [(1, .int (nI (i + 1))), (0, .ref hs), (2, .int (nI i))]) hx hb dX7_headSize_48 rfl hl (by decide) rfl (fun ls hl => ?_)
            refine lv_iinc (v := nI (i + 1)) (lv' := [(2, .int (nI (i + 1))), (1, .int (nI (i + 1))), (0, .ref hs)]) hx hb dX7_headSize_49 hl (k := 2) rfl (nI_inc i 1) (by decide) rfl (fun ls hl => ?_)
            refine lv_goto (tgt := 4) hx hb dX7_headSize_52 (by decide) ?_
            exact ih_K4 (i + 1) (i + 1) (by omega) (by omega) (by (obtain ⟨m, h1, h2⟩ := hE; obtain ⟨m, rfl⟩ : ∃ k, m = k + 1 := ⟨m - 1, by omega⟩; first | exact ⟨m, by omega, h2.trans (hsz_3 (by omega) c25)⟩ | exact ⟨m, by omega, h2.trans (hsz_2 (by omega) c25 (fun w => c38 (by rcases hL_34 with z | z <;> rcases w with w | w <;> first | omega | exact absurd ⟨by omega, by rw [show i - 1 = b0 by omega]; exact w.2⟩ z.2)))⟩)) (by omega) _ _ _ (hP.sub [0, 1, 2] rfl) (hD.sub [0, 1, 2] (by decide) rfl) hS (lv_sub hl [2, 1, 0] rfl)
          · skip
            have c38 : r1_34 = b0 := (nI_eq (a := r1_34) (b := b0) (by omega) (by omega)).mp c38
            refine lv_iload_n hx hb dX7_headSize_41 rfl (lv_at hl 2 rfl) ?_
            refine lv_iconst (v := nI 1) hx hb dX7_headSize_42 (by decide) ?_
            refine q_iadd (v := nI (i + 1)) hx hb dX7_headSize_43 (nI_add i 1) ?_
            refine ct_iret (w := [(hs, .inr (5, [.ref kb, .int (nI lv)])), (kb, .inr (3, [.int (nI 4096), .ref qb, .int (nI sb)])), (qb, .inl (gB g, nb, .inl fb))]) hx hb hr rfl hlocks hQ hAe hK (hP.sub [0, 1, 2] rfl) (hD.sub [0, 1, 2] (by decide) rfl) hS (by omega) (by omega) dX7_headSize_44 ?_
            exact ⟨i + 1, rfl, rfl, by (obtain ⟨m, h1, h2⟩ := hE; first | exact (h2.trans (hsz_4 (by omega))).symm | (obtain ⟨m, rfl⟩ : ∃ k, m = k + 1 := ⟨m - 1, by omega⟩; exact (h2.trans (hsz_1 (by omega) c25 (by rcases hL_34 with z | z <;> first | exact Or.inl (by omega) | exact Or.inr ⟨by omega, by rw [show b0 = i - 1 by omega]; exact z.2.2⟩))).symm)), by omega⟩
  exact K4 ((sb - 0) + 1) 0 0 (by omega) (by omega) (by exact ⟨sb + 1, by omega, rfl⟩) (Nat.lt_succ_self _) _ _ _ (hP.sub [0, 1, 2] rfl) (hD.sub [0, 1, 2] (by decide) rfl) hS (lv_sub hl [2, 1, 0] rfl)
