theorem reqS_F {f : Nat → Int32} {e fa me nw tS tE A B n1 : Nat} {s5 : Nat × Nat × Nat × Int32 × Nat × Nat × Nat × Nat × Nat} (hA : pFind f (nI 32) 0 e A) (hB : pFind f (nI 32) (A + 1) e B) (hno : ¬ ((pText f (B + 1) e 2 ∨ pText f (B + 1) e 3) ∧ pMeth f A ∧ pTarg f (A + 1) B)) (hn : iteC (pText f (B + 1) e 2) 1 0 = n1) : (1, me, n1, A + 1, B, s5) = reqS f e (fa, me, nw, tS, tE, s5) := by
  simp only [reqS, fnd_eq hA, fnd_eq hB, iteC_n hno, hn]
theorem reqS_T {f : Nat → Int32} {e fa me nw tS tE A B n1 m1 : Nat} {s5 : Nat × Nat × Nat × Int32 × Nat × Nat × Nat × Nat × Nat} (hA : pFind f (nI 32) 0 e A) (hB : pFind f (nI 32) (A + 1) e B) (hok : (pText f (B + 1) e 2 ∨ pText f (B + 1) e 3) ∧ pMeth f A ∧ pTarg f (A + 1) B) (hn : iteC (pText f (B + 1) e 2) 1 0 = n1) (hm : iteC (pText f 0 A 4) 1 (iteC (pText f 0 A 5) me 2) = m1) : (fa, m1, n1, A + 1, B, s5) = reqS f e (fa, me, nw, tS, tE, s5) := by
  simp only [reqS, fnd_eq hA, fnd_eq hB, iteC_p hok, hn, hm]
def hz0 : HS := (0, 0, 0, 0, 0, 0, 0, 0, nI 0, 0, 0, 0, 0, 0)

set_option maxHeartbeats 4000000 in
set_option maxRecDepth 100000 in
theorem c_readReq (l : Launch) (g : GT) (hh : Nat) (fa : Nat) (me : Nat) (nw : Nat) (tS : Nat) (tE : Nat) (ho : Nat) (en : Nat) (le : Nat) (bo : Int32) (ma : Nat) (mS : Nat) (mE : Nat) (cl : Nat) (ke : Nat) (kb : Nat) (qb : Nat) (nb : Nat) (sb : Nat) (fb : Nat → Int32) (e0 : Nat) (hs1 : sb ≤ nb) (hs2 : nb ≤ 4096) (hfa : fa ≤ 1) (hnw : nw ≤ 1) (hcl : cl ≤ 1) (hke : ke ≤ 1) (hes : e0 ≤ sb) (hme : me ≤ 2) : CT l g yX2_readRequestLine wsX2_readRequestLine ({ frames := 5, cells := 0, slots := 0, locals := 110 } : Room) [.ref hh, .ref kb, .int (nI e0)] [(hh, .inr (1, [.int (nI fa), .int (nI me), .int (nI nw), .int (nI tS), .int (nI tE), .int (nI ho), .int (nI en), .int (nI le), .int bo, .int (nI ma), .int (nI mS), .int (nI mE), .int (nI cl), .int (nI ke)])), (kb, .inr (3, [.int (nI 4096), .ref qb, .int (nI sb)])), (qb, .inl (gB g, nb, .inl fb))] (fun r w => (∃ (fa1 : Nat) (me1 : Nat) (nw1 : Nat) (tS1 : Nat) (tE1 : Nat), r = none ∧ w = [(hh, .inr (1, [.int (nI fa1), .int (nI me1), .int (nI nw1), .int (nI tS1), .int (nI tE1), .int (nI ho), .int (nI en), .int (nI le), .int bo, .int (nI ma), .int (nI mS), .int (nI mE), .int (nI cl), .int (nI ke)])), (kb, .inr (3, [.int (nI 4096), .ref qb, .int (nI sb)])), (qb, .inl (gB g, nb, .inl fb))] ∧ ((fa1, me1, nw1, tS1, tE1, ho, en, le, bo, ma, mS, mE, cl, ke) = reqS fb e0 (fa, me, nw, tS, tE, ho, en, le, bo, ma, mS, mE, cl, ke)) ∧ (fa1 ≤ 1 ∧ nw1 ≤ 1 ∧ me1 ≤ 2 ∧ tS1 ≤ tE1 + 1 ∧ tE1 ≤ e0) ∧ (fa1 = 0 → tS1 ≤ tE1))) (0) (0) := by
  refine ct_of (cc := cX2_readRequestLine) (maxL := 5) (ret := none) (by decide) rfl (Nat.le_of_ble_eq_true rfl) ?_
  intro p e s m args below meth c A Q hx hb hr hml hown hts hlocks hnam hAe hQ hA hG hK hP hD hS ls hl
  have hl : lv_has ls 5 [(0, .ref hh), (1, .ref kb), (2, .int (nI e0))] := hl
  have hown : s.vm.findClass RX2 = some m.cls := hown
  have hinX2 : ∀ w ∈ u_ws RX2 TX2 14, w ∈ wsX2_readRequestLine := by decide +kernel
  have hf11 := hts (.fieldLink RX2 11 "RequestReader$Head" "method" "I") (by decide +kernel)
  have hf15 := hts (.fieldLink RX2 15 "RequestReader$Head" "isFaulty" "Z") (by decide +kernel)
  have hf19 := hts (.fieldLink RX2 19 "RequestReader$Head" "isNewer" "Z") (by decide +kernel)
  have hf22 := hts (.fieldLink RX2 22 "RequestReader$Head" "targetStart" "I") (by decide +kernel)
  have hf25 := hts (.fieldLink RX2 25 "RequestReader$Head" "targetEnd" "I") (by decide +kernel)
  refine lv_aload_n hx hb dX2_readRequestLine_0 rfl (lv_at hl 1 rfl) ?_
  refine lv_bipush (v := nI 32) hx hb dX2_readRequestLine_1 (by decide) ?_
  refine lv_iconst (v := nI 0) hx hb dX2_readRequestLine_3 (by decide) ?_
  refine lv_iload_n hx hb dX2_readRequestLine_4 rfl (lv_at hl 2 rfl) ?_
  refine ct_callV (wr := [(hh, .inr (1, [.int (nI fa), .int (nI me), .int (nI nw), .int (nI tS), .int (nI tE), .int (nI ho), .int (nI en), .int (nI le), .int bo, .int (nI ma), .int (nI mS), .int (nI mE), .int (nI cl), .int (nI ke)]))]) hx hb hml hown hts hK hP hD hS hA hG hl.1 (c_find l g kb qb 4096 nb sb fb (nI 32) 0 e0 (by omega) (by omega) (by omega) (by omega)) (cwV 3 hts gX2_readRequestLine_X4_find rfl rfl rfl (by decide +kernel) ⟨Nat.le_of_ble_eq_true rfl, Nat.le_of_ble_eq_true rfl⟩) (va_recv hK hP (ci := 3) (q0 := 1) rfl rfl) rfl rfl (Nat.le_of_ble_eq_true rfl) dX2_readRequestLine_5 ⟨show 0 + 0 ≤ 0 by omega, show 0 + 0 ≤ 0 by omega⟩ [1, 2] [0] rfl rfl (by decide) (by decide) (by decide) (fun r_ w_ H locs hp_ hP hD hS => ?_)
  obtain ⟨r1_5, rfl, rfl, hF_5, hrb_5⟩ := hp_
  have hP : va_P (gD g) vwCl [(hh, .inr (1, [.int (nI fa), .int (nI me), .int (nI nw), .int (nI tS), .int (nI tE), .int (nI ho), .int (nI en), .int (nI le), .int bo, .int (nI ma), .int (nI mS), .int (nI mE), .int (nI cl), .int (nI ke)])), (kb, .inr (3, [.int (nI 4096), .ref qb, .int (nI sb)])), (qb, .inl (gB g, nb, .inl fb))] H := hP
  have hD : va_D A [(hh, .inr (1, [.int (nI fa), .int (nI me), .int (nI nw), .int (nI tS), .int (nI tE), .int (nI ho), .int (nI en), .int (nI le), .int bo, .int (nI ma), .int (nI mS), .int (nI mE), .int (nI cl), .int (nI ke)])), (kb, .inr (3, [.int (nI 4096), .ref qb, .int (nI sb)])), (qb, .inl (gB g, nb, .inl fb))] := hD
  have hF_5 : pFind fb (nI 32) 0 e0 r1_5 := hF_5
  have hrb_5 : r1_5 ≤ e0 := hrb_5
  refine W.eq (g2 := F0 m 8 ls [.int (nI r1_5)]) rfl ?_
  refine lv_istore_n (lv' := [(3, .int (nI r1_5)), (0, .ref hh), (1, .ref kb), (2, .int (nI e0))]) hx hb dX2_readRequestLine_8 rfl hl (by decide) rfl (fun ls hl => ?_)
  refine lv_aload_n hx hb dX2_readRequestLine_9 rfl (lv_at hl 1 rfl) ?_
  refine lv_iload_n hx hb dX2_readRequestLine_10 rfl (lv_at hl 0 rfl) ?_
  refine lv_iconst (v := nI 1) hx hb dX2_readRequestLine_11 (by decide) ?_
  refine q_iadd (v := nI (r1_5 + 1)) hx hb dX2_readRequestLine_12 (nI_add r1_5 1) ?_
  refine va_put (D := gD g) (ci := 1) (v := .int (nI (r1_5 + 1))) (ty := .int) (C := RX2) (T := TX2) (N := 14) hx hb hts hinX2 tyX2 tyX2_ok nmX2 hown hK hP hD hS 0 rfl rfl 3 (by decide) hf22 (fun _ h9 => h9) rfl (by decide +kernel) rfl rfl (Nat.le_of_ble_eq_true rfl) dX2_readRequestLine_13 (fun H locs hP hD hS => ?_)
  have hP : va_P (gD g) vwCl [(hh, .inr (1, [.int (nI fa), .int (nI me), .int (nI nw), .int (nI (r1_5 + 1)), .int (nI tE), .int (nI ho), .int (nI en), .int (nI le), .int bo, .int (nI ma), .int (nI mS), .int (nI mE), .int (nI cl), .int (nI ke)])), (kb, .inr (3, [.int (nI 4096), .ref qb, .int (nI sb)])), (qb, .inl (gB g, nb, .inl fb))] H := hP
  have hD : va_D A [(hh, .inr (1, [.int (nI fa), .int (nI me), .int (nI nw), .int (nI (r1_5 + 1)), .int (nI tE), .int (nI ho), .int (nI en), .int (nI le), .int bo, .int (nI ma), .int (nI mS), .int (nI mE), .int (nI cl), .int (nI ke)])), (kb, .inr (3, [.int (nI 4096), .ref qb, .int (nI sb)])), (qb, .inl (gB g, nb, .inl fb))] := hD
  refine lv_aload_n hx hb dX2_readRequestLine_16 rfl (lv_at hl 1 rfl) ?_
  refine lv_aload_n hx hb dX2_readRequestLine_17 rfl (lv_at hl 2 rfl) ?_
  refine lv_bipush (v := nI 32) hx hb dX2_readRequestLine_18 (by decide) ?_
  refine lv_aload_n hx hb dX2_readRequestLine_20 rfl (lv_at hl 1 rfl) ?_
  refine va_get (D := gD g) (ci := 1) (v := .int (nI (r1_5 + 1))) (C := RX2) (T := TX2) (N := 14) hx hb hts hinX2 hown hK hP 0 rfl rfl 3 (by decide) hf22 (fun _ h9 => h9) rfl dX2_readRequestLine_21 ?_
  refine lv_iload_n hx hb dX2_readRequestLine_24 rfl (lv_at hl 3 rfl) ?_
  refine ct_callV (wr := [(hh, .inr (1, [.int (nI fa), .int (nI me), .int (nI nw), .int (nI (r1_5 + 1)), .int (nI tE), .int (nI ho), .int (nI en), .int (nI le), .int bo, .int (nI ma), .int (nI mS), .int (nI mE), .int (nI cl), .int (nI ke)]))]) hx hb hml hown hts hK hP hD hS hA hG hl.1 (c_find l g kb qb 4096 nb sb fb (nI 32) (r1_5 + 1) e0 (by omega) (by omega) (by omega) (by omega)) (cwV 3 hts gX2_readRequestLine_X4_find rfl rfl rfl (by decide +kernel) ⟨Nat.le_of_ble_eq_true rfl, Nat.le_of_ble_eq_true rfl⟩) (va_recv hK hP (ci := 3) (q0 := 1) rfl rfl) rfl rfl (Nat.le_of_ble_eq_true rfl) dX2_readRequestLine_25 ⟨show 0 + 0 ≤ 0 by omega, show 0 + 0 ≤ 0 by omega⟩ [1, 2] [0] rfl rfl (by decide) (by decide) (by decide) (fun r_ w_ H locs hp_ hP hD hS => ?_)
  obtain ⟨r1_25, rfl, rfl, hF_25, hrb_25⟩ := hp_
  have hP : va_P (gD g) vwCl [(hh, .inr (1, [.int (nI fa), .int (nI me), .int (nI nw), .int (nI (r1_5 + 1)), .int (nI tE), .int (nI ho), .int (nI en), .int (nI le), .int bo, .int (nI ma), .int (nI mS), .int (nI mE), .int (nI cl), .int (nI ke)])), (kb, .inr (3, [.int (nI 4096), .ref qb, .int (nI sb)])), (qb, .inl (gB g, nb, .inl fb))] H := hP
  have hD : va_D A [(hh, .inr (1, [.int (nI fa), .int (nI me), .int (nI nw), .int (nI (r1_5 + 1)), .int (nI tE), .int (nI ho), .int (nI en), .int (nI le), .int bo, .int (nI ma), .int (nI mS), .int (nI mE), .int (nI cl), .int (nI ke)])), (kb, .inr (3, [.int (nI 4096), .ref qb, .int (nI sb)])), (qb, .inl (gB g, nb, .inl fb))] := hD
  have hF_25 : pFind fb (nI 32) (r1_5 + 1) e0 r1_25 := hF_25
  have hrb_25 : r1_25 ≤ e0 := hrb_25
  refine W.eq (g2 := F0 m 28 ls [.int (nI r1_25), .ref hh]) rfl ?_
  refine va_put (D := gD g) (ci := 1) (v := .int (nI r1_25)) (ty := .int) (C := RX2) (T := TX2) (N := 14) hx hb hts hinX2 tyX2 tyX2_ok nmX2 hown hK hP hD hS 0 rfl rfl 4 (by decide) hf25 (fun _ h9 => h9) rfl (by decide +kernel) rfl rfl (Nat.le_of_ble_eq_true rfl) dX2_readRequestLine_28 (fun H locs hP hD hS => ?_)
  have hP : va_P (gD g) vwCl [(hh, .inr (1, [.int (nI fa), .int (nI me), .int (nI nw), .int (nI (r1_5 + 1)), .int (nI r1_25), .int (nI ho), .int (nI en), .int (nI le), .int bo, .int (nI ma), .int (nI mS), .int (nI mE), .int (nI cl), .int (nI ke)])), (kb, .inr (3, [.int (nI 4096), .ref qb, .int (nI sb)])), (qb, .inl (gB g, nb, .inl fb))] H := hP
  have hD : va_D A [(hh, .inr (1, [.int (nI fa), .int (nI me), .int (nI nw), .int (nI (r1_5 + 1)), .int (nI r1_25), .int (nI ho), .int (nI en), .int (nI le), .int bo, .int (nI ma), .int (nI mS), .int (nI mE), .int (nI cl), .int (nI ke)])), (kb, .inr (3, [.int (nI 4096), .ref qb, .int (nI sb)])), (qb, .inl (gB g, nb, .inl fb))] := hD
  refine lv_aload_n hx hb dX2_readRequestLine_31 rfl (lv_at hl 1 rfl) ?_
  refine lv_aload_n hx hb dX2_readRequestLine_32 rfl (lv_at hl 2 rfl) ?_
  refine lv_aload_n hx hb dX2_readRequestLine_33 rfl (lv_at hl 1 rfl) ?_
  refine va_get (D := gD g) (ci := 1) (v := .int (nI r1_25)) (C := RX2) (T := TX2) (N := 14) hx hb hts hinX2 hown hK hP 0 rfl rfl 4 (by decide) hf25 (fun _ h9 => h9) rfl dX2_readRequestLine_34 ?_
  refine lv_iconst (v := nI 1) hx hb dX2_readRequestLine_37 (by decide) ?_
  refine q_iadd (v := nI (r1_25 + 1)) hx hb dX2_readRequestLine_38 (nI_add r1_25 1) ?_
  refine lv_iload_n hx hb dX2_readRequestLine_39 rfl (lv_at hl 3 rfl) ?_
  refine va_ldcS hx hb hown ((hG.1 2 (by decide)).2.2.2.2) dX2_readRequestLine_40 ?_
  refine ct_callV (wr := [(hh, .inr (1, [.int (nI fa), .int (nI me), .int (nI nw), .int (nI (r1_5 + 1)), .int (nI r1_25), .int (nI ho), .int (nI en), .int (nI le), .int bo, .int (nI ma), .int (nI mS), .int (nI mE), .int (nI cl), .int (nI ke)]))]) hx hb hml hown hts hK hP hD hS hA hG hl.1 (c_hasText l g kb qb 4096 nb sb fb (r1_25 + 1) e0 2 (by omega) (by omega) (by omega) (by omega) (by omega) (by first | assumption | decide)) (cwV 3 hts gX2_readRequestLine_X4_hasText rfl rfl rfl (by decide +kernel) ⟨Nat.le_of_ble_eq_true rfl, Nat.le_of_ble_eq_true rfl⟩) (va_recv hK hP (ci := 3) (q0 := 1) rfl rfl) rfl rfl (Nat.le_of_ble_eq_true rfl) dX2_readRequestLine_42 ⟨show 0 + 0 ≤ 0 by omega, show 0 + 0 ≤ 0 by omega⟩ [1, 2] [0] rfl rfl (by decide) (by decide) (by decide) (fun r_ w_ H locs hp_ hP hD hS => ?_)
  rcases hp_ with ⟨rfl, rfl, hT_42⟩ | ⟨rfl, rfl, hF_42⟩
  · skip
    have hP : va_P (gD g) vwCl [(hh, .inr (1, [.int (nI fa), .int (nI me), .int (nI nw), .int (nI (r1_5 + 1)), .int (nI r1_25), .int (nI ho), .int (nI en), .int (nI le), .int bo, .int (nI ma), .int (nI mS), .int (nI mE), .int (nI cl), .int (nI ke)])), (kb, .inr (3, [.int (nI 4096), .ref qb, .int (nI sb)])), (qb, .inl (gB g, nb, .inl fb))] H := hP
    have hD : va_D A [(hh, .inr (1, [.int (nI fa), .int (nI me), .int (nI nw), .int (nI (r1_5 + 1)), .int (nI r1_25), .int (nI ho), .int (nI en), .int (nI le), .int bo, .int (nI ma), .int (nI mS), .int (nI mE), .int (nI cl), .int (nI ke)])), (kb, .inr (3, [.int (nI 4096), .ref qb, .int (nI sb)])), (qb, .inl (gB g, nb, .inl fb))] := hD
    have hT_42 : pText fb (r1_25 + 1) e0 2 := hT_42
    refine W.eq (g2 := F0 m 45 ls [.int (nI 1), .ref hh]) rfl ?_
    refine va_put (D := gD g) (ci := 1) (v := .int (nI 1)) (ty := .boolean) (C := RX2) (T := TX2) (N := 14) hx hb hts hinX2 tyX2 tyX2_ok nmX2 hown hK hP hD hS 0 rfl rfl 2 (by decide) hf19 (fun _ h9 => h9) rfl (by decide +kernel) rfl rfl (Nat.le_of_ble_eq_true rfl) dX2_readRequestLine_45 (fun H locs hP hD hS => ?_)
    have hP : va_P (gD g) vwCl [(hh, .inr (1, [.int (nI fa), .int (nI me), .int (nI 1), .int (nI (r1_5 + 1)), .int (nI r1_25), .int (nI ho), .int (nI en), .int (nI le), .int bo, .int (nI ma), .int (nI mS), .int (nI mE), .int (nI cl), .int (nI ke)])), (kb, .inr (3, [.int (nI 4096), .ref qb, .int (nI sb)])), (qb, .inl (gB g, nb, .inl fb))] H := hP
    have hD : va_D A [(hh, .inr (1, [.int (nI fa), .int (nI me), .int (nI 1), .int (nI (r1_5 + 1)), .int (nI r1_25), .int (nI ho), .int (nI en), .int (nI le), .int bo, .int (nI ma), .int (nI mS), .int (nI mE), .int (nI cl), .int (nI ke)])), (kb, .inr (3, [.int (nI 4096), .ref qb, .int (nI sb)])), (qb, .inl (gB g, nb, .inl fb))] := hD
    refine lv_aload_n hx hb dX2_readRequestLine_48 rfl (lv_at hl 1 rfl) ?_
    refine va_get (D := gD g) (ci := 1) (v := .int (nI 1)) (C := RX2) (T := TX2) (N := 14) hx hb hts hinX2 hown hK hP 0 rfl rfl 2 (by decide) hf19 (fun _ h9 => h9) rfl dX2_readRequestLine_49 ?_
    refine lv_if_ne (tgt := 71) hx hb dX2_readRequestLine_52 (by decide) (fun _ => ?_) (fun c52 => absurd c52 (by decide))
    refine lv_iconst (v := nI 1) hx hb dX2_readRequestLine_71 (by decide) ?_
    refine lv_goto (tgt := 76) hx hb dX2_readRequestLine_72 (by decide) ?_
    refine lv_istore (lv' := [(4, .int (nI 1)), (3, .int (nI r1_5)), (0, .ref hh), (1, .ref kb), (2, .int (nI e0))]) hx hb dX2_readRequestLine_76 hl (by decide) rfl (fun ls hl => ?_)
    refine lv_iload hx hb dX2_readRequestLine_78 (lv_at hl 0 rfl) ?_
    refine lv_if_eq (tgt := 99) hx hb dX2_readRequestLine_80 (by decide) (fun c80 => absurd c80 (by decide)) (fun _ => ?_)
    refine lv_aload_n hx hb dX2_readRequestLine_83 rfl (lv_at hl 3 rfl) ?_
    refine lv_iload_n hx hb dX2_readRequestLine_84 rfl (lv_at hl 1 rfl) ?_
    refine ct_callS (wr := [(hh, .inr (1, [.int (nI fa), .int (nI me), .int (nI 1), .int (nI (r1_5 + 1)), .int (nI r1_25), .int (nI ho), .int (nI en), .int (nI le), .int bo, .int (nI ma), .int (nI mS), .int (nI mE), .int (nI cl), .int (nI ke)]))]) hx hb hml hown hts hK hP hD hS hA hG hl.1 (c_isMethod l g kb qb nb sb fb r1_5 (by omega) (by omega) (by omega)) (va_cwS 2 hts gX2_readRequestLine_X2_isMethod rfl rfl rfl (by decide +kernel) ⟨Nat.le_of_ble_eq_true rfl, Nat.le_of_ble_eq_true rfl⟩) rfl rfl (Nat.le_of_ble_eq_true rfl) dX2_readRequestLine_85 ⟨show 0 + 0 ≤ 0 by omega, show 0 + 0 ≤ 0 by omega⟩ [1, 2] [0] rfl rfl (by decide) (by decide) (by decide) (fun r_ w_ H locs hp_ hP hD hS => ?_)
    rcases hp_ with ⟨rfl, rfl, hT_85⟩ | ⟨rfl, rfl, hF_85⟩
    · skip
      have hP : va_P (gD g) vwCl [(hh, .inr (1, [.int (nI fa), .int (nI me), .int (nI 1), .int (nI (r1_5 + 1)), .int (nI r1_25), .int (nI ho), .int (nI en), .int (nI le), .int bo, .int (nI ma), .int (nI mS), .int (nI mE), .int (nI cl), .int (nI ke)])), (kb, .inr (3, [.int (nI 4096), .ref qb, .int (nI sb)])), (qb, .inl (gB g, nb, .inl fb))] H := hP
      have hD : va_D A [(hh, .inr (1, [.int (nI fa), .int (nI me), .int (nI 1), .int (nI (r1_5 + 1)), .int (nI r1_25), .int (nI ho), .int (nI en), .int (nI le), .int bo, .int (nI ma), .int (nI mS), .int (nI mE), .int (nI cl), .int (nI ke)])), (kb, .inr (3, [.int (nI 4096), .ref qb, .int (nI sb)])), (qb, .inl (gB g, nb, .inl fb))] := hD
      have hT_85 : pMeth fb r1_5 := hT_85
      refine W.eq (g2 := F0 m 88 ls [.int (nI 1)]) rfl ?_
      refine lv_if_eq (tgt := 99) hx hb dX2_readRequestLine_88 (by decide) (fun c88 => absurd c88 (by decide)) (fun _ => ?_)
      refine lv_aload_n hx hb dX2_readRequestLine_91 rfl (lv_at hl 2 rfl) ?_
      refine lv_aload_n hx hb dX2_readRequestLine_92 rfl (lv_at hl 3 rfl) ?_
      refine ct_callV (wr := []) hx hb hml hown hts hK hP hD hS hA hG hl.1 (c_isTarget l g hh fa me 1 (r1_5 + 1) r1_25 ho en le bo ma mS mE cl ke kb qb nb sb fb (by omega) (by omega) (by omega) (by omega)) (cwV 1 hts gX2_readRequestLine_X2_isTarget rfl rfl rfl (by decide +kernel) ⟨Nat.le_of_ble_eq_true rfl, Nat.le_of_ble_eq_true rfl⟩) (va_recv hK hP (ci := 1) (q0 := 0) rfl rfl) rfl rfl (Nat.le_of_ble_eq_true rfl) dX2_readRequestLine_93 ⟨show 0 + 0 ≤ 0 by omega, show 0 + 0 ≤ 0 by omega⟩ [0, 1, 2] [] rfl rfl (by decide) (by decide) (by decide) (fun r_ w_ H locs hp_ hP hD hS => ?_)
      rcases hp_ with ⟨rfl, rfl, hT_93⟩ | ⟨rfl, rfl, hF_93⟩
      · skip
        have hP : va_P (gD g) vwCl [(hh, .inr (1, [.int (nI fa), .int (nI me), .int (nI 1), .int (nI ((r1_5 + 1))), .int (nI r1_25), .int (nI ho), .int (nI en), .int (nI le), .int bo, .int (nI ma), .int (nI mS), .int (nI mE), .int (nI cl), .int (nI ke)])), (kb, .inr (3, [.int (nI 4096), .ref qb, .int (nI sb)])), (qb, .inl (gB g, nb, .inl fb))] H := hP
        have hD : va_D A [(hh, .inr (1, [.int (nI fa), .int (nI me), .int (nI 1), .int (nI ((r1_5 + 1))), .int (nI r1_25), .int (nI ho), .int (nI en), .int (nI le), .int bo, .int (nI ma), .int (nI mS), .int (nI mE), .int (nI cl), .int (nI ke)])), (kb, .inr (3, [.int (nI 4096), .ref qb, .int (nI sb)])), (qb, .inl (gB g, nb, .inl fb))] := hD
        have hT_93 : pTarg fb (r1_5 + 1) r1_25 := hT_93
        refine W.eq (g2 := F0 m 96 ls [.int (nI 1)]) rfl ?_
        refine lv_if_ne (tgt := 107) hx hb dX2_readRequestLine_96 (by decide) (fun _ => ?_) (fun c96 => absurd c96 (by decide))
        refine lv_aload_n hx hb dX2_readRequestLine_107 rfl (lv_at hl 3 rfl) ?_
        refine lv_iconst (v := nI 0) hx hb dX2_readRequestLine_108 (by decide) ?_
        refine lv_iload_n hx hb dX2_readRequestLine_109 rfl (lv_at hl 1 rfl) ?_
        refine va_ldcS hx hb hown ((hG.1 4 (by decide)).2.2.2.2) dX2_readRequestLine_110 ?_
        refine ct_callV (wr := [(hh, .inr (1, [.int (nI fa), .int (nI me), .int (nI 1), .int (nI ((r1_5 + 1))), .int (nI r1_25), .int (nI ho), .int (nI en), .int (nI le), .int bo, .int (nI ma), .int (nI mS), .int (nI mE), .int (nI cl), .int (nI ke)]))]) hx hb hml hown hts hK hP hD hS hA hG hl.1 (c_hasText l g kb qb 4096 nb sb fb 0 r1_5 4 (by omega) (by omega) (by omega) (by omega) (by omega) (by first | assumption | decide)) (cwV 3 hts gX2_readRequestLine_X4_hasText rfl rfl rfl (by decide +kernel) ⟨Nat.le_of_ble_eq_true rfl, Nat.le_of_ble_eq_true rfl⟩) (va_recv hK hP (ci := 3) (q0 := 1) rfl rfl) rfl rfl (Nat.le_of_ble_eq_true rfl) dX2_readRequestLine_112 ⟨show 0 + 0 ≤ 0 by omega, show 0 + 0 ≤ 0 by omega⟩ [1, 2] [0] rfl rfl (by decide) (by decide) (by decide) (fun r_ w_ H locs hp_ hP hD hS => ?_)
        rcases hp_ with ⟨rfl, rfl, hT_112⟩ | ⟨rfl, rfl, hF_112⟩
        · skip
          have hP : va_P (gD g) vwCl [(hh, .inr (1, [.int (nI fa), .int (nI me), .int (nI 1), .int (nI ((r1_5 + 1))), .int (nI r1_25), .int (nI ho), .int (nI en), .int (nI le), .int bo, .int (nI ma), .int (nI mS), .int (nI mE), .int (nI cl), .int (nI ke)])), (kb, .inr (3, [.int (nI 4096), .ref qb, .int (nI sb)])), (qb, .inl (gB g, nb, .inl fb))] H := hP
          have hD : va_D A [(hh, .inr (1, [.int (nI fa), .int (nI me), .int (nI 1), .int (nI ((r1_5 + 1))), .int (nI r1_25), .int (nI ho), .int (nI en), .int (nI le), .int bo, .int (nI ma), .int (nI mS), .int (nI mE), .int (nI cl), .int (nI ke)])), (kb, .inr (3, [.int (nI 4096), .ref qb, .int (nI sb)])), (qb, .inl (gB g, nb, .inl fb))] := hD
          have hT_112 : pText fb 0 r1_5 4 := hT_112
          refine W.eq (g2 := F0 m 115 ls [.int (nI 1)]) rfl ?_
          refine lv_if_eq (tgt := 126) hx hb dX2_readRequestLine_115 (by decide) (fun c115 => absurd c115 (by decide)) (fun _ => ?_)
          refine lv_aload_n hx hb dX2_readRequestLine_118 rfl (lv_at hl 2 rfl) ?_
          refine lv_iconst (v := nI 1) hx hb dX2_readRequestLine_119 (by decide) ?_
          refine va_put (D := gD g) (ci := 1) (v := .int (nI 1)) (ty := .int) (C := RX2) (T := TX2) (N := 14) hx hb hts hinX2 tyX2 tyX2_ok nmX2 hown hK hP hD hS 0 rfl rfl 1 (by decide) hf11 (fun _ h9 => h9) rfl (by decide +kernel) rfl rfl (Nat.le_of_ble_eq_true rfl) dX2_readRequestLine_120 (fun H locs hP hD hS => ?_)
          have hP : va_P (gD g) vwCl [(hh, .inr (1, [.int (nI fa), .int (nI 1), .int (nI 1), .int (nI ((r1_5 + 1))), .int (nI r1_25), .int (nI ho), .int (nI en), .int (nI le), .int bo, .int (nI ma), .int (nI mS), .int (nI mE), .int (nI cl), .int (nI ke)])), (kb, .inr (3, [.int (nI 4096), .ref qb, .int (nI sb)])), (qb, .inl (gB g, nb, .inl fb))] H := hP
          have hD : va_D A [(hh, .inr (1, [.int (nI fa), .int (nI 1), .int (nI 1), .int (nI ((r1_5 + 1))), .int (nI r1_25), .int (nI ho), .int (nI en), .int (nI le), .int bo, .int (nI ma), .int (nI mS), .int (nI mE), .int (nI cl), .int (nI ke)])), (kb, .inr (3, [.int (nI 4096), .ref qb, .int (nI sb)])), (qb, .inl (gB g, nb, .inl fb))] := hD
          refine lv_goto (tgt := 142) hx hb dX2_readRequestLine_123 (by decide) ?_
          refine ct_vret (w := [(hh, .inr (1, [.int (nI fa), .int (nI 1), .int (nI 1), .int (nI ((r1_5 + 1))), .int (nI r1_25), .int (nI ho), .int (nI en), .int (nI le), .int bo, .int (nI ma), .int (nI mS), .int (nI mE), .int (nI cl), .int (nI ke)])), (kb, .inr (3, [.int (nI 4096), .ref qb, .int (nI sb)])), (qb, .inl (gB g, nb, .inl fb))]) hx hb hr hlocks hQ hAe hK (hP.sub [0, 1, 2] rfl) (hD.sub [0, 1, 2] (by decide) rfl) hS (by omega) (by omega) dX2_readRequestLine_142 ?_
          exact ⟨fa, 1, 1, (r1_5 + 1), r1_25, rfl, rfl, by first | exact reqS_F hF_5 hF_25 (by first | exact fun z => z.1.elim hF_42 hF_65 | exact fun z => hF_85 z.2.1 | exact fun z => hF_93 z.2.2) (by first | exact iteC_p hT_42 | exact iteC_n hF_42) | exact reqS_T hF_5 hF_25 ⟨(by first | exact Or.inl hT_42 | exact Or.inr hT_65), hT_85, hT_93⟩ (by first | exact iteC_p hT_42 | exact iteC_n hF_42) (by first | exact iteC_p hT_112 | exact (iteC_n hF_112).trans (iteC_p hT_131) | exact (iteC_n hF_112).trans (iteC_n hF_131)), by rcases hF_25.2 with z | z <;> omega, by first | exact fun z => absurd z (by decide) | exact fun _ => Nat.le_of_lt hT_93.1⟩
        · skip
          have hP : va_P (gD g) vwCl [(hh, .inr (1, [.int (nI fa), .int (nI me), .int (nI 1), .int (nI ((r1_5 + 1))), .int (nI r1_25), .int (nI ho), .int (nI en), .int (nI le), .int bo, .int (nI ma), .int (nI mS), .int (nI mE), .int (nI cl), .int (nI ke)])), (kb, .inr (3, [.int (nI 4096), .ref qb, .int (nI sb)])), (qb, .inl (gB g, nb, .inl fb))] H := hP
          have hD : va_D A [(hh, .inr (1, [.int (nI fa), .int (nI me), .int (nI 1), .int (nI ((r1_5 + 1))), .int (nI r1_25), .int (nI ho), .int (nI en), .int (nI le), .int bo, .int (nI ma), .int (nI mS), .int (nI mE), .int (nI cl), .int (nI ke)])), (kb, .inr (3, [.int (nI 4096), .ref qb, .int (nI sb)])), (qb, .inl (gB g, nb, .inl fb))] := hD
          have hF_112 : ¬ (pText fb 0 r1_5 4) := hF_112
          refine W.eq (g2 := F0 m 115 ls [.int (nI 0)]) rfl ?_
          refine lv_if_eq (tgt := 126) hx hb dX2_readRequestLine_115 (by decide) (fun _ => ?_) (fun c115 => absurd (by decide) c115)
          refine lv_aload_n hx hb dX2_readRequestLine_126 rfl (lv_at hl 3 rfl) ?_
          refine lv_iconst (v := nI 0) hx hb dX2_readRequestLine_127 (by decide) ?_
          refine lv_iload_n hx hb dX2_readRequestLine_128 rfl (lv_at hl 1 rfl) ?_
          refine va_ldcS hx hb hown ((hG.1 5 (by decide)).2.2.2.2) dX2_readRequestLine_129 ?_
          refine ct_callV (wr := [(hh, .inr (1, [.int (nI fa), .int (nI me), .int (nI 1), .int (nI ((r1_5 + 1))), .int (nI r1_25), .int (nI ho), .int (nI en), .int (nI le), .int bo, .int (nI ma), .int (nI mS), .int (nI mE), .int (nI cl), .int (nI ke)]))]) hx hb hml hown hts hK hP hD hS hA hG hl.1 (c_hasText l g kb qb 4096 nb sb fb 0 r1_5 5 (by omega) (by omega) (by omega) (by omega) (by omega) (by first | assumption | decide)) (cwV 3 hts gX2_readRequestLine_X4_hasText rfl rfl rfl (by decide +kernel) ⟨Nat.le_of_ble_eq_true rfl, Nat.le_of_ble_eq_true rfl⟩) (va_recv hK hP (ci := 3) (q0 := 1) rfl rfl) rfl rfl (Nat.le_of_ble_eq_true rfl) dX2_readRequestLine_131 ⟨show 0 + 0 ≤ 0 by omega, show 0 + 0 ≤ 0 by omega⟩ [1, 2] [0] rfl rfl (by decide) (by decide) (by decide) (fun r_ w_ H locs hp_ hP hD hS => ?_)
          rcases hp_ with ⟨rfl, rfl, hT_131⟩ | ⟨rfl, rfl, hF_131⟩
          · skip
            have hP : va_P (gD g) vwCl [(hh, .inr (1, [.int (nI fa), .int (nI me), .int (nI 1), .int (nI ((r1_5 + 1))), .int (nI r1_25), .int (nI ho), .int (nI en), .int (nI le), .int bo, .int (nI ma), .int (nI mS), .int (nI mE), .int (nI cl), .int (nI ke)])), (kb, .inr (3, [.int (nI 4096), .ref qb, .int (nI sb)])), (qb, .inl (gB g, nb, .inl fb))] H := hP
            have hD : va_D A [(hh, .inr (1, [.int (nI fa), .int (nI me), .int (nI 1), .int (nI ((r1_5 + 1))), .int (nI r1_25), .int (nI ho), .int (nI en), .int (nI le), .int bo, .int (nI ma), .int (nI mS), .int (nI mE), .int (nI cl), .int (nI ke)])), (kb, .inr (3, [.int (nI 4096), .ref qb, .int (nI sb)])), (qb, .inl (gB g, nb, .inl fb))] := hD
            have hT_131 : pText fb 0 r1_5 5 := hT_131
            refine W.eq (g2 := F0 m 134 ls [.int (nI 1)]) rfl ?_
            refine lv_if_ne (tgt := 142) hx hb dX2_readRequestLine_134 (by decide) (fun _ => ?_) (fun c134 => absurd c134 (by decide))
            refine ct_vret (w := [(hh, .inr (1, [.int (nI fa), .int (nI me), .int (nI 1), .int (nI ((r1_5 + 1))), .int (nI r1_25), .int (nI ho), .int (nI en), .int (nI le), .int bo, .int (nI ma), .int (nI mS), .int (nI mE), .int (nI cl), .int (nI ke)])), (kb, .inr (3, [.int (nI 4096), .ref qb, .int (nI sb)])), (qb, .inl (gB g, nb, .inl fb))]) hx hb hr hlocks hQ hAe hK (hP.sub [0, 1, 2] rfl) (hD.sub [0, 1, 2] (by decide) rfl) hS (by omega) (by omega) dX2_readRequestLine_142 ?_
            exact ⟨fa, me, 1, (r1_5 + 1), r1_25, rfl, rfl, by first | exact reqS_F hF_5 hF_25 (by first | exact fun z => z.1.elim hF_42 hF_65 | exact fun z => hF_85 z.2.1 | exact fun z => hF_93 z.2.2) (by first | exact iteC_p hT_42 | exact iteC_n hF_42) | exact reqS_T hF_5 hF_25 ⟨(by first | exact Or.inl hT_42 | exact Or.inr hT_65), hT_85, hT_93⟩ (by first | exact iteC_p hT_42 | exact iteC_n hF_42) (by first | exact iteC_p hT_112 | exact (iteC_n hF_112).trans (iteC_p hT_131) | exact (iteC_n hF_112).trans (iteC_n hF_131)), by rcases hF_25.2 with z | z <;> omega, by first | exact fun z => absurd z (by decide) | exact fun _ => Nat.le_of_lt hT_93.1⟩
          · skip
            have hP : va_P (gD g) vwCl [(hh, .inr (1, [.int (nI fa), .int (nI me), .int (nI 1), .int (nI ((r1_5 + 1))), .int (nI r1_25), .int (nI ho), .int (nI en), .int (nI le), .int bo, .int (nI ma), .int (nI mS), .int (nI mE), .int (nI cl), .int (nI ke)])), (kb, .inr (3, [.int (nI 4096), .ref qb, .int (nI sb)])), (qb, .inl (gB g, nb, .inl fb))] H := hP
            have hD : va_D A [(hh, .inr (1, [.int (nI fa), .int (nI me), .int (nI 1), .int (nI ((r1_5 + 1))), .int (nI r1_25), .int (nI ho), .int (nI en), .int (nI le), .int bo, .int (nI ma), .int (nI mS), .int (nI mE), .int (nI cl), .int (nI ke)])), (kb, .inr (3, [.int (nI 4096), .ref qb, .int (nI sb)])), (qb, .inl (gB g, nb, .inl fb))] := hD
            have hF_131 : ¬ (pText fb 0 r1_5 5) := hF_131
            refine W.eq (g2 := F0 m 134 ls [.int (nI 0)]) rfl ?_
            refine lv_if_ne (tgt := 142) hx hb dX2_readRequestLine_134 (by decide) (fun c134 => absurd (by decide) c134) (fun _ => ?_)
            refine lv_aload_n hx hb dX2_readRequestLine_137 rfl (lv_at hl 2 rfl) ?_
            refine lv_iconst (v := nI 2) hx hb dX2_readRequestLine_138 (by decide) ?_
            refine va_put (D := gD g) (ci := 1) (v := .int (nI 2)) (ty := .int) (C := RX2) (T := TX2) (N := 14) hx hb hts hinX2 tyX2 tyX2_ok nmX2 hown hK hP hD hS 0 rfl rfl 1 (by decide) hf11 (fun _ h9 => h9) rfl (by decide +kernel) rfl rfl (Nat.le_of_ble_eq_true rfl) dX2_readRequestLine_139 (fun H locs hP hD hS => ?_)
            have hP : va_P (gD g) vwCl [(hh, .inr (1, [.int (nI fa), .int (nI 2), .int (nI 1), .int (nI ((r1_5 + 1))), .int (nI r1_25), .int (nI ho), .int (nI en), .int (nI le), .int bo, .int (nI ma), .int (nI mS), .int (nI mE), .int (nI cl), .int (nI ke)])), (kb, .inr (3, [.int (nI 4096), .ref qb, .int (nI sb)])), (qb, .inl (gB g, nb, .inl fb))] H := hP
            have hD : va_D A [(hh, .inr (1, [.int (nI fa), .int (nI 2), .int (nI 1), .int (nI ((r1_5 + 1))), .int (nI r1_25), .int (nI ho), .int (nI en), .int (nI le), .int bo, .int (nI ma), .int (nI mS), .int (nI mE), .int (nI cl), .int (nI ke)])), (kb, .inr (3, [.int (nI 4096), .ref qb, .int (nI sb)])), (qb, .inl (gB g, nb, .inl fb))] := hD
            refine ct_vret (w := [(hh, .inr (1, [.int (nI fa), .int (nI 2), .int (nI 1), .int (nI ((r1_5 + 1))), .int (nI r1_25), .int (nI ho), .int (nI en), .int (nI le), .int bo, .int (nI ma), .int (nI mS), .int (nI mE), .int (nI cl), .int (nI ke)])), (kb, .inr (3, [.int (nI 4096), .ref qb, .int (nI sb)])), (qb, .inl (gB g, nb, .inl fb))]) hx hb hr hlocks hQ hAe hK (hP.sub [0, 1, 2] rfl) (hD.sub [0, 1, 2] (by decide) rfl) hS (by omega) (by omega) dX2_readRequestLine_142 ?_
            exact ⟨fa, 2, 1, (r1_5 + 1), r1_25, rfl, rfl, by first | exact reqS_F hF_5 hF_25 (by first | exact fun z => z.1.elim hF_42 hF_65 | exact fun z => hF_85 z.2.1 | exact fun z => hF_93 z.2.2) (by first | exact iteC_p hT_42 | exact iteC_n hF_42) | exact reqS_T hF_5 hF_25 ⟨(by first | exact Or.inl hT_42 | exact Or.inr hT_65), hT_85, hT_93⟩ (by first | exact iteC_p hT_42 | exact iteC_n hF_42) (by first | exact iteC_p hT_112 | exact (iteC_n hF_112).trans (iteC_p hT_131) | exact (iteC_n hF_112).trans (iteC_n hF_131)), by rcases hF_25.2 with z | z <;> omega, by first | exact fun z => absurd z (by decide) | exact fun _ => Nat.le_of_lt hT_93.1⟩
      · skip
        have hP : va_P (gD g) vwCl [(hh, .inr (1, [.int (nI fa), .int (nI me), .int (nI 1), .int (nI ((r1_5 + 1))), .int (nI r1_25), .int (nI ho), .int (nI en), .int (nI le), .int bo, .int (nI ma), .int (nI mS), .int (nI mE), .int (nI cl), .int (nI ke)])), (kb, .inr (3, [.int (nI 4096), .ref qb, .int (nI sb)])), (qb, .inl (gB g, nb, .inl fb))] H := hP
        have hD : va_D A [(hh, .inr (1, [.int (nI fa), .int (nI me), .int (nI 1), .int (nI ((r1_5 + 1))), .int (nI r1_25), .int (nI ho), .int (nI en), .int (nI le), .int bo, .int (nI ma), .int (nI mS), .int (nI mE), .int (nI cl), .int (nI ke)])), (kb, .inr (3, [.int (nI 4096), .ref qb, .int (nI sb)])), (qb, .inl (gB g, nb, .inl fb))] := hD
        have hF_93 : ¬ (pTarg fb (r1_5 + 1) r1_25) := hF_93
        refine W.eq (g2 := F0 m 96 ls [.int (nI 0)]) rfl ?_
        refine lv_if_ne (tgt := 107) hx hb dX2_readRequestLine_96 (by decide) (fun c96 => absurd (by decide) c96) (fun _ => ?_)
        refine lv_aload_n hx hb dX2_readRequestLine_99 rfl (lv_at hl 2 rfl) ?_
        refine lv_iconst (v := nI 1) hx hb dX2_readRequestLine_100 (by decide) ?_
        refine va_put (D := gD g) (ci := 1) (v := .int (nI 1)) (ty := .boolean) (C := RX2) (T := TX2) (N := 14) hx hb hts hinX2 tyX2 tyX2_ok nmX2 hown hK hP hD hS 0 rfl rfl 0 (by decide) hf15 (fun _ h9 => h9) rfl (by decide +kernel) rfl rfl (Nat.le_of_ble_eq_true rfl) dX2_readRequestLine_101 (fun H locs hP hD hS => ?_)
        have hP : va_P (gD g) vwCl [(hh, .inr (1, [.int (nI 1), .int (nI me), .int (nI 1), .int (nI ((r1_5 + 1))), .int (nI r1_25), .int (nI ho), .int (nI en), .int (nI le), .int bo, .int (nI ma), .int (nI mS), .int (nI mE), .int (nI cl), .int (nI ke)])), (kb, .inr (3, [.int (nI 4096), .ref qb, .int (nI sb)])), (qb, .inl (gB g, nb, .inl fb))] H := hP
        have hD : va_D A [(hh, .inr (1, [.int (nI 1), .int (nI me), .int (nI 1), .int (nI ((r1_5 + 1))), .int (nI r1_25), .int (nI ho), .int (nI en), .int (nI le), .int bo, .int (nI ma), .int (nI mS), .int (nI mE), .int (nI cl), .int (nI ke)])), (kb, .inr (3, [.int (nI 4096), .ref qb, .int (nI sb)])), (qb, .inl (gB g, nb, .inl fb))] := hD
        refine lv_goto (tgt := 142) hx hb dX2_readRequestLine_104 (by decide) ?_
        refine ct_vret (w := [(hh, .inr (1, [.int (nI 1), .int (nI me), .int (nI 1), .int (nI ((r1_5 + 1))), .int (nI r1_25), .int (nI ho), .int (nI en), .int (nI le), .int bo, .int (nI ma), .int (nI mS), .int (nI mE), .int (nI cl), .int (nI ke)])), (kb, .inr (3, [.int (nI 4096), .ref qb, .int (nI sb)])), (qb, .inl (gB g, nb, .inl fb))]) hx hb hr hlocks hQ hAe hK (hP.sub [0, 1, 2] rfl) (hD.sub [0, 1, 2] (by decide) rfl) hS (by omega) (by omega) dX2_readRequestLine_142 ?_
        exact ⟨1, me, 1, (r1_5 + 1), r1_25, rfl, rfl, by first | exact reqS_F hF_5 hF_25 (by first | exact fun z => z.1.elim hF_42 hF_65 | exact fun z => hF_85 z.2.1 | exact fun z => hF_93 z.2.2) (by first | exact iteC_p hT_42 | exact iteC_n hF_42) | exact reqS_T hF_5 hF_25 ⟨(by first | exact Or.inl hT_42 | exact Or.inr hT_65), hT_85, hT_93⟩ (by first | exact iteC_p hT_42 | exact iteC_n hF_42) (by first | exact iteC_p hT_112 | exact (iteC_n hF_112).trans (iteC_p hT_131) | exact (iteC_n hF_112).trans (iteC_n hF_131)), by rcases hF_25.2 with z | z <;> omega, by first | exact fun z => absurd z (by decide) | exact fun _ => Nat.le_of_lt hT_93.1⟩
    · skip
      have hP : va_P (gD g) vwCl [(hh, .inr (1, [.int (nI fa), .int (nI me), .int (nI 1), .int (nI (r1_5 + 1)), .int (nI r1_25), .int (nI ho), .int (nI en), .int (nI le), .int bo, .int (nI ma), .int (nI mS), .int (nI mE), .int (nI cl), .int (nI ke)])), (kb, .inr (3, [.int (nI 4096), .ref qb, .int (nI sb)])), (qb, .inl (gB g, nb, .inl fb))] H := hP
      have hD : va_D A [(hh, .inr (1, [.int (nI fa), .int (nI me), .int (nI 1), .int (nI (r1_5 + 1)), .int (nI r1_25), .int (nI ho), .int (nI en), .int (nI le), .int bo, .int (nI ma), .int (nI mS), .int (nI mE), .int (nI cl), .int (nI ke)])), (kb, .inr (3, [.int (nI 4096), .ref qb, .int (nI sb)])), (qb, .inl (gB g, nb, .inl fb))] := hD
      have hF_85 : ¬ (pMeth fb r1_5) := hF_85
      refine W.eq (g2 := F0 m 88 ls [.int (nI 0)]) rfl ?_
      refine lv_if_eq (tgt := 99) hx hb dX2_readRequestLine_88 (by decide) (fun _ => ?_) (fun c88 => absurd (by decide) c88)
      refine lv_aload_n hx hb dX2_readRequestLine_99 rfl (lv_at hl 2 rfl) ?_
      refine lv_iconst (v := nI 1) hx hb dX2_readRequestLine_100 (by decide) ?_
      refine va_put (D := gD g) (ci := 1) (v := .int (nI 1)) (ty := .boolean) (C := RX2) (T := TX2) (N := 14) hx hb hts hinX2 tyX2 tyX2_ok nmX2 hown hK hP hD hS 0 rfl rfl 0 (by decide) hf15 (fun _ h9 => h9) rfl (by decide +kernel) rfl rfl (Nat.le_of_ble_eq_true rfl) dX2_readRequestLine_101 (fun H locs hP hD hS => ?_)
      have hP : va_P (gD g) vwCl [(hh, .inr (1, [.int (nI 1), .int (nI me), .int (nI 1), .int (nI (r1_5 + 1)), .int (nI r1_25), .int (nI ho), .int (nI en), .int (nI le), .int bo, .int (nI ma), .int (nI mS), .int (nI mE), .int (nI cl), .int (nI ke)])), (kb, .inr (3, [.int (nI 4096), .ref qb, .int (nI sb)])), (qb, .inl (gB g, nb, .inl fb))] H := hP
      have hD : va_D A [(hh, .inr (1, [.int (nI 1), .int (nI me), .int (nI 1), .int (nI (r1_5 + 1)), .int (nI r1_25), .int (nI ho), .int (nI en), .int (nI le), .int bo, .int (nI ma), .int (nI mS), .int (nI mE), .int (nI cl), .int (nI ke)])), (kb, .inr (3, [.int (nI 4096), .ref qb, .int (nI sb)])), (qb, .inl (gB g, nb, .inl fb))] := hD
      refine lv_goto (tgt := 142) hx hb dX2_readRequestLine_104 (by decide) ?_
      refine ct_vret (w := [(hh, .inr (1, [.int (nI 1), .int (nI me), .int (nI 1), .int (nI (r1_5 + 1)), .int (nI r1_25), .int (nI ho), .int (nI en), .int (nI le), .int bo, .int (nI ma), .int (nI mS), .int (nI mE), .int (nI cl), .int (nI ke)])), (kb, .inr (3, [.int (nI 4096), .ref qb, .int (nI sb)])), (qb, .inl (gB g, nb, .inl fb))]) hx hb hr hlocks hQ hAe hK (hP.sub [0, 1, 2] rfl) (hD.sub [0, 1, 2] (by decide) rfl) hS (by omega) (by omega) dX2_readRequestLine_142 ?_
      exact ⟨1, me, 1, r1_5 + 1, r1_25, rfl, rfl, by first | exact reqS_F hF_5 hF_25 (by first | exact fun z => z.1.elim hF_42 hF_65 | exact fun z => hF_85 z.2.1 | exact fun z => hF_93 z.2.2) (by first | exact iteC_p hT_42 | exact iteC_n hF_42) | exact reqS_T hF_5 hF_25 ⟨(by first | exact Or.inl hT_42 | exact Or.inr hT_65), hT_85, hT_93⟩ (by first | exact iteC_p hT_42 | exact iteC_n hF_42) (by first | exact iteC_p hT_112 | exact (iteC_n hF_112).trans (iteC_p hT_131) | exact (iteC_n hF_112).trans (iteC_n hF_131)), by rcases hF_25.2 with z | z <;> omega, by first | exact fun z => absurd z (by decide) | exact fun _ => Nat.le_of_lt hT_93.1⟩
  · skip
    have hP : va_P (gD g) vwCl [(hh, .inr (1, [.int (nI fa), .int (nI me), .int (nI nw), .int (nI (r1_5 + 1)), .int (nI r1_25), .int (nI ho), .int (nI en), .int (nI le), .int bo, .int (nI ma), .int (nI mS), .int (nI mE), .int (nI cl), .int (nI ke)])), (kb, .inr (3, [.int (nI 4096), .ref qb, .int (nI sb)])), (qb, .inl (gB g, nb, .inl fb))] H := hP
    have hD : va_D A [(hh, .inr (1, [.int (nI fa), .int (nI me), .int (nI nw), .int (nI (r1_5 + 1)), .int (nI r1_25), .int (nI ho), .int (nI en), .int (nI le), .int bo, .int (nI ma), .int (nI mS), .int (nI mE), .int (nI cl), .int (nI ke)])), (kb, .inr (3, [.int (nI 4096), .ref qb, .int (nI sb)])), (qb, .inl (gB g, nb, .inl fb))] := hD
    have hF_42 : ¬ (pText fb (r1_25 + 1) e0 2) := hF_42
    refine W.eq (g2 := F0 m 45 ls [.int (nI 0), .ref hh]) rfl ?_
    refine va_put (D := gD g) (ci := 1) (v := .int (nI 0)) (ty := .boolean) (C := RX2) (T := TX2) (N := 14) hx hb hts hinX2 tyX2 tyX2_ok nmX2 hown hK hP hD hS 0 rfl rfl 2 (by decide) hf19 (fun _ h9 => h9) rfl (by decide +kernel) rfl rfl (Nat.le_of_ble_eq_true rfl) dX2_readRequestLine_45 (fun H locs hP hD hS => ?_)
    have hP : va_P (gD g) vwCl [(hh, .inr (1, [.int (nI fa), .int (nI me), .int (nI 0), .int (nI (r1_5 + 1)), .int (nI r1_25), .int (nI ho), .int (nI en), .int (nI le), .int bo, .int (nI ma), .int (nI mS), .int (nI mE), .int (nI cl), .int (nI ke)])), (kb, .inr (3, [.int (nI 4096), .ref qb, .int (nI sb)])), (qb, .inl (gB g, nb, .inl fb))] H := hP
    have hD : va_D A [(hh, .inr (1, [.int (nI fa), .int (nI me), .int (nI 0), .int (nI (r1_5 + 1)), .int (nI r1_25), .int (nI ho), .int (nI en), .int (nI le), .int bo, .int (nI ma), .int (nI mS), .int (nI mE), .int (nI cl), .int (nI ke)])), (kb, .inr (3, [.int (nI 4096), .ref qb, .int (nI sb)])), (qb, .inl (gB g, nb, .inl fb))] := hD
    refine lv_aload_n hx hb dX2_readRequestLine_48 rfl (lv_at hl 1 rfl) ?_
    refine va_get (D := gD g) (ci := 1) (v := .int (nI 0)) (C := RX2) (T := TX2) (N := 14) hx hb hts hinX2 hown hK hP 0 rfl rfl 2 (by decide) hf19 (fun _ h9 => h9) rfl dX2_readRequestLine_49 ?_
    refine lv_if_ne (tgt := 71) hx hb dX2_readRequestLine_52 (by decide) (fun c52 => absurd (by decide) c52) (fun _ => ?_)
    refine lv_aload_n hx hb dX2_readRequestLine_55 rfl (lv_at hl 2 rfl) ?_
    refine lv_aload_n hx hb dX2_readRequestLine_56 rfl (lv_at hl 1 rfl) ?_
    refine va_get (D := gD g) (ci := 1) (v := .int (nI r1_25)) (C := RX2) (T := TX2) (N := 14) hx hb hts hinX2 hown hK hP 0 rfl rfl 4 (by decide) hf25 (fun _ h9 => h9) rfl dX2_readRequestLine_57 ?_
    refine lv_iconst (v := nI 1) hx hb dX2_readRequestLine_60 (by decide) ?_
    refine q_iadd (v := nI (r1_25 + 1)) hx hb dX2_readRequestLine_61 (nI_add r1_25 1) ?_
    refine lv_iload_n hx hb dX2_readRequestLine_62 rfl (lv_at hl 3 rfl) ?_
    refine va_ldcS hx hb hown ((hG.1 3 (by decide)).2.2.2.2) dX2_readRequestLine_63 ?_
    refine ct_callV (wr := [(hh, .inr (1, [.int (nI fa), .int (nI me), .int (nI 0), .int (nI (r1_5 + 1)), .int (nI r1_25), .int (nI ho), .int (nI en), .int (nI le), .int bo, .int (nI ma), .int (nI mS), .int (nI mE), .int (nI cl), .int (nI ke)]))]) hx hb hml hown hts hK hP hD hS hA hG hl.1 (c_hasText l g kb qb 4096 nb sb fb (r1_25 + 1) e0 3 (by omega) (by omega) (by omega) (by omega) (by omega) (by first | assumption | decide)) (cwV 3 hts gX2_readRequestLine_X4_hasText rfl rfl rfl (by decide +kernel) ⟨Nat.le_of_ble_eq_true rfl, Nat.le_of_ble_eq_true rfl⟩) (va_recv hK hP (ci := 3) (q0 := 1) rfl rfl) rfl rfl (Nat.le_of_ble_eq_true rfl) dX2_readRequestLine_65 ⟨show 0 + 0 ≤ 0 by omega, show 0 + 0 ≤ 0 by omega⟩ [1, 2] [0] rfl rfl (by decide) (by decide) (by decide) (fun r_ w_ H locs hp_ hP hD hS => ?_)
    rcases hp_ with ⟨rfl, rfl, hT_65⟩ | ⟨rfl, rfl, hF_65⟩
    · skip
      have hP : va_P (gD g) vwCl [(hh, .inr (1, [.int (nI fa), .int (nI me), .int (nI 0), .int (nI (r1_5 + 1)), .int (nI r1_25), .int (nI ho), .int (nI en), .int (nI le), .int bo, .int (nI ma), .int (nI mS), .int (nI mE), .int (nI cl), .int (nI ke)])), (kb, .inr (3, [.int (nI 4096), .ref qb, .int (nI sb)])), (qb, .inl (gB g, nb, .inl fb))] H := hP
      have hD : va_D A [(hh, .inr (1, [.int (nI fa), .int (nI me), .int (nI 0), .int (nI (r1_5 + 1)), .int (nI r1_25), .int (nI ho), .int (nI en), .int (nI le), .int bo, .int (nI ma), .int (nI mS), .int (nI mE), .int (nI cl), .int (nI ke)])), (kb, .inr (3, [.int (nI 4096), .ref qb, .int (nI sb)])), (qb, .inl (gB g, nb, .inl fb))] := hD
      have hT_65 : pText fb (r1_25 + 1) e0 3 := hT_65
      refine W.eq (g2 := F0 m 68 ls [.int (nI 1)]) rfl ?_
      refine lv_if_eq (tgt := 75) hx hb dX2_readRequestLine_68 (by decide) (fun c68 => absurd c68 (by decide)) (fun _ => ?_)
      refine lv_iconst (v := nI 1) hx hb dX2_readRequestLine_71 (by decide) ?_
      refine lv_goto (tgt := 76) hx hb dX2_readRequestLine_72 (by decide) ?_
      refine lv_istore (lv' := [(4, .int (nI 1)), (3, .int (nI r1_5)), (0, .ref hh), (1, .ref kb), (2, .int (nI e0))]) hx hb dX2_readRequestLine_76 hl (by decide) rfl (fun ls hl => ?_)
      refine lv_iload hx hb dX2_readRequestLine_78 (lv_at hl 0 rfl) ?_
      refine lv_if_eq (tgt := 99) hx hb dX2_readRequestLine_80 (by decide) (fun c80 => absurd c80 (by decide)) (fun _ => ?_)
      refine lv_aload_n hx hb dX2_readRequestLine_83 rfl (lv_at hl 3 rfl) ?_
      refine lv_iload_n hx hb dX2_readRequestLine_84 rfl (lv_at hl 1 rfl) ?_
      refine ct_callS (wr := [(hh, .inr (1, [.int (nI fa), .int (nI me), .int (nI 0), .int (nI (r1_5 + 1)), .int (nI r1_25), .int (nI ho), .int (nI en), .int (nI le), .int bo, .int (nI ma), .int (nI mS), .int (nI mE), .int (nI cl), .int (nI ke)]))]) hx hb hml hown hts hK hP hD hS hA hG hl.1 (c_isMethod l g kb qb nb sb fb r1_5 (by omega) (by omega) (by omega)) (va_cwS 2 hts gX2_readRequestLine_X2_isMethod rfl rfl rfl (by decide +kernel) ⟨Nat.le_of_ble_eq_true rfl, Nat.le_of_ble_eq_true rfl⟩) rfl rfl (Nat.le_of_ble_eq_true rfl) dX2_readRequestLine_85 ⟨show 0 + 0 ≤ 0 by omega, show 0 + 0 ≤ 0 by omega⟩ [1, 2] [0] rfl rfl (by decide) (by decide) (by decide) (fun r_ w_ H locs hp_ hP hD hS => ?_)
      rcases hp_ with ⟨rfl, rfl, hT_85⟩ | ⟨rfl, rfl, hF_85⟩
      · skip
        have hP : va_P (gD g) vwCl [(hh, .inr (1, [.int (nI fa), .int (nI me), .int (nI 0), .int (nI (r1_5 + 1)), .int (nI r1_25), .int (nI ho), .int (nI en), .int (nI le), .int bo, .int (nI ma), .int (nI mS), .int (nI mE), .int (nI cl), .int (nI ke)])), (kb, .inr (3, [.int (nI 4096), .ref qb, .int (nI sb)])), (qb, .inl (gB g, nb, .inl fb))] H := hP
        have hD : va_D A [(hh, .inr (1, [.int (nI fa), .int (nI me), .int (nI 0), .int (nI (r1_5 + 1)), .int (nI r1_25), .int (nI ho), .int (nI en), .int (nI le), .int bo, .int (nI ma), .int (nI mS), .int (nI mE), .int (nI cl), .int (nI ke)])), (kb, .inr (3, [.int (nI 4096), .ref qb, .int (nI sb)])), (qb, .inl (gB g, nb, .inl fb))] := hD
        have hT_85 : pMeth fb r1_5 := hT_85
        refine W.eq (g2 := F0 m 88 ls [.int (nI 1)]) rfl ?_
        refine lv_if_eq (tgt := 99) hx hb dX2_readRequestLine_88 (by decide) (fun c88 => absurd c88 (by decide)) (fun _ => ?_)
        refine lv_aload_n hx hb dX2_readRequestLine_91 rfl (lv_at hl 2 rfl) ?_
        refine lv_aload_n hx hb dX2_readRequestLine_92 rfl (lv_at hl 3 rfl) ?_
        refine ct_callV (wr := []) hx hb hml hown hts hK hP hD hS hA hG hl.1 (c_isTarget l g hh fa me 0 (r1_5 + 1) r1_25 ho en le bo ma mS mE cl ke kb qb nb sb fb (by omega) (by omega) (by omega) (by omega)) (cwV 1 hts gX2_readRequestLine_X2_isTarget rfl rfl rfl (by decide +kernel) ⟨Nat.le_of_ble_eq_true rfl, Nat.le_of_ble_eq_true rfl⟩) (va_recv hK hP (ci := 1) (q0 := 0) rfl rfl) rfl rfl (Nat.le_of_ble_eq_true rfl) dX2_readRequestLine_93 ⟨show 0 + 0 ≤ 0 by omega, show 0 + 0 ≤ 0 by omega⟩ [0, 1, 2] [] rfl rfl (by decide) (by decide) (by decide) (fun r_ w_ H locs hp_ hP hD hS => ?_)
        rcases hp_ with ⟨rfl, rfl, hT_93⟩ | ⟨rfl, rfl, hF_93⟩
        · skip
          have hP : va_P (gD g) vwCl [(hh, .inr (1, [.int (nI fa), .int (nI me), .int (nI 0), .int (nI ((r1_5 + 1))), .int (nI r1_25), .int (nI ho), .int (nI en), .int (nI le), .int bo, .int (nI ma), .int (nI mS), .int (nI mE), .int (nI cl), .int (nI ke)])), (kb, .inr (3, [.int (nI 4096), .ref qb, .int (nI sb)])), (qb, .inl (gB g, nb, .inl fb))] H := hP
          have hD : va_D A [(hh, .inr (1, [.int (nI fa), .int (nI me), .int (nI 0), .int (nI ((r1_5 + 1))), .int (nI r1_25), .int (nI ho), .int (nI en), .int (nI le), .int bo, .int (nI ma), .int (nI mS), .int (nI mE), .int (nI cl), .int (nI ke)])), (kb, .inr (3, [.int (nI 4096), .ref qb, .int (nI sb)])), (qb, .inl (gB g, nb, .inl fb))] := hD
          have hT_93 : pTarg fb (r1_5 + 1) r1_25 := hT_93
          refine W.eq (g2 := F0 m 96 ls [.int (nI 1)]) rfl ?_
          refine lv_if_ne (tgt := 107) hx hb dX2_readRequestLine_96 (by decide) (fun _ => ?_) (fun c96 => absurd c96 (by decide))
          refine lv_aload_n hx hb dX2_readRequestLine_107 rfl (lv_at hl 3 rfl) ?_
          refine lv_iconst (v := nI 0) hx hb dX2_readRequestLine_108 (by decide) ?_
          refine lv_iload_n hx hb dX2_readRequestLine_109 rfl (lv_at hl 1 rfl) ?_
          refine va_ldcS hx hb hown ((hG.1 4 (by decide)).2.2.2.2) dX2_readRequestLine_110 ?_
          refine ct_callV (wr := [(hh, .inr (1, [.int (nI fa), .int (nI me), .int (nI 0), .int (nI ((r1_5 + 1))), .int (nI r1_25), .int (nI ho), .int (nI en), .int (nI le), .int bo, .int (nI ma), .int (nI mS), .int (nI mE), .int (nI cl), .int (nI ke)]))]) hx hb hml hown hts hK hP hD hS hA hG hl.1 (c_hasText l g kb qb 4096 nb sb fb 0 r1_5 4 (by omega) (by omega) (by omega) (by omega) (by omega) (by first | assumption | decide)) (cwV 3 hts gX2_readRequestLine_X4_hasText rfl rfl rfl (by decide +kernel) ⟨Nat.le_of_ble_eq_true rfl, Nat.le_of_ble_eq_true rfl⟩) (va_recv hK hP (ci := 3) (q0 := 1) rfl rfl) rfl rfl (Nat.le_of_ble_eq_true rfl) dX2_readRequestLine_112 ⟨show 0 + 0 ≤ 0 by omega, show 0 + 0 ≤ 0 by omega⟩ [1, 2] [0] rfl rfl (by decide) (by decide) (by decide) (fun r_ w_ H locs hp_ hP hD hS => ?_)
          rcases hp_ with ⟨rfl, rfl, hT_112⟩ | ⟨rfl, rfl, hF_112⟩
          · skip
            have hP : va_P (gD g) vwCl [(hh, .inr (1, [.int (nI fa), .int (nI me), .int (nI 0), .int (nI ((r1_5 + 1))), .int (nI r1_25), .int (nI ho), .int (nI en), .int (nI le), .int bo, .int (nI ma), .int (nI mS), .int (nI mE), .int (nI cl), .int (nI ke)])), (kb, .inr (3, [.int (nI 4096), .ref qb, .int (nI sb)])), (qb, .inl (gB g, nb, .inl fb))] H := hP
            have hD : va_D A [(hh, .inr (1, [.int (nI fa), .int (nI me), .int (nI 0), .int (nI ((r1_5 + 1))), .int (nI r1_25), .int (nI ho), .int (nI en), .int (nI le), .int bo, .int (nI ma), .int (nI mS), .int (nI mE), .int (nI cl), .int (nI ke)])), (kb, .inr (3, [.int (nI 4096), .ref qb, .int (nI sb)])), (qb, .inl (gB g, nb, .inl fb))] := hD
            have hT_112 : pText fb 0 r1_5 4 := hT_112
            refine W.eq (g2 := F0 m 115 ls [.int (nI 1)]) rfl ?_
            refine lv_if_eq (tgt := 126) hx hb dX2_readRequestLine_115 (by decide) (fun c115 => absurd c115 (by decide)) (fun _ => ?_)
            refine lv_aload_n hx hb dX2_readRequestLine_118 rfl (lv_at hl 2 rfl) ?_
            refine lv_iconst (v := nI 1) hx hb dX2_readRequestLine_119 (by decide) ?_
            refine va_put (D := gD g) (ci := 1) (v := .int (nI 1)) (ty := .int) (C := RX2) (T := TX2) (N := 14) hx hb hts hinX2 tyX2 tyX2_ok nmX2 hown hK hP hD hS 0 rfl rfl 1 (by decide) hf11 (fun _ h9 => h9) rfl (by decide +kernel) rfl rfl (Nat.le_of_ble_eq_true rfl) dX2_readRequestLine_120 (fun H locs hP hD hS => ?_)
            have hP : va_P (gD g) vwCl [(hh, .inr (1, [.int (nI fa), .int (nI 1), .int (nI 0), .int (nI ((r1_5 + 1))), .int (nI r1_25), .int (nI ho), .int (nI en), .int (nI le), .int bo, .int (nI ma), .int (nI mS), .int (nI mE), .int (nI cl), .int (nI ke)])), (kb, .inr (3, [.int (nI 4096), .ref qb, .int (nI sb)])), (qb, .inl (gB g, nb, .inl fb))] H := hP
            have hD : va_D A [(hh, .inr (1, [.int (nI fa), .int (nI 1), .int (nI 0), .int (nI ((r1_5 + 1))), .int (nI r1_25), .int (nI ho), .int (nI en), .int (nI le), .int bo, .int (nI ma), .int (nI mS), .int (nI mE), .int (nI cl), .int (nI ke)])), (kb, .inr (3, [.int (nI 4096), .ref qb, .int (nI sb)])), (qb, .inl (gB g, nb, .inl fb))] := hD
            refine lv_goto (tgt := 142) hx hb dX2_readRequestLine_123 (by decide) ?_
            refine ct_vret (w := [(hh, .inr (1, [.int (nI fa), .int (nI 1), .int (nI 0), .int (nI ((r1_5 + 1))), .int (nI r1_25), .int (nI ho), .int (nI en), .int (nI le), .int bo, .int (nI ma), .int (nI mS), .int (nI mE), .int (nI cl), .int (nI ke)])), (kb, .inr (3, [.int (nI 4096), .ref qb, .int (nI sb)])), (qb, .inl (gB g, nb, .inl fb))]) hx hb hr hlocks hQ hAe hK (hP.sub [0, 1, 2] rfl) (hD.sub [0, 1, 2] (by decide) rfl) hS (by omega) (by omega) dX2_readRequestLine_142 ?_
            exact ⟨fa, 1, 0, (r1_5 + 1), r1_25, rfl, rfl, by first | exact reqS_F hF_5 hF_25 (by first | exact fun z => z.1.elim hF_42 hF_65 | exact fun z => hF_85 z.2.1 | exact fun z => hF_93 z.2.2) (by first | exact iteC_p hT_42 | exact iteC_n hF_42) | exact reqS_T hF_5 hF_25 ⟨(by first | exact Or.inl hT_42 | exact Or.inr hT_65), hT_85, hT_93⟩ (by first | exact iteC_p hT_42 | exact iteC_n hF_42) (by first | exact iteC_p hT_112 | exact (iteC_n hF_112).trans (iteC_p hT_131) | exact (iteC_n hF_112).trans (iteC_n hF_131)), by rcases hF_25.2 with z | z <;> omega, by first | exact fun z => absurd z (by decide) | exact fun _ => Nat.le_of_lt hT_93.1⟩
          · skip
            have hP : va_P (gD g) vwCl [(hh, .inr (1, [.int (nI fa), .int (nI me), .int (nI 0), .int (nI ((r1_5 + 1))), .int (nI r1_25), .int (nI ho), .int (nI en), .int (nI le), .int bo, .int (nI ma), .int (nI mS), .int (nI mE), .int (nI cl), .int (nI ke)])), (kb, .inr (3, [.int (nI 4096), .ref qb, .int (nI sb)])), (qb, .inl (gB g, nb, .inl fb))] H := hP
            have hD : va_D A [(hh, .inr (1, [.int (nI fa), .int (nI me), .int (nI 0), .int (nI ((r1_5 + 1))), .int (nI r1_25), .int (nI ho), .int (nI en), .int (nI le), .int bo, .int (nI ma), .int (nI mS), .int (nI mE), .int (nI cl), .int (nI ke)])), (kb, .inr (3, [.int (nI 4096), .ref qb, .int (nI sb)])), (qb, .inl (gB g, nb, .inl fb))] := hD
            have hF_112 : ¬ (pText fb 0 r1_5 4) := hF_112
            refine W.eq (g2 := F0 m 115 ls [.int (nI 0)]) rfl ?_
            refine lv_if_eq (tgt := 126) hx hb dX2_readRequestLine_115 (by decide) (fun _ => ?_) (fun c115 => absurd (by decide) c115)
            refine lv_aload_n hx hb dX2_readRequestLine_126 rfl (lv_at hl 3 rfl) ?_
            refine lv_iconst (v := nI 0) hx hb dX2_readRequestLine_127 (by decide) ?_
            refine lv_iload_n hx hb dX2_readRequestLine_128 rfl (lv_at hl 1 rfl) ?_
            refine va_ldcS hx hb hown ((hG.1 5 (by decide)).2.2.2.2) dX2_readRequestLine_129 ?_
            refine ct_callV (wr := [(hh, .inr (1, [.int (nI fa), .int (nI me), .int (nI 0), .int (nI ((r1_5 + 1))), .int (nI r1_25), .int (nI ho), .int (nI en), .int (nI le), .int bo, .int (nI ma), .int (nI mS), .int (nI mE), .int (nI cl), .int (nI ke)]))]) hx hb hml hown hts hK hP hD hS hA hG hl.1 (c_hasText l g kb qb 4096 nb sb fb 0 r1_5 5 (by omega) (by omega) (by omega) (by omega) (by omega) (by first | assumption | decide)) (cwV 3 hts gX2_readRequestLine_X4_hasText rfl rfl rfl (by decide +kernel) ⟨Nat.le_of_ble_eq_true rfl, Nat.le_of_ble_eq_true rfl⟩) (va_recv hK hP (ci := 3) (q0 := 1) rfl rfl) rfl rfl (Nat.le_of_ble_eq_true rfl) dX2_readRequestLine_131 ⟨show 0 + 0 ≤ 0 by omega, show 0 + 0 ≤ 0 by omega⟩ [1, 2] [0] rfl rfl (by decide) (by decide) (by decide) (fun r_ w_ H locs hp_ hP hD hS => ?_)
            rcases hp_ with ⟨rfl, rfl, hT_131⟩ | ⟨rfl, rfl, hF_131⟩
            · skip
              have hP : va_P (gD g) vwCl [(hh, .inr (1, [.int (nI fa), .int (nI me), .int (nI 0), .int (nI ((r1_5 + 1))), .int (nI r1_25), .int (nI ho), .int (nI en), .int (nI le), .int bo, .int (nI ma), .int (nI mS), .int (nI mE), .int (nI cl), .int (nI ke)])), (kb, .inr (3, [.int (nI 4096), .ref qb, .int (nI sb)])), (qb, .inl (gB g, nb, .inl fb))] H := hP
              have hD : va_D A [(hh, .inr (1, [.int (nI fa), .int (nI me), .int (nI 0), .int (nI ((r1_5 + 1))), .int (nI r1_25), .int (nI ho), .int (nI en), .int (nI le), .int bo, .int (nI ma), .int (nI mS), .int (nI mE), .int (nI cl), .int (nI ke)])), (kb, .inr (3, [.int (nI 4096), .ref qb, .int (nI sb)])), (qb, .inl (gB g, nb, .inl fb))] := hD
              have hT_131 : pText fb 0 r1_5 5 := hT_131
              refine W.eq (g2 := F0 m 134 ls [.int (nI 1)]) rfl ?_
              refine lv_if_ne (tgt := 142) hx hb dX2_readRequestLine_134 (by decide) (fun _ => ?_) (fun c134 => absurd c134 (by decide))
              refine ct_vret (w := [(hh, .inr (1, [.int (nI fa), .int (nI me), .int (nI 0), .int (nI ((r1_5 + 1))), .int (nI r1_25), .int (nI ho), .int (nI en), .int (nI le), .int bo, .int (nI ma), .int (nI mS), .int (nI mE), .int (nI cl), .int (nI ke)])), (kb, .inr (3, [.int (nI 4096), .ref qb, .int (nI sb)])), (qb, .inl (gB g, nb, .inl fb))]) hx hb hr hlocks hQ hAe hK (hP.sub [0, 1, 2] rfl) (hD.sub [0, 1, 2] (by decide) rfl) hS (by omega) (by omega) dX2_readRequestLine_142 ?_
              exact ⟨fa, me, 0, (r1_5 + 1), r1_25, rfl, rfl, by first | exact reqS_F hF_5 hF_25 (by first | exact fun z => z.1.elim hF_42 hF_65 | exact fun z => hF_85 z.2.1 | exact fun z => hF_93 z.2.2) (by first | exact iteC_p hT_42 | exact iteC_n hF_42) | exact reqS_T hF_5 hF_25 ⟨(by first | exact Or.inl hT_42 | exact Or.inr hT_65), hT_85, hT_93⟩ (by first | exact iteC_p hT_42 | exact iteC_n hF_42) (by first | exact iteC_p hT_112 | exact (iteC_n hF_112).trans (iteC_p hT_131) | exact (iteC_n hF_112).trans (iteC_n hF_131)), by rcases hF_25.2 with z | z <;> omega, by first | exact fun z => absurd z (by decide) | exact fun _ => Nat.le_of_lt hT_93.1⟩
            · skip
              have hP : va_P (gD g) vwCl [(hh, .inr (1, [.int (nI fa), .int (nI me), .int (nI 0), .int (nI ((r1_5 + 1))), .int (nI r1_25), .int (nI ho), .int (nI en), .int (nI le), .int bo, .int (nI ma), .int (nI mS), .int (nI mE), .int (nI cl), .int (nI ke)])), (kb, .inr (3, [.int (nI 4096), .ref qb, .int (nI sb)])), (qb, .inl (gB g, nb, .inl fb))] H := hP
              have hD : va_D A [(hh, .inr (1, [.int (nI fa), .int (nI me), .int (nI 0), .int (nI ((r1_5 + 1))), .int (nI r1_25), .int (nI ho), .int (nI en), .int (nI le), .int bo, .int (nI ma), .int (nI mS), .int (nI mE), .int (nI cl), .int (nI ke)])), (kb, .inr (3, [.int (nI 4096), .ref qb, .int (nI sb)])), (qb, .inl (gB g, nb, .inl fb))] := hD
              have hF_131 : ¬ (pText fb 0 r1_5 5) := hF_131
              refine W.eq (g2 := F0 m 134 ls [.int (nI 0)]) rfl ?_
              refine lv_if_ne (tgt := 142) hx hb dX2_readRequestLine_134 (by decide) (fun c134 => absurd (by decide) c134) (fun _ => ?_)
              refine lv_aload_n hx hb dX2_readRequestLine_137 rfl (lv_at hl 2 rfl) ?_
              refine lv_iconst (v := nI 2) hx hb dX2_readRequestLine_138 (by decide) ?_
              refine va_put (D := gD g) (ci := 1) (v := .int (nI 2)) (ty := .int) (C := RX2) (T := TX2) (N := 14) hx hb hts hinX2 tyX2 tyX2_ok nmX2 hown hK hP hD hS 0 rfl rfl 1 (by decide) hf11 (fun _ h9 => h9) rfl (by decide +kernel) rfl rfl (Nat.le_of_ble_eq_true rfl) dX2_readRequestLine_139 (fun H locs hP hD hS => ?_)
              have hP : va_P (gD g) vwCl [(hh, .inr (1, [.int (nI fa), .int (nI 2), .int (nI 0), .int (nI ((r1_5 + 1))), .int (nI r1_25), .int (nI ho), .int (nI en), .int (nI le), .int bo, .int (nI ma), .int (nI mS), .int (nI mE), .int (nI cl), .int (nI ke)])), (kb, .inr (3, [.int (nI 4096), .ref qb, .int (nI sb)])), (qb, .inl (gB g, nb, .inl fb))] H := hP
              have hD : va_D A [(hh, .inr (1, [.int (nI fa), .int (nI 2), .int (nI 0), .int (nI ((r1_5 + 1))), .int (nI r1_25), .int (nI ho), .int (nI en), .int (nI le), .int bo, .int (nI ma), .int (nI mS), .int (nI mE), .int (nI cl), .int (nI ke)])), (kb, .inr (3, [.int (nI 4096), .ref qb, .int (nI sb)])), (qb, .inl (gB g, nb, .inl fb))] := hD
              refine ct_vret (w := [(hh, .inr (1, [.int (nI fa), .int (nI 2), .int (nI 0), .int (nI ((r1_5 + 1))), .int (nI r1_25), .int (nI ho), .int (nI en), .int (nI le), .int bo, .int (nI ma), .int (nI mS), .int (nI mE), .int (nI cl), .int (nI ke)])), (kb, .inr (3, [.int (nI 4096), .ref qb, .int (nI sb)])), (qb, .inl (gB g, nb, .inl fb))]) hx hb hr hlocks hQ hAe hK (hP.sub [0, 1, 2] rfl) (hD.sub [0, 1, 2] (by decide) rfl) hS (by omega) (by omega) dX2_readRequestLine_142 ?_
              exact ⟨fa, 2, 0, (r1_5 + 1), r1_25, rfl, rfl, by first | exact reqS_F hF_5 hF_25 (by first | exact fun z => z.1.elim hF_42 hF_65 | exact fun z => hF_85 z.2.1 | exact fun z => hF_93 z.2.2) (by first | exact iteC_p hT_42 | exact iteC_n hF_42) | exact reqS_T hF_5 hF_25 ⟨(by first | exact Or.inl hT_42 | exact Or.inr hT_65), hT_85, hT_93⟩ (by first | exact iteC_p hT_42 | exact iteC_n hF_42) (by first | exact iteC_p hT_112 | exact (iteC_n hF_112).trans (iteC_p hT_131) | exact (iteC_n hF_112).trans (iteC_n hF_131)), by rcases hF_25.2 with z | z <;> omega, by first | exact fun z => absurd z (by decide) | exact fun _ => Nat.le_of_lt hT_93.1⟩
        · skip
          have hP : va_P (gD g) vwCl [(hh, .inr (1, [.int (nI fa), .int (nI me), .int (nI 0), .int (nI ((r1_5 + 1))), .int (nI r1_25), .int (nI ho), .int (nI en), .int (nI le), .int bo, .int (nI ma), .int (nI mS), .int (nI mE), .int (nI cl), .int (nI ke)])), (kb, .inr (3, [.int (nI 4096), .ref qb, .int (nI sb)])), (qb, .inl (gB g, nb, .inl fb))] H := hP
          have hD : va_D A [(hh, .inr (1, [.int (nI fa), .int (nI me), .int (nI 0), .int (nI ((r1_5 + 1))), .int (nI r1_25), .int (nI ho), .int (nI en), .int (nI le), .int bo, .int (nI ma), .int (nI mS), .int (nI mE), .int (nI cl), .int (nI ke)])), (kb, .inr (3, [.int (nI 4096), .ref qb, .int (nI sb)])), (qb, .inl (gB g, nb, .inl fb))] := hD
          have hF_93 : ¬ (pTarg fb (r1_5 + 1) r1_25) := hF_93
          refine W.eq (g2 := F0 m 96 ls [.int (nI 0)]) rfl ?_
          refine lv_if_ne (tgt := 107) hx hb dX2_readRequestLine_96 (by decide) (fun c96 => absurd (by decide) c96) (fun _ => ?_)
          refine lv_aload_n hx hb dX2_readRequestLine_99 rfl (lv_at hl 2 rfl) ?_
          refine lv_iconst (v := nI 1) hx hb dX2_readRequestLine_100 (by decide) ?_
          refine va_put (D := gD g) (ci := 1) (v := .int (nI 1)) (ty := .boolean) (C := RX2) (T := TX2) (N := 14) hx hb hts hinX2 tyX2 tyX2_ok nmX2 hown hK hP hD hS 0 rfl rfl 0 (by decide) hf15 (fun _ h9 => h9) rfl (by decide +kernel) rfl rfl (Nat.le_of_ble_eq_true rfl) dX2_readRequestLine_101 (fun H locs hP hD hS => ?_)
          have hP : va_P (gD g) vwCl [(hh, .inr (1, [.int (nI 1), .int (nI me), .int (nI 0), .int (nI ((r1_5 + 1))), .int (nI r1_25), .int (nI ho), .int (nI en), .int (nI le), .int bo, .int (nI ma), .int (nI mS), .int (nI mE), .int (nI cl), .int (nI ke)])), (kb, .inr (3, [.int (nI 4096), .ref qb, .int (nI sb)])), (qb, .inl (gB g, nb, .inl fb))] H := hP
          have hD : va_D A [(hh, .inr (1, [.int (nI 1), .int (nI me), .int (nI 0), .int (nI ((r1_5 + 1))), .int (nI r1_25), .int (nI ho), .int (nI en), .int (nI le), .int bo, .int (nI ma), .int (nI mS), .int (nI mE), .int (nI cl), .int (nI ke)])), (kb, .inr (3, [.int (nI 4096), .ref qb, .int (nI sb)])), (qb, .inl (gB g, nb, .inl fb))] := hD
          refine lv_goto (tgt := 142) hx hb dX2_readRequestLine_104 (by decide) ?_
          refine ct_vret (w := [(hh, .inr (1, [.int (nI 1), .int (nI me), .int (nI 0), .int (nI ((r1_5 + 1))), .int (nI r1_25), .int (nI ho), .int (nI en), .int (nI le), .int bo, .int (nI ma), .int (nI mS), .int (nI mE), .int (nI cl), .int (nI ke)])), (kb, .inr (3, [.int (nI 4096), .ref qb, .int (nI sb)])), (qb, .inl (gB g, nb, .inl fb))]) hx hb hr hlocks hQ hAe hK (hP.sub [0, 1, 2] rfl) (hD.sub [0, 1, 2] (by decide) rfl) hS (by omega) (by omega) dX2_readRequestLine_142 ?_
          exact ⟨1, me, 0, (r1_5 + 1), r1_25, rfl, rfl, by first | exact reqS_F hF_5 hF_25 (by first | exact fun z => z.1.elim hF_42 hF_65 | exact fun z => hF_85 z.2.1 | exact fun z => hF_93 z.2.2) (by first | exact iteC_p hT_42 | exact iteC_n hF_42) | exact reqS_T hF_5 hF_25 ⟨(by first | exact Or.inl hT_42 | exact Or.inr hT_65), hT_85, hT_93⟩ (by first | exact iteC_p hT_42 | exact iteC_n hF_42) (by first | exact iteC_p hT_112 | exact (iteC_n hF_112).trans (iteC_p hT_131) | exact (iteC_n hF_112).trans (iteC_n hF_131)), by rcases hF_25.2 with z | z <;> omega, by first | exact fun z => absurd z (by decide) | exact fun _ => Nat.le_of_lt hT_93.1⟩
      · skip
        have hP : va_P (gD g) vwCl [(hh, .inr (1, [.int (nI fa), .int (nI me), .int (nI 0), .int (nI (r1_5 + 1)), .int (nI r1_25), .int (nI ho), .int (nI en), .int (nI le), .int bo, .int (nI ma), .int (nI mS), .int (nI mE), .int (nI cl), .int (nI ke)])), (kb, .inr (3, [.int (nI 4096), .ref qb, .int (nI sb)])), (qb, .inl (gB g, nb, .inl fb))] H := hP
        have hD : va_D A [(hh, .inr (1, [.int (nI fa), .int (nI me), .int (nI 0), .int (nI (r1_5 + 1)), .int (nI r1_25), .int (nI ho), .int (nI en), .int (nI le), .int bo, .int (nI ma), .int (nI mS), .int (nI mE), .int (nI cl), .int (nI ke)])), (kb, .inr (3, [.int (nI 4096), .ref qb, .int (nI sb)])), (qb, .inl (gB g, nb, .inl fb))] := hD
        have hF_85 : ¬ (pMeth fb r1_5) := hF_85
        refine W.eq (g2 := F0 m 88 ls [.int (nI 0)]) rfl ?_
        refine lv_if_eq (tgt := 99) hx hb dX2_readRequestLine_88 (by decide) (fun _ => ?_) (fun c88 => absurd (by decide) c88)
        refine lv_aload_n hx hb dX2_readRequestLine_99 rfl (lv_at hl 2 rfl) ?_
        refine lv_iconst (v := nI 1) hx hb dX2_readRequestLine_100 (by decide) ?_
        refine va_put (D := gD g) (ci := 1) (v := .int (nI 1)) (ty := .boolean) (C := RX2) (T := TX2) (N := 14) hx hb hts hinX2 tyX2 tyX2_ok nmX2 hown hK hP hD hS 0 rfl rfl 0 (by decide) hf15 (fun _ h9 => h9) rfl (by decide +kernel) rfl rfl (Nat.le_of_ble_eq_true rfl) dX2_readRequestLine_101 (fun H locs hP hD hS => ?_)
        have hP : va_P (gD g) vwCl [(hh, .inr (1, [.int (nI 1), .int (nI me), .int (nI 0), .int (nI (r1_5 + 1)), .int (nI r1_25), .int (nI ho), .int (nI en), .int (nI le), .int bo, .int (nI ma), .int (nI mS), .int (nI mE), .int (nI cl), .int (nI ke)])), (kb, .inr (3, [.int (nI 4096), .ref qb, .int (nI sb)])), (qb, .inl (gB g, nb, .inl fb))] H := hP
        have hD : va_D A [(hh, .inr (1, [.int (nI 1), .int (nI me), .int (nI 0), .int (nI (r1_5 + 1)), .int (nI r1_25), .int (nI ho), .int (nI en), .int (nI le), .int bo, .int (nI ma), .int (nI mS), .int (nI mE), .int (nI cl), .int (nI ke)])), (kb, .inr (3, [.int (nI 4096), .ref qb, .int (nI sb)])), (qb, .inl (gB g, nb, .inl fb))] := hD
        refine lv_goto (tgt := 142) hx hb dX2_readRequestLine_104 (by decide) ?_
        refine ct_vret (w := [(hh, .inr (1, [.int (nI 1), .int (nI me), .int (nI 0), .int (nI (r1_5 + 1)), .int (nI r1_25), .int (nI ho), .int (nI en), .int (nI le), .int bo, .int (nI ma), .int (nI mS), .int (nI mE), .int (nI cl), .int (nI ke)])), (kb, .inr (3, [.int (nI 4096), .ref qb, .int (nI sb)])), (qb, .inl (gB g, nb, .inl fb))]) hx hb hr hlocks hQ hAe hK (hP.sub [0, 1, 2] rfl) (hD.sub [0, 1, 2] (by decide) rfl) hS (by omega) (by omega) dX2_readRequestLine_142 ?_
        exact ⟨1, me, 0, r1_5 + 1, r1_25, rfl, rfl, by first | exact reqS_F hF_5 hF_25 (by first | exact fun z => z.1.elim hF_42 hF_65 | exact fun z => hF_85 z.2.1 | exact fun z => hF_93 z.2.2) (by first | exact iteC_p hT_42 | exact iteC_n hF_42) | exact reqS_T hF_5 hF_25 ⟨(by first | exact Or.inl hT_42 | exact Or.inr hT_65), hT_85, hT_93⟩ (by first | exact iteC_p hT_42 | exact iteC_n hF_42) (by first | exact iteC_p hT_112 | exact (iteC_n hF_112).trans (iteC_p hT_131) | exact (iteC_n hF_112).trans (iteC_n hF_131)), by rcases hF_25.2 with z | z <;> omega, by first | exact fun z => absurd z (by decide) | exact fun _ => Nat.le_of_lt hT_93.1⟩
    · skip
      have hP : va_P (gD g) vwCl [(hh, .inr (1, [.int (nI fa), .int (nI me), .int (nI 0), .int (nI (r1_5 + 1)), .int (nI r1_25), .int (nI ho), .int (nI en), .int (nI le), .int bo, .int (nI ma), .int (nI mS), .int (nI mE), .int (nI cl), .int (nI ke)])), (kb, .inr (3, [.int (nI 4096), .ref qb, .int (nI sb)])), (qb, .inl (gB g, nb, .inl fb))] H := hP
      have hD : va_D A [(hh, .inr (1, [.int (nI fa), .int (nI me), .int (nI 0), .int (nI (r1_5 + 1)), .int (nI r1_25), .int (nI ho), .int (nI en), .int (nI le), .int bo, .int (nI ma), .int (nI mS), .int (nI mE), .int (nI cl), .int (nI ke)])), (kb, .inr (3, [.int (nI 4096), .ref qb, .int (nI sb)])), (qb, .inl (gB g, nb, .inl fb))] := hD
      have hF_65 : ¬ (pText fb (r1_25 + 1) e0 3) := hF_65
      refine W.eq (g2 := F0 m 68 ls [.int (nI 0)]) rfl ?_
      refine lv_if_eq (tgt := 75) hx hb dX2_readRequestLine_68 (by decide) (fun _ => ?_) (fun c68 => absurd (by decide) c68)
      refine lv_iconst (v := nI 0) hx hb dX2_readRequestLine_75 (by decide) ?_
      refine lv_istore (lv' := [(4, .int (nI 0)), (3, .int (nI r1_5)), (0, .ref hh), (1, .ref kb), (2, .int (nI e0))]) hx hb dX2_readRequestLine_76 hl (by decide) rfl (fun ls hl => ?_)
      refine lv_iload hx hb dX2_readRequestLine_78 (lv_at hl 0 rfl) ?_
      refine lv_if_eq (tgt := 99) hx hb dX2_readRequestLine_80 (by decide) (fun _ => ?_) (fun c80 => absurd (by decide) c80)
      refine lv_aload_n hx hb dX2_readRequestLine_99 rfl (lv_at hl 2 rfl) ?_
      refine lv_iconst (v := nI 1) hx hb dX2_readRequestLine_100 (by decide) ?_
      refine va_put (D := gD g) (ci := 1) (v := .int (nI 1)) (ty := .boolean) (C := RX2) (T := TX2) (N := 14) hx hb hts hinX2 tyX2 tyX2_ok nmX2 hown hK hP hD hS 0 rfl rfl 0 (by decide) hf15 (fun _ h9 => h9) rfl (by decide +kernel) rfl rfl (Nat.le_of_ble_eq_true rfl) dX2_readRequestLine_101 (fun H locs hP hD hS => ?_)
      have hP : va_P (gD g) vwCl [(hh, .inr (1, [.int (nI 1), .int (nI me), .int (nI 0), .int (nI (r1_5 + 1)), .int (nI r1_25), .int (nI ho), .int (nI en), .int (nI le), .int bo, .int (nI ma), .int (nI mS), .int (nI mE), .int (nI cl), .int (nI ke)])), (kb, .inr (3, [.int (nI 4096), .ref qb, .int (nI sb)])), (qb, .inl (gB g, nb, .inl fb))] H := hP
      have hD : va_D A [(hh, .inr (1, [.int (nI 1), .int (nI me), .int (nI 0), .int (nI (r1_5 + 1)), .int (nI r1_25), .int (nI ho), .int (nI en), .int (nI le), .int bo, .int (nI ma), .int (nI mS), .int (nI mE), .int (nI cl), .int (nI ke)])), (kb, .inr (3, [.int (nI 4096), .ref qb, .int (nI sb)])), (qb, .inl (gB g, nb, .inl fb))] := hD
      refine lv_goto (tgt := 142) hx hb dX2_readRequestLine_104 (by decide) ?_
      refine ct_vret (w := [(hh, .inr (1, [.int (nI 1), .int (nI me), .int (nI 0), .int (nI (r1_5 + 1)), .int (nI r1_25), .int (nI ho), .int (nI en), .int (nI le), .int bo, .int (nI ma), .int (nI mS), .int (nI mE), .int (nI cl), .int (nI ke)])), (kb, .inr (3, [.int (nI 4096), .ref qb, .int (nI sb)])), (qb, .inl (gB g, nb, .inl fb))]) hx hb hr hlocks hQ hAe hK (hP.sub [0, 1, 2] rfl) (hD.sub [0, 1, 2] (by decide) rfl) hS (by omega) (by omega) dX2_readRequestLine_142 ?_
      exact ⟨1, me, 0, r1_5 + 1, r1_25, rfl, rfl, by first | exact reqS_F hF_5 hF_25 (by first | exact fun z => z.1.elim hF_42 hF_65 | exact fun z => hF_85 z.2.1 | exact fun z => hF_93 z.2.2) (by first | exact iteC_p hT_42 | exact iteC_n hF_42) | exact reqS_T hF_5 hF_25 ⟨(by first | exact Or.inl hT_42 | exact Or.inr hT_65), hT_85, hT_93⟩ (by first | exact iteC_p hT_42 | exact iteC_n hF_42) (by first | exact iteC_p hT_112 | exact (iteC_n hF_112).trans (iteC_p hT_131) | exact (iteC_n hF_112).trans (iteC_n hF_131)), by rcases hF_25.2 with z | z <;> omega, by first | exact fun z => absurd z (by decide) | exact fun _ => Nat.le_of_lt hT_93.1⟩

set_option maxHeartbeats 4000000 in
set_option maxRecDepth 100000 in
theorem c_hRead (l : Launch) (g : GT) (hh : Nat) (fa : Nat) (me : Nat) (nw : Nat) (tS : Nat) (tE : Nat) (ho : Nat) (en : Nat) (le : Nat) (bo : Int32) (ma : Nat) (mS : Nat) (mE : Nat) (cl : Nat) (ke : Nat) (kb : Nat) (qb : Nat) (nb : Nat) (sb : Nat) (fb : Nat → Int32) (n0 : Nat) (hs1 : sb ≤ nb) (hs2 : nb ≤ 4096) (hns : n0 ≤ sb) : CT l g yX2_read wsX2_read ({ frames := 8, cells := 0, slots := 0, locals := 188 } : Room) [.ref hh, .ref kb, .int (nI n0)] [(hh, .inr (1, [.int (nI fa), .int (nI me), .int (nI nw), .int (nI tS), .int (nI tE), .int (nI ho), .int (nI en), .int (nI le), .int bo, .int (nI ma), .int (nI mS), .int (nI mE), .int (nI cl), .int (nI ke)])), (kb, .inr (3, [.int (nI 4096), .ref qb, .int (nI sb)])), (qb, .inl (gB g, nb, .inl fb))] (fun r w => (∃ (fa1 : Nat) (me1 : Nat) (nw1 : Nat) (tS1 : Nat) (tE1 : Nat) (ho1 : Nat) (en1 : Nat) (le1 : Nat) (bo1 : Int32) (ma1 : Nat) (mS1 : Nat) (mE1 : Nat) (cl1 : Nat) (ke1 : Nat), r = none ∧ w = [(hh, .inr (1, [.int (nI fa1), .int (nI me1), .int (nI nw1), .int (nI tS1), .int (nI tE1), .int (nI ho1), .int (nI en1), .int (nI le1), .int bo1, .int (nI ma1), .int (nI mS1), .int (nI mE1), .int (nI cl1), .int (nI ke1)])), (kb, .inr (3, [.int (nI 4096), .ref qb, .int (nI sb)])), (qb, .inl (gB g, nb, .inl fb))] ∧ ((fa1, me1, nw1, tS1, tE1, ho1, en1, le1, bo1, ma1, mS1, mE1, cl1, ke1) = hdF fb n0 (n0 + 1) 0 0 hz0) ∧ (fa1 ≤ 1 ∧ nw1 ≤ 1 ∧ me1 ≤ 2 ∧ cl1 ≤ 1 ∧ ke1 ≤ 1 ∧ tS1 ≤ tE1 + 1 ∧ tE1 ≤ sb ∧ ho1 ≤ 4096 ∧ en1 ≤ 4096 ∧ le1 ≤ 4096 ∧ ma1 ≤ 4096) ∧ (ma1 = 1 → mS1 ≤ mE1 ∧ mE1 ≤ sb) ∧ (fa1 = 0 → tS1 ≤ tE1))) (0) (0) := by
  refine ct_of (cc := cX2_read) (maxL := 6) (ret := none) (by decide) rfl (Nat.le_of_ble_eq_true rfl) ?_
  intro p e s m args below meth c A Q hx hb hr hml hown hts hlocks hnam hAe hQ hA hG hK hP hD hS ls hl
  have hl : lv_has ls 6 [(0, .ref hh), (1, .ref kb), (2, .int (nI n0))] := hl
  have hown : s.vm.findClass RX2 = some m.cls := hown
  refine lv_aload_n hx hb dX2_read_0 rfl (lv_at hl 0 rfl) ?_
  refine ct_callV (wr := [(kb, .inr (3, [.int (nI 4096), .ref qb, .int (nI sb)])), (qb, .inl (gB g, nb, .inl fb))]) hx hb hml hown hts hK hP hD hS hA hG hl.1 (c_hForget l g hh fa me nw tS tE ho en le bo ma mS mE cl ke ) (cwV 0 hts gX2_read_X2_forget rfl rfl rfl (by decide +kernel) ⟨Nat.le_of_ble_eq_true rfl, Nat.le_of_ble_eq_true rfl⟩) (va_recv hK hP (ci := 1) (q0 := 0) rfl rfl) rfl rfl (Nat.le_of_ble_eq_true rfl) dX2_read_1 ⟨show 0 + 0 ≤ 0 by omega, show 0 + 0 ≤ 0 by omega⟩ [0] [1, 2] rfl rfl (by decide) (by decide) (by decide) (fun r_ w_ H locs hp_ hP hD hS => ?_)
  obtain ⟨rfl, rfl⟩ := hp_
  have hP : va_P (gD g) vwCl [(kb, .inr (3, [.int (nI 4096), .ref qb, .int (nI sb)])), (qb, .inl (gB g, nb, .inl fb)), (hh, .inr (1, [.int (nI 0), .int (nI 0), .int (nI 0), .int (nI 0), .int (nI 0), .int (nI 0), .int (nI 0), .int (nI 0), .int (nI 0), .int (nI 0), .int (nI 0), .int (nI 0), .int (nI 0), .int (nI 0)]))] H := hP
  have hD : va_D A [(kb, .inr (3, [.int (nI 4096), .ref qb, .int (nI sb)])), (qb, .inl (gB g, nb, .inl fb)), (hh, .inr (1, [.int (nI 0), .int (nI 0), .int (nI 0), .int (nI 0), .int (nI 0), .int (nI 0), .int (nI 0), .int (nI 0), .int (nI 0), .int (nI 0), .int (nI 0), .int (nI 0), .int (nI 0), .int (nI 0)]))] := hD
  refine W.eq (g2 := F0 m 4 ls []) rfl ?_
  refine lv_iconst (v := nI 0) hx hb dX2_read_4 (by decide) ?_
  refine lv_istore_n (lv' := [(3, .int (nI 0)), (0, .ref hh), (1, .ref kb), (2, .int (nI n0))]) hx hb dX2_read_5 rfl hl (by decide) rfl (fun ls hl => ?_)
  refine lv_iconst (v := nI 0) hx hb dX2_read_6 (by decide) ?_
  refine lv_istore (lv' := [(4, .int (nI 0)), (3, .int (nI 0)), (0, .ref hh), (1, .ref kb), (2, .int (nI n0))]) hx hb dX2_read_7 hl (by decide) rfl (fun ls hl => ?_)
  have K9 : ∀ (N_ : Nat) (b0 : Nat) (i : Nat) (fa1 : Nat) (me1 : Nat) (nw1 : Nat) (tS1 : Nat) (tE1 : Nat) (ho1 : Nat) (en1 : Nat) (le1 : Nat) (bo1 : Int32) (ma1 : Nat) (mS1 : Nat) (mE1 : Nat) (cl1 : Nat) (ke1 : Nat), (b0 ≤ i) → (i ≤ n0) → (fa1 ≤ 1 ∧ nw1 ≤ 1 ∧ me1 ≤ 2 ∧ cl1 ≤ 1 ∧ ke1 ≤ 1 ∧ tS1 ≤ tE1 + 1 ∧ tE1 ≤ sb ∧ ho1 ≤ i ∧ en1 ≤ i ∧ le1 ≤ i ∧ ma1 ≤ i) → (ma1 = 1 → mS1 ≤ mE1 ∧ mE1 ≤ sb) → (fa1 = 0 → tS1 ≤ tE1) → (∃ m, n0 < i + m ∧ hdF fb n0 (n0 + 1) 0 0 hz0 = hdF fb n0 m b0 i (fa1, me1, nw1, tS1, tE1, ho1, en1, le1, bo1, ma1, mS1, mE1, cl1, ke1)) → (n0 - i) < N_ → ∀ (H : Heap) (locs : List Loc) (ls : Array Slot), va_P (gD g) vwCl [(kb, .inr (3, [.int (nI 4096), .ref qb, .int (nI sb)])), (qb, .inl (gB g, nb, .inl fb)), (hh, .inr (1, [.int (nI fa1), .int (nI me1), .int (nI nw1), .int (nI tS1), .int (nI tE1), .int (nI ho1), .int (nI en1), .int (nI le1), .int bo1, .int (nI ma1), .int (nI mS1), .int (nI mE1), .int (nI cl1), .int (nI ke1)]))] H → va_D A [(kb, .inr (3, [.int (nI 4096), .ref qb, .int (nI sb)])), (qb, .inl (gB g, nb, .inl fb)), (hh, .inr (1, [.int (nI fa1), .int (nI me1), .int (nI nw1), .int (nI tS1), .int (nI tE1), .int (nI ho1), .int (nI en1), .int (nI le1), .int bo1, .int (nI ma1), .int (nI mS1), .int (nI mE1), .int (nI cl1), .int (nI ke1)]))] → va_S A s.heap H locs → lv_has ls 6 [(0, .ref hh), (1, .ref kb), (2, .int (nI n0)), (3, .int (nI b0)), (4, .int (nI i))] → W p l e ({ frames := 8, cells := 0, slots := 0, locals := 188 } : Room) s m args below meth c H locs (0) (0) Q (F0 m 9 ls []) := by
    intro N_
    induction N_ with
    | zero => intro b0 i fa1 me1 nw1 tS1 tE1 ho1 en1 le1 bo1 ma1 mS1 mE1 cl1 ke1 hbi hin hbd hmm htt hE hm_; exact absurd hm_ (Nat.not_lt_zero _)
    | succ N_ ih_K9 =>
      intro b0 i fa1 me1 nw1 tS1 tE1 ho1 en1 le1 bo1 ma1 mS1 mE1 cl1 ke1 hbi hin hbd hmm htt hE hm_ H locs ls hP hD hS hl
      refine lv_iload hx hb dX2_read_9 (lv_at hl 4 rfl) ?_
      refine lv_iload_n hx hb dX2_read_11 rfl (lv_at hl 2 rfl) ?_
      refine lv_icmp_ge (tgt := 74) hx hb dX2_read_12 (by decide) (fun c12 => ?_) (fun c12 => ?_)
      · skip
        have c12 : n0 ≤ i := (nI_leI (a := n0) (b := i) (by omega) (by omega)).mp c12
        refine ct_vret (w := [(hh, .inr (1, [.int (nI fa1), .int (nI me1), .int (nI nw1), .int (nI tS1), .int (nI tE1), .int (nI ho1), .int (nI en1), .int (nI le1), .int bo1, .int (nI ma1), .int (nI mS1), .int (nI mE1), .int (nI cl1), .int (nI ke1)])), (kb, .inr (3, [.int (nI 4096), .ref qb, .int (nI sb)])), (qb, .inl (gB g, nb, .inl fb))]) hx hb hr hlocks hQ hAe hK (hP.sub [2, 0, 1] rfl) (hD.sub [2, 0, 1] (by decide) rfl) hS (by omega) (by omega) dX2_read_74 ?_
        exact ⟨fa1, me1, nw1, tS1, tE1, ho1, en1, le1, bo1, ma1, mS1, mE1, cl1, ke1, rfl, rfl, by (obtain ⟨m, h1, h2⟩ := hE; exact (h2.trans (hdF_0 (by omega))).symm), by omega, by exact hmm, by exact htt⟩
      · skip
        have c12 : ¬ (n0 ≤ i) := fun z => c12 ((nI_leI (a := n0) (b := i) (by omega) (by omega)).mpr z)
        refine lv_aload_n hx hb dX2_read_15 rfl (lv_at hl 1 rfl) ?_
        refine lv_iload hx hb dX2_read_16 (lv_at hl 4 rfl) ?_
        refine ct_callV (wr := [(hh, .inr (1, [.int (nI fa1), .int (nI me1), .int (nI nw1), .int (nI tS1), .int (nI tE1), .int (nI ho1), .int (nI en1), .int (nI le1), .int bo1, .int (nI ma1), .int (nI mS1), .int (nI mE1), .int (nI cl1), .int (nI ke1)]))]) hx hb hml hown hts hK hP hD hS hA hG hl.1 (c_getIn l g kb qb 4096 nb sb fb i (by omega) (by omega) (by omega)) (cwV 1 hts gX2_read_X4_get rfl rfl rfl (by decide +kernel) ⟨Nat.le_of_ble_eq_true rfl, Nat.le_of_ble_eq_true rfl⟩) (va_recv hK hP (ci := 3) (q0 := 0) rfl rfl) rfl rfl (Nat.le_of_ble_eq_true rfl) dX2_read_18 ⟨show 0 + 0 ≤ 0 by omega, show 0 + 0 ≤ 0 by omega⟩ [0, 1] [2] rfl rfl (by decide) (by decide) (by decide) (fun r_ w_ H locs hp_ hP hD hS => ?_)
        obtain ⟨rfl, rfl⟩ := hp_
        have hP : va_P (gD g) vwCl [(hh, .inr (1, [.int (nI fa1), .int (nI me1), .int (nI nw1), .int (nI tS1), .int (nI tE1), .int (nI ho1), .int (nI en1), .int (nI le1), .int bo1, .int (nI ma1), .int (nI mS1), .int (nI mE1), .int (nI cl1), .int (nI ke1)])), (kb, .inr (3, [.int (nI 4096), .ref qb, .int (nI sb)])), (qb, .inl (gB g, nb, .inl fb))] H := hP
        have hD : va_D A [(hh, .inr (1, [.int (nI fa1), .int (nI me1), .int (nI nw1), .int (nI tS1), .int (nI tE1), .int (nI ho1), .int (nI en1), .int (nI le1), .int bo1, .int (nI ma1), .int (nI mS1), .int (nI mE1), .int (nI cl1), .int (nI ke1)])), (kb, .inr (3, [.int (nI 4096), .ref qb, .int (nI sb)])), (qb, .inl (gB g, nb, .inl fb))] := hD
        refine W.eq (g2 := F0 m 21 ls [.int (fb i &&& 255)]) rfl ?_
        refine lv_bipush (v := nI 10) hx hb dX2_read_21 (by decide) ?_
        refine lv_icmp_ne (tgt := 68) hx hb dX2_read_23 (by decide) (fun c23 => ?_) (fun c23 => ?_)
        · skip
          refine lv_iinc (v := nI (i + 1)) (lv' := [(4, .int (nI (i + 1))), (0, .ref hh), (1, .ref kb), (2, .int (nI n0)), (3, .int (nI b0))]) hx hb dX2_read_68 hl (k := 4) rfl (nI_inc i 1) (by decide) rfl (fun ls hl => ?_)
          refine lv_goto (tgt := 9) hx hb dX2_read_71 (by decide) ?_
          exact ih_K9 b0 (i + 1) fa1 me1 nw1 tS1 tE1 ho1 en1 le1 bo1 ma1 mS1 mE1 cl1 ke1 (by omega) (by omega) (by omega) (by first | exact hmm | exact fun z => absurd z (by decide) | (intro z; first | exact hmm z | (rcases eb_60.2.2.2.2.2.2 z with w | w <;> first | exact w | (rw [w.2.1, w.2.2]; exact hmm w.1)))) (by first | exact htt | exact fun z => htt (ef0_60 z) | exact et_43) (by (obtain ⟨m, h1, h2⟩ := hE; obtain ⟨m, rfl⟩ : ∃ k, m = k + 1 := ⟨m - 1, by omega⟩; first | exact ⟨m, by omega, h2.trans (hdF_2 (by omega) c23)⟩ | exact ⟨m, by omega, h2.trans (hdF_1 (by omega) c23 (by rw [lnE_eq hL_30]; first | exact (if_pos c36).trans en2_43.symm | exact (if_neg c36).trans ((if_pos (by omega)).trans en2_60.symm) | exact (if_neg c36).trans (if_neg (by omega))))⟩)) (by omega) _ _ _ (hP.sub [1, 2, 0] rfl) (hD.sub [1, 2, 0] (by decide) rfl) hS (lv_sub hl [1, 2, 3, 4, 0] rfl)
        · skip
          refine lv_aload_n hx hb dX2_read_26 rfl (lv_at hl 1 rfl) ?_
          refine lv_iload_n hx hb dX2_read_27 rfl (lv_at hl 3 rfl) ?_
          refine lv_iload hx hb dX2_read_28 (lv_at hl 4 rfl) ?_
          refine ct_callV (wr := [(hh, .inr (1, [.int (nI fa1), .int (nI me1), .int (nI nw1), .int (nI tS1), .int (nI tE1), .int (nI ho1), .int (nI en1), .int (nI le1), .int bo1, .int (nI ma1), .int (nI mS1), .int (nI mE1), .int (nI cl1), .int (nI ke1)]))]) hx hb hml hown hts hK hP hD hS hA hG hl.1 (c_lineEnd l g kb qb 4096 nb sb fb b0 i (by omega) (by omega) (by omega) (by omega)) (cwV 2 hts gX2_read_X4_lineEnd rfl rfl rfl (by decide +kernel) ⟨Nat.le_of_ble_eq_true rfl, Nat.le_of_ble_eq_true rfl⟩) (va_recv hK hP (ci := 3) (q0 := 1) rfl rfl) rfl rfl (Nat.le_of_ble_eq_true rfl) dX2_read_30 ⟨show 0 + 0 ≤ 0 by omega, show 0 + 0 ≤ 0 by omega⟩ [1, 2] [0] rfl rfl (by decide) (by decide) (by decide) (fun r_ w_ H locs hp_ hP hD hS => ?_)
          obtain ⟨r1_30, rfl, rfl, hL_30⟩ := hp_
          have hP : va_P (gD g) vwCl [(hh, .inr (1, [.int (nI fa1), .int (nI me1), .int (nI nw1), .int (nI tS1), .int (nI tE1), .int (nI ho1), .int (nI en1), .int (nI le1), .int bo1, .int (nI ma1), .int (nI mS1), .int (nI mE1), .int (nI cl1), .int (nI ke1)])), (kb, .inr (3, [.int (nI 4096), .ref qb, .int (nI sb)])), (qb, .inl (gB g, nb, .inl fb))] H := hP
          have hD : va_D A [(hh, .inr (1, [.int (nI fa1), .int (nI me1), .int (nI nw1), .int (nI tS1), .int (nI tE1), .int (nI ho1), .int (nI en1), .int (nI le1), .int bo1, .int (nI ma1), .int (nI mS1), .int (nI mE1), .int (nI cl1), .int (nI ke1)])), (kb, .inr (3, [.int (nI 4096), .ref qb, .int (nI sb)])), (qb, .inl (gB g, nb, .inl fb))] := hD
          have hL_30 : (r1_30 = i ∧ ¬ (b0 < i ∧ fb (i - 1) &&& 255 = nI 13)) ∨ (r1_30 + 1 = i ∧ b0 < i ∧ fb (i - 1) &&& 255 = nI 13) := hL_30
          refine W.eq (g2 := F0 m 33 ls [.int (nI r1_30)]) rfl ?_
          refine lv_istore (lv' := [(5, .int (nI r1_30)), (0, .ref hh), (1, .ref kb), (2, .int (nI n0)), (3, .int (nI b0)), (4, .int (nI i))]) hx hb dX2_read_33 hl (by decide) rfl (fun ls hl => ?_)
          refine lv_iload_n hx hb dX2_read_35 rfl (lv_at hl 4 rfl) ?_
          refine lv_if_ne (tgt := 49) hx hb dX2_read_36 (by decide) (fun c36 => ?_) (fun c36 => ?_)
          · skip
            have c36 : ¬ (b0 = 0) := fun z => c36 ((nI_eq (a := b0) (b := 0) (by omega) (by omega)).mpr z)
            refine lv_iload hx hb dX2_read_49 (lv_at hl 0 rfl) ?_
            refine lv_iload_n hx hb dX2_read_51 rfl (lv_at hl 4 rfl) ?_
            refine lv_icmp_le (tgt := 63) hx hb dX2_read_52 (by decide) (fun c52 => ?_) (fun c52 => ?_)
            · skip
              have c52 : r1_30 ≤ b0 := (nI_leI (a := r1_30) (b := b0) (by omega) (by omega)).mp c52
              refine lv_iload hx hb dX2_read_63 (lv_at hl 5 rfl) ?_
              refine lv_iconst (v := nI 1) hx hb dX2_read_65 (by decide) ?_
              refine q_iadd (v := nI (i + 1)) hx hb dX2_read_66 (nI_add i 1) ?_
              refine lv_istore_n (lv' := [(3, .int (nI (i + 1))), (5, .int (nI r1_30)), (0, .ref hh), (1, .ref kb), (2, .int (nI n0)), (4, .int (nI i))]) hx hb dX2_read_67 rfl hl (by decide) rfl (fun ls hl => ?_)
              refine lv_iinc (v := nI (i + 1)) (lv' := [(4, .int (nI (i + 1))), (3, .int (nI (i + 1))), (5, .int (nI r1_30)), (0, .ref hh), (1, .ref kb), (2, .int (nI n0))]) hx hb dX2_read_68 hl (k := 5) rfl (nI_inc i 1) (by decide) rfl (fun ls hl => ?_)
              refine lv_goto (tgt := 9) hx hb dX2_read_71 (by decide) ?_
              exact ih_K9 (i + 1) (i + 1) fa1 me1 nw1 tS1 tE1 ho1 en1 le1 bo1 ma1 mS1 mE1 cl1 ke1 (by omega) (by omega) (by omega) (by first | exact hmm | exact fun z => absurd z (by decide) | (intro z; first | exact hmm z | (rcases eb_60.2.2.2.2.2.2 z with w | w <;> first | exact w | (rw [w.2.1, w.2.2]; exact hmm w.1)))) (by first | exact htt | exact fun z => htt (ef0_60 z) | exact et_43) (by (obtain ⟨m, h1, h2⟩ := hE; obtain ⟨m, rfl⟩ : ∃ k, m = k + 1 := ⟨m - 1, by omega⟩; first | exact ⟨m, by omega, h2.trans (hdF_2 (by omega) c23)⟩ | exact ⟨m, by omega, h2.trans (hdF_1 (by omega) c23 (by rw [lnE_eq hL_30]; first | exact (if_pos c36).trans en2_43.symm | exact (if_neg c36).trans ((if_pos (by omega)).trans en2_60.symm) | exact (if_neg c36).trans (if_neg (by omega))))⟩)) (by omega) _ _ _ (hP.sub [1, 2, 0] rfl) (hD.sub [1, 2, 0] (by decide) rfl) hS (lv_sub hl [3, 4, 5, 1, 0] rfl)
            · skip
              have c52 : ¬ (r1_30 ≤ b0) := fun z => c52 ((nI_leI (a := r1_30) (b := b0) (by omega) (by omega)).mpr z)
              refine lv_aload_n hx hb dX2_read_55 rfl (lv_at hl 1 rfl) ?_
              refine lv_aload_n hx hb dX2_read_56 rfl (lv_at hl 2 rfl) ?_
              refine lv_iload_n hx hb dX2_read_57 rfl (lv_at hl 4 rfl) ?_
              refine lv_iload hx hb dX2_read_58 (lv_at hl 0 rfl) ?_
              refine ct_callV (wr := []) hx hb hml hown hts hK hP hD hS hA hG hl.1 (c_readField l g hh fa1 me1 nw1 tS1 tE1 ho1 en1 le1 bo1 ma1 mS1 mE1 cl1 ke1 kb qb nb sb fb b0 r1_30 (by omega) (by omega) (by omega) (by omega) (by omega) (by omega) (by omega) (by omega)) (cwV 3 hts gX2_read_X2_readField rfl rfl rfl (by decide +kernel) ⟨Nat.le_of_ble_eq_true rfl, Nat.le_of_ble_eq_true rfl⟩) (va_recv hK hP (ci := 1) (q0 := 0) rfl rfl) rfl rfl (Nat.le_of_ble_eq_true rfl) dX2_read_60 ⟨show 0 + 0 ≤ 0 by omega, show 0 + 0 ≤ 0 by omega⟩ [0, 1, 2] [] rfl rfl (by decide) (by decide) (by decide) (fun r_ w_ H locs hp_ hP hD hS => ?_)
              obtain ⟨fa1_60, ho1_60, en1_60, le1_60, bo1_60, ma1_60, mS1_60, mE1_60, cl1_60, ke1_60, rfl, rfl, en2_60, efa_60, ef0_60, eb_60⟩ := hp_
              have hP : va_P (gD g) vwCl [(hh, .inr (1, [.int (nI fa1_60), .int (nI me1), .int (nI nw1), .int (nI tS1), .int (nI tE1), .int (nI ho1_60), .int (nI en1_60), .int (nI le1_60), .int bo1_60, .int (nI ma1_60), .int (nI mS1_60), .int (nI mE1_60), .int (nI cl1_60), .int (nI ke1_60)])), (kb, .inr (3, [.int (nI 4096), .ref qb, .int (nI sb)])), (qb, .inl (gB g, nb, .inl fb))] H := hP
              have hD : va_D A [(hh, .inr (1, [.int (nI fa1_60), .int (nI me1), .int (nI nw1), .int (nI tS1), .int (nI tE1), .int (nI ho1_60), .int (nI en1_60), .int (nI le1_60), .int bo1_60, .int (nI ma1_60), .int (nI mS1_60), .int (nI mE1_60), .int (nI cl1_60), .int (nI ke1_60)])), (kb, .inr (3, [.int (nI 4096), .ref qb, .int (nI sb)])), (qb, .inl (gB g, nb, .inl fb))] := hD
              have en2_60 : (fa1_60, me1, nw1, tS1, tE1, ho1_60, en1_60, le1_60, bo1_60, ma1_60, mS1_60, mE1_60, cl1_60, ke1_60) = lineS fb b0 r1_30 (fa1, me1, nw1, tS1, tE1, ho1, en1, le1, bo1, ma1, mS1, mE1, cl1, ke1) := en2_60
              have efa_60 : fa1_60 ≤ 1 := efa_60
              have ef0_60 : fa1_60 = 0 → fa1 = 0 := ef0_60
              have eb_60 : ho1_60 ≤ ho1 + 1 ∧ en1_60 ≤ en1 + 1 ∧ le1_60 ≤ le1 + 1 ∧ ma1_60 ≤ ma1 + 1 ∧ cl1_60 ≤ 1 ∧ ke1_60 ≤ 1 ∧ (ma1_60 = 1 → (ma1 = 1 ∧ mS1_60 = mS1 ∧ mE1_60 = mE1) ∨ (mS1_60 ≤ mE1_60 ∧ mE1_60 ≤ sb)) := eb_60
              refine W.eq (g2 := F0 m 63 ls []) rfl ?_
              refine lv_iload hx hb dX2_read_63 (lv_at hl 5 rfl) ?_
              refine lv_iconst (v := nI 1) hx hb dX2_read_65 (by decide) ?_
              refine q_iadd (v := nI (i + 1)) hx hb dX2_read_66 (nI_add i 1) ?_
              refine lv_istore_n (lv' := [(3, .int (nI (i + 1))), (5, .int (nI r1_30)), (0, .ref hh), (1, .ref kb), (2, .int (nI n0)), (4, .int (nI i))]) hx hb dX2_read_67 rfl hl (by decide) rfl (fun ls hl => ?_)
              refine lv_iinc (v := nI (i + 1)) (lv' := [(4, .int (nI (i + 1))), (3, .int (nI (i + 1))), (5, .int (nI r1_30)), (0, .ref hh), (1, .ref kb), (2, .int (nI n0))]) hx hb dX2_read_68 hl (k := 5) rfl (nI_inc i 1) (by decide) rfl (fun ls hl => ?_)
              refine lv_goto (tgt := 9) hx hb dX2_read_71 (by decide) ?_
              exact ih_K9 (i + 1) (i + 1) fa1_60 me1 nw1 tS1 tE1 ho1_60 en1_60 le1_60 bo1_60 ma1_60 mS1_60 mE1_60 cl1_60 ke1_60 (by omega) (by omega) (by omega) (by first | exact hmm | exact fun z => absurd z (by decide) | (intro z; first | exact hmm z | (rcases eb_60.2.2.2.2.2.2 z with w | w <;> first | exact w | (rw [w.2.1, w.2.2]; exact hmm w.1)))) (by first | exact htt | exact fun z => htt (ef0_60 z) | exact et_43) (by (obtain ⟨m, h1, h2⟩ := hE; obtain ⟨m, rfl⟩ : ∃ k, m = k + 1 := ⟨m - 1, by omega⟩; first | exact ⟨m, by omega, h2.trans (hdF_2 (by omega) c23)⟩ | exact ⟨m, by omega, h2.trans (hdF_1 (by omega) c23 (by rw [lnE_eq hL_30]; first | exact (if_pos c36).trans en2_43.symm | exact (if_neg c36).trans ((if_pos (by omega)).trans en2_60.symm) | exact (if_neg c36).trans (if_neg (by omega))))⟩)) (by omega) _ _ _ (hP.sub [1, 2, 0] rfl) (hD.sub [1, 2, 0] (by decide) rfl) hS (lv_sub hl [3, 4, 5, 1, 0] rfl)
          · skip
            have c36 : b0 = 0 := (nI_eq (a := b0) (b := 0) (by omega) (by omega)).mp c36
            refine lv_aload_n hx hb dX2_read_39 rfl (lv_at hl 1 rfl) ?_
            refine lv_aload_n hx hb dX2_read_40 rfl (lv_at hl 2 rfl) ?_
            refine lv_iload hx hb dX2_read_41 (lv_at hl 0 rfl) ?_
            refine ct_callV (wr := []) hx hb hml hown hts hK hP hD hS hA hG hl.1 (c_readReq l g hh fa1 me1 nw1 tS1 tE1 ho1 en1 le1 bo1 ma1 mS1 mE1 cl1 ke1 kb qb nb sb fb r1_30 (by omega) (by omega) (by omega) (by omega) (by omega) (by omega) (by omega) (by omega)) (cwV 2 hts gX2_read_X2_readRequestLine rfl rfl rfl (by decide +kernel) ⟨Nat.le_of_ble_eq_true rfl, Nat.le_of_ble_eq_true rfl⟩) (va_recv hK hP (ci := 1) (q0 := 0) rfl rfl) rfl rfl (Nat.le_of_ble_eq_true rfl) dX2_read_43 ⟨show 0 + 0 ≤ 0 by omega, show 0 + 0 ≤ 0 by omega⟩ [0, 1, 2] [] rfl rfl (by decide) (by decide) (by decide) (fun r_ w_ H locs hp_ hP hD hS => ?_)
            obtain ⟨fa1_43, me1_43, nw1_43, tS1_43, tE1_43, rfl, rfl, en2_43, eb_43, et_43⟩ := hp_
            have hP : va_P (gD g) vwCl [(hh, .inr (1, [.int (nI fa1_43), .int (nI me1_43), .int (nI nw1_43), .int (nI tS1_43), .int (nI tE1_43), .int (nI ho1), .int (nI en1), .int (nI le1), .int bo1, .int (nI ma1), .int (nI mS1), .int (nI mE1), .int (nI cl1), .int (nI ke1)])), (kb, .inr (3, [.int (nI 4096), .ref qb, .int (nI sb)])), (qb, .inl (gB g, nb, .inl fb))] H := hP
            have hD : va_D A [(hh, .inr (1, [.int (nI fa1_43), .int (nI me1_43), .int (nI nw1_43), .int (nI tS1_43), .int (nI tE1_43), .int (nI ho1), .int (nI en1), .int (nI le1), .int bo1, .int (nI ma1), .int (nI mS1), .int (nI mE1), .int (nI cl1), .int (nI ke1)])), (kb, .inr (3, [.int (nI 4096), .ref qb, .int (nI sb)])), (qb, .inl (gB g, nb, .inl fb))] := hD
            have en2_43 : (fa1_43, me1_43, nw1_43, tS1_43, tE1_43, ho1, en1, le1, bo1, ma1, mS1, mE1, cl1, ke1) = reqS fb r1_30 (fa1, me1, nw1, tS1, tE1, ho1, en1, le1, bo1, ma1, mS1, mE1, cl1, ke1) := en2_43
            have eb_43 : fa1_43 ≤ 1 ∧ nw1_43 ≤ 1 ∧ me1_43 ≤ 2 ∧ tS1_43 ≤ tE1_43 + 1 ∧ tE1_43 ≤ r1_30 := eb_43
            have et_43 : fa1_43 = 0 → tS1_43 ≤ tE1_43 := et_43
            refine W.eq (g2 := F0 m 46 ls []) rfl ?_
            refine lv_goto (tgt := 63) hx hb dX2_read_46 (by decide) ?_
            refine lv_iload hx hb dX2_read_63 (lv_at hl 5 rfl) ?_
            refine lv_iconst (v := nI 1) hx hb dX2_read_65 (by decide) ?_
            refine q_iadd (v := nI (i + 1)) hx hb dX2_read_66 (nI_add i 1) ?_
            refine lv_istore_n (lv' := [(3, .int (nI (i + 1))), (5, .int (nI r1_30)), (0, .ref hh), (1, .ref kb), (2, .int (nI n0)), (4, .int (nI i))]) hx hb dX2_read_67 rfl hl (by decide) rfl (fun ls hl => ?_)
            refine lv_iinc (v := nI (i + 1)) (lv' := [(4, .int (nI (i + 1))), (3, .int (nI (i + 1))), (5, .int (nI r1_30)), (0, .ref hh), (1, .ref kb), (2, .int (nI n0))]) hx hb dX2_read_68 hl (k := 5) rfl (nI_inc i 1) (by decide) rfl (fun ls hl => ?_)
            refine lv_goto (tgt := 9) hx hb dX2_read_71 (by decide) ?_
            exact ih_K9 (i + 1) (i + 1) fa1_43 me1_43 nw1_43 tS1_43 tE1_43 ho1 en1 le1 bo1 ma1 mS1 mE1 cl1 ke1 (by omega) (by omega) (by omega) (by first | exact hmm | exact fun z => absurd z (by decide) | (intro z; first | exact hmm z | (rcases eb_60.2.2.2.2.2.2 z with w | w <;> first | exact w | (rw [w.2.1, w.2.2]; exact hmm w.1)))) (by first | exact htt | exact fun z => htt (ef0_60 z) | exact et_43) (by (obtain ⟨m, h1, h2⟩ := hE; obtain ⟨m, rfl⟩ : ∃ k, m = k + 1 := ⟨m - 1, by omega⟩; first | exact ⟨m, by omega, h2.trans (hdF_2 (by omega) c23)⟩ | exact ⟨m, by omega, h2.trans (hdF_1 (by omega) c23 (by rw [lnE_eq hL_30]; first | exact (if_pos c36).trans en2_43.symm | exact (if_neg c36).trans ((if_pos (by omega)).trans en2_60.symm) | exact (if_neg c36).trans (if_neg (by omega))))⟩)) (by omega) _ _ _ (hP.sub [1, 2, 0] rfl) (hD.sub [1, 2, 0] (by decide) rfl) hS (lv_sub hl [3, 4, 5, 1, 0] rfl)
  exact K9 ((n0 - 0) + 1) 0 0 0 0 0 0 0 0 0 0 (nI 0) 0 0 0 0 0 (by omega) (by omega) (by refine ⟨by omega, by omega, by omega, by omega, by omega, by omega, by omega, by omega, by omega, by omega, by omega⟩) (by first | exact hmm | exact fun z => absurd z (by decide) | (intro z; first | exact hmm z | (rcases eb_60.2.2.2.2.2.2 z with w | w <;> first | exact w | (rw [w.2.1, w.2.2]; exact hmm w.1)))) (by omega) (by exact ⟨n0 + 1, by omega, rfl⟩) (Nat.lt_succ_self _) _ _ _ (hP.sub [0, 1, 2] rfl) (hD.sub [0, 1, 2] (by decide) rfl) hS (lv_sub hl [2, 3, 4, 1, 0] rfl)

set_option maxHeartbeats 4000000 in
set_option maxRecDepth 100000 in
theorem c_hJudge (l : Launch) (g : GT) (hh : Nat) (fa : Nat) (me : Nat) (nw : Nat) (tS : Nat) (tE : Nat) (ho : Nat) (en : Nat) (le : Nat) (bo : Int32) (ma : Nat) (mS : Nat) (mE : Nat) (cl : Nat) (ke : Nat) (hfa : fa ≤ 1) (hnw : nw ≤ 1) (hcl : cl ≤ 1) (hke : ke ≤ 1) (hct : ho ≤ 4096 ∧ en ≤ 4096 ∧ le ≤ 4096 ∧ me ≤ 2) : CT l g yX2_judge wsX2_judge ({ frames := 0, cells := 0, slots := 0, locals := 0 } : Room) [.ref hh] [(hh, .inr (1, [.int (nI fa), .int (nI me), .int (nI nw), .int (nI tS), .int (nI tE), .int (nI ho), .int (nI en), .int (nI le), .int bo, .int (nI ma), .int (nI mS), .int (nI mE), .int (nI cl), .int (nI ke)]))] (fun r w => (∃ (k1 : Nat), r = some (.ref (gE g k1)) ∧ w = [(hh, .inr (1, [.int (nI fa), .int (nI me), .int (nI nw), .int (nI tS), .int (nI tE), .int (nI ho), .int (nI en), .int (nI le), .int bo, .int (nI ma), .int (nI mS), .int (nI mE), .int (nI cl), .int (nI ke)]))] ∧ (k1 = jdK fa me nw ho en le bo))) (0) (0) := by
  refine ct_of (cc := cX2_judge) (maxL := 2) (ret := (some (.object "RequestReader$Status"))) (by decide) rfl (Nat.le_of_ble_eq_true rfl) ?_
  intro p e s m args below meth c A Q hx hb hr hml hown hts hlocks hnam hAe hQ hA hG hK hP hD hS ls hl
  have hl : lv_has ls 2 [(0, .ref hh)] := hl
  have hown : s.vm.findClass RX2 = some m.cls := hown
  have hinX2 : ∀ w ∈ u_ws RX2 TX2 14, w ∈ wsX2_judge := by decide +kernel
  have hf11 := hts (.fieldLink RX2 11 "RequestReader$Head" "method" "I") (by decide +kernel)
  have hf15 := hts (.fieldLink RX2 15 "RequestReader$Head" "isFaulty" "Z") (by decide +kernel)
  have hf19 := hts (.fieldLink RX2 19 "RequestReader$Head" "isNewer" "Z") (by decide +kernel)
  have hf28 := hts (.fieldLink RX2 28 "RequestReader$Head" "hosts" "I") (by decide +kernel)
  have hf31 := hts (.fieldLink RX2 31 "RequestReader$Head" "encodings" "I") (by decide +kernel)
  have hf34 := hts (.fieldLink RX2 34 "RequestReader$Head" "lengths" "I") (by decide +kernel)
  have hf37 := hts (.fieldLink RX2 37 "RequestReader$Head" "bodySize" "I") (by decide +kernel)
  have hf149 := hts (.fieldLink RX2 149 "RequestReader$Status" "BAD_REQUEST" "LRequestReader$Status;") (by decide +kernel)
  have hf155 := hts (.fieldLink RX2 155 "RequestReader$Status" "NOT_IMPLEMENTED" "LRequestReader$Status;") (by decide +kernel)
  have hf159 := hts (.fieldLink RX2 159 "RequestReader$Status" "BODY_TOO_LARGE" "LRequestReader$Status;") (by decide +kernel)
  have hf162 := hts (.fieldLink RX2 162 "RequestReader$Status" "METHOD_NOT_ALLOWED" "LRequestReader$Status;") (by decide +kernel)
  have hf165 := hts (.fieldLink RX2 165 "RequestReader$Status" "OK" "LRequestReader$Status;") (by decide +kernel)
  refine lv_aload_n hx hb dX2_judge_0 rfl (lv_at hl 0 rfl) ?_
  refine va_get (D := gD g) (ci := 1) (v := .int (nI nw)) (C := RX2) (T := TX2) (N := 14) hx hb hts hinX2 hown hK hP 0 rfl rfl 2 (by decide) hf19 (fun _ h9 => h9) rfl dX2_judge_1 ?_
  refine lv_if_eq (tgt := 23) hx hb dX2_judge_4 (by decide) (fun c4 => ?_) (fun c4 => ?_)
  · skip
    have c4 : nw = 0 := (nI_eq (a := nw) (b := 0) (by omega) (by omega)).mp c4
    refine lv_aload_n hx hb dX2_judge_23 rfl (lv_at hl 0 rfl) ?_
    refine va_get (D := gD g) (ci := 1) (v := .int (nI ho)) (C := RX2) (T := TX2) (N := 14) hx hb hts hinX2 hown hK hP 0 rfl rfl 5 (by decide) hf28 (fun _ h9 => h9) rfl dX2_judge_24 ?_
    refine lv_iconst (v := nI 1) hx hb dX2_judge_27 (by decide) ?_
    refine lv_icmp_le (tgt := 35) hx hb dX2_judge_28 (by decide) (fun c28 => ?_) (fun c28 => ?_)
    · skip
      have c28 : ho ≤ 1 := (nI_leI (a := ho) (b := 1) (by omega) (by omega)).mp c28
      refine lv_iconst (v := nI 0) hx hb dX2_judge_35 (by decide) ?_
      refine lv_istore_n (lv' := [(1, .int (nI 0)), (0, .ref hh)]) hx hb dX2_judge_36 rfl hl (by decide) rfl (fun ls hl => ?_)
      refine lv_aload_n hx hb dX2_judge_37 rfl (lv_at hl 1 rfl) ?_
      refine va_get (D := gD g) (ci := 1) (v := .int (nI fa)) (C := RX2) (T := TX2) (N := 14) hx hb hts hinX2 hown hK hP 0 rfl rfl 0 (by decide) hf15 (fun _ h9 => h9) rfl dX2_judge_38 ?_
      refine lv_if_ne (tgt := 48) hx hb dX2_judge_41 (by decide) (fun c41 => ?_) (fun c41 => ?_)
      · skip
        have c41 : ¬ (fa = 0) := fun z => c41 ((nI_eq (a := fa) (b := 0) (by omega) (by omega)).mpr z)
        refine va_gets hx hb ((hG.2.2.2.2.2.1.1 2 (by decide)).1) hS hown hf149 (fun _ h9 => h9) dX2_judge_48 ?_
        refine ct_aret (w := [(hh, .inr (1, [.int (nI fa), .int (nI me), .int (nI nw), .int (nI tS), .int (nI tE), .int (nI ho), .int (nI en), .int (nI le), .int bo, .int (nI ma), .int (nI mS), .int (nI mE), .int (nI cl), .int (nI ke)]))]) hx hb hr (Or.inl ⟨_, rfl⟩) hlocks hQ hAe hK (hP.sub [0] rfl) (hD.sub [0] (by decide) rfl) hS (by omega) (by omega) dX2_judge_51 ?_
        exact ⟨2, rfl, rfl, by first | exact (jdK_1 (by omega)).symm | exact (jdK_2 (by omega) (by omega)).symm | exact (jdK_3 (by omega) (by omega) (Or.inl (by omega))).symm | exact (jdK_3 (by omega) (by omega) (Or.inr (Int32.not_le.mp c75))).symm | exact (jdK_4 (by omega) (by omega) (by omega) (Int32.not_lt.mpr c75) (Int32.not_le.mp c88)).symm | exact (jdK_5 (by omega) (by omega) (by omega) (Int32.not_lt.mpr c75) (Int32.not_lt.mpr c88) (by omega)).symm | exact (jdK_6 (by omega) (by omega) (by omega) (Int32.not_lt.mpr c75) (Int32.not_lt.mpr c88) (by omega)).symm⟩
      · skip
        have c41 : fa = 0 := (nI_eq (a := fa) (b := 0) (by omega) (by omega)).mp c41
        refine lv_iload_n hx hb dX2_judge_44 rfl (lv_at hl 0 rfl) ?_
        refine lv_if_eq (tgt := 52) hx hb dX2_judge_45 (by decide) (fun _ => ?_) (fun c45 => absurd (by decide) c45)
        refine lv_aload_n hx hb dX2_judge_52 rfl (lv_at hl 1 rfl) ?_
        refine va_get (D := gD g) (ci := 1) (v := .int (nI en)) (C := RX2) (T := TX2) (N := 14) hx hb hts hinX2 hown hK hP 0 rfl rfl 6 (by decide) hf31 (fun _ h9 => h9) rfl dX2_judge_53 ?_
        refine lv_if_le (tgt := 63) hx hb dX2_judge_56 (by decide) (fun c56 => ?_) (fun c56 => ?_)
        · skip
          have c56 : en ≤ 0 := (nI_leI (a := en) (b := 0) (by omega) (by omega)).mp c56
          refine lv_aload_n hx hb dX2_judge_63 rfl (lv_at hl 1 rfl) ?_
          refine va_get (D := gD g) (ci := 1) (v := .int (nI le)) (C := RX2) (T := TX2) (N := 14) hx hb hts hinX2 hown hK hP 0 rfl rfl 7 (by decide) hf34 (fun _ h9 => h9) rfl dX2_judge_64 ?_
          refine lv_iconst (v := nI 1) hx hb dX2_judge_67 (by decide) ?_
          refine lv_icmp_gt (tgt := 78) hx hb dX2_judge_68 (by decide) (fun c68 => ?_) (fun c68 => ?_)
          · skip
            have c68 : 1 < le := (nI_ltI (a := 1) (b := le) (by omega) (by omega)).mp c68
            refine va_gets hx hb ((hG.2.2.2.2.2.1.1 2 (by decide)).1) hS hown hf149 (fun _ h9 => h9) dX2_judge_78 ?_
            refine ct_aret (w := [(hh, .inr (1, [.int (nI fa), .int (nI me), .int (nI nw), .int (nI tS), .int (nI tE), .int (nI ho), .int (nI en), .int (nI le), .int bo, .int (nI ma), .int (nI mS), .int (nI mE), .int (nI cl), .int (nI ke)]))]) hx hb hr (Or.inl ⟨_, rfl⟩) hlocks hQ hAe hK (hP.sub [0] rfl) (hD.sub [0] (by decide) rfl) hS (by omega) (by omega) dX2_judge_81 ?_
            exact ⟨2, rfl, rfl, by first | exact (jdK_1 (by omega)).symm | exact (jdK_2 (by omega) (by omega)).symm | exact (jdK_3 (by omega) (by omega) (Or.inl (by omega))).symm | exact (jdK_3 (by omega) (by omega) (Or.inr (Int32.not_le.mp c75))).symm | exact (jdK_4 (by omega) (by omega) (by omega) (Int32.not_lt.mpr c75) (Int32.not_le.mp c88)).symm | exact (jdK_5 (by omega) (by omega) (by omega) (Int32.not_lt.mpr c75) (Int32.not_lt.mpr c88) (by omega)).symm | exact (jdK_6 (by omega) (by omega) (by omega) (Int32.not_lt.mpr c75) (Int32.not_lt.mpr c88) (by omega)).symm⟩
          · skip
            have c68 : ¬ (1 < le) := fun z => c68 ((nI_ltI (a := 1) (b := le) (by omega) (by omega)).mpr z)
            refine lv_aload_n hx hb dX2_judge_71 rfl (lv_at hl 1 rfl) ?_
            refine va_get (D := gD g) (ci := 1) (v := .int bo) (C := RX2) (T := TX2) (N := 14) hx hb hts hinX2 hown hK hP 0 rfl rfl 8 (by decide) hf37 (fun _ h9 => h9) rfl dX2_judge_72 ?_
            refine lv_if_ge (tgt := 82) hx hb dX2_judge_75 (by decide) (fun c75 => ?_) (fun c75 => ?_)
            · skip
              refine lv_aload_n hx hb dX2_judge_82 rfl (lv_at hl 1 rfl) ?_
              refine va_get (D := gD g) (ci := 1) (v := .int bo) (C := RX2) (T := TX2) (N := 14) hx hb hts hinX2 hown hK hP 0 rfl rfl 8 (by decide) hf37 (fun _ h9 => h9) rfl dX2_judge_83 ?_
              refine lv_ldc hx hb hown (hts (.constant RX2 158 (65536)) (by decide +kernel)) dX2_judge_86 ?_
              refine q_top (v := nI 65536) (by decide) ?_
              refine lv_icmp_le (tgt := 95) hx hb dX2_judge_88 (by decide) (fun c88 => ?_) (fun c88 => ?_)
              · skip
                refine lv_aload_n hx hb dX2_judge_95 rfl (lv_at hl 1 rfl) ?_
                refine va_get (D := gD g) (ci := 1) (v := .int (nI me)) (C := RX2) (T := TX2) (N := 14) hx hb hts hinX2 hown hK hP 0 rfl rfl 1 (by decide) hf11 (fun _ h9 => h9) rfl dX2_judge_96 ?_
                refine lv_iconst (v := nI 2) hx hb dX2_judge_99 (by decide) ?_
                refine lv_icmp_ne (tgt := 109) hx hb dX2_judge_100 (by decide) (fun c100 => ?_) (fun c100 => ?_)
                · skip
                  have c100 : ¬ (me = 2) := fun z => c100 ((nI_eq (a := me) (b := 2) (by omega) (by omega)).mpr z)
                  refine va_gets hx hb ((hG.2.2.2.2.2.1.1 0 (by decide)).1) hS hown hf165 (fun _ h9 => h9) dX2_judge_109 ?_
                  refine ct_aret (w := [(hh, .inr (1, [.int (nI fa), .int (nI me), .int (nI nw), .int (nI tS), .int (nI tE), .int (nI ho), .int (nI en), .int (nI le), .int bo, .int (nI ma), .int (nI mS), .int (nI mE), .int (nI cl), .int (nI ke)]))]) hx hb hr (Or.inl ⟨_, rfl⟩) hlocks hQ hAe hK (hP.sub [0] rfl) (hD.sub [0] (by decide) rfl) hS (by omega) (by omega) dX2_judge_112 ?_
                  exact ⟨0, rfl, rfl, by first | exact (jdK_1 (by omega)).symm | exact (jdK_2 (by omega) (by omega)).symm | exact (jdK_3 (by omega) (by omega) (Or.inl (by omega))).symm | exact (jdK_3 (by omega) (by omega) (Or.inr (Int32.not_le.mp c75))).symm | exact (jdK_4 (by omega) (by omega) (by omega) (Int32.not_lt.mpr c75) (Int32.not_le.mp c88)).symm | exact (jdK_5 (by omega) (by omega) (by omega) (Int32.not_lt.mpr c75) (Int32.not_lt.mpr c88) (by omega)).symm | exact (jdK_6 (by omega) (by omega) (by omega) (Int32.not_lt.mpr c75) (Int32.not_lt.mpr c88) (by omega)).symm⟩
                · skip
                  have c100 : me = 2 := (nI_eq (a := me) (b := 2) (by omega) (by omega)).mp c100
                  refine va_gets hx hb ((hG.2.2.2.2.2.1.1 4 (by decide)).1) hS hown hf162 (fun _ h9 => h9) dX2_judge_103 ?_
                  refine lv_goto (tgt := 112) hx hb dX2_judge_106 (by decide) ?_
                  refine ct_aret (w := [(hh, .inr (1, [.int (nI fa), .int (nI me), .int (nI nw), .int (nI tS), .int (nI tE), .int (nI ho), .int (nI en), .int (nI le), .int bo, .int (nI ma), .int (nI mS), .int (nI mE), .int (nI cl), .int (nI ke)]))]) hx hb hr (Or.inl ⟨_, rfl⟩) hlocks hQ hAe hK (hP.sub [0] rfl) (hD.sub [0] (by decide) rfl) hS (by omega) (by omega) dX2_judge_112 ?_
                  exact ⟨4, rfl, rfl, by first | exact (jdK_1 (by omega)).symm | exact (jdK_2 (by omega) (by omega)).symm | exact (jdK_3 (by omega) (by omega) (Or.inl (by omega))).symm | exact (jdK_3 (by omega) (by omega) (Or.inr (Int32.not_le.mp c75))).symm | exact (jdK_4 (by omega) (by omega) (by omega) (Int32.not_lt.mpr c75) (Int32.not_le.mp c88)).symm | exact (jdK_5 (by omega) (by omega) (by omega) (Int32.not_lt.mpr c75) (Int32.not_lt.mpr c88) (by omega)).symm | exact (jdK_6 (by omega) (by omega) (by omega) (Int32.not_lt.mpr c75) (Int32.not_lt.mpr c88) (by omega)).symm⟩
              · skip
                refine va_gets hx hb ((hG.2.2.2.2.2.1.1 5 (by decide)).1) hS hown hf159 (fun _ h9 => h9) dX2_judge_91 ?_
                refine ct_aret (w := [(hh, .inr (1, [.int (nI fa), .int (nI me), .int (nI nw), .int (nI tS), .int (nI tE), .int (nI ho), .int (nI en), .int (nI le), .int bo, .int (nI ma), .int (nI mS), .int (nI mE), .int (nI cl), .int (nI ke)]))]) hx hb hr (Or.inl ⟨_, rfl⟩) hlocks hQ hAe hK (hP.sub [0] rfl) (hD.sub [0] (by decide) rfl) hS (by omega) (by omega) dX2_judge_94 ?_
                exact ⟨5, rfl, rfl, by first | exact (jdK_1 (by omega)).symm | exact (jdK_2 (by omega) (by omega)).symm | exact (jdK_3 (by omega) (by omega) (Or.inl (by omega))).symm | exact (jdK_3 (by omega) (by omega) (Or.inr (Int32.not_le.mp c75))).symm | exact (jdK_4 (by omega) (by omega) (by omega) (Int32.not_lt.mpr c75) (Int32.not_le.mp c88)).symm | exact (jdK_5 (by omega) (by omega) (by omega) (Int32.not_lt.mpr c75) (Int32.not_lt.mpr c88) (by omega)).symm | exact (jdK_6 (by omega) (by omega) (by omega) (Int32.not_lt.mpr c75) (Int32.not_lt.mpr c88) (by omega)).symm⟩
            · skip
              refine va_gets hx hb ((hG.2.2.2.2.2.1.1 2 (by decide)).1) hS hown hf149 (fun _ h9 => h9) dX2_judge_78 ?_
              refine ct_aret (w := [(hh, .inr (1, [.int (nI fa), .int (nI me), .int (nI nw), .int (nI tS), .int (nI tE), .int (nI ho), .int (nI en), .int (nI le), .int bo, .int (nI ma), .int (nI mS), .int (nI mE), .int (nI cl), .int (nI ke)]))]) hx hb hr (Or.inl ⟨_, rfl⟩) hlocks hQ hAe hK (hP.sub [0] rfl) (hD.sub [0] (by decide) rfl) hS (by omega) (by omega) dX2_judge_81 ?_
              exact ⟨2, rfl, rfl, by first | exact (jdK_1 (by omega)).symm | exact (jdK_2 (by omega) (by omega)).symm | exact (jdK_3 (by omega) (by omega) (Or.inl (by omega))).symm | exact (jdK_3 (by omega) (by omega) (Or.inr (Int32.not_le.mp c75))).symm | exact (jdK_4 (by omega) (by omega) (by omega) (Int32.not_lt.mpr c75) (Int32.not_le.mp c88)).symm | exact (jdK_5 (by omega) (by omega) (by omega) (Int32.not_lt.mpr c75) (Int32.not_lt.mpr c88) (by omega)).symm | exact (jdK_6 (by omega) (by omega) (by omega) (Int32.not_lt.mpr c75) (Int32.not_lt.mpr c88) (by omega)).symm⟩
        · skip
          have c56 : ¬ (en ≤ 0) := fun z => c56 ((nI_leI (a := en) (b := 0) (by omega) (by omega)).mpr z)
          refine va_gets hx hb ((hG.2.2.2.2.2.1.1 8 (by decide)).1) hS hown hf155 (fun _ h9 => h9) dX2_judge_59 ?_
          refine ct_aret (w := [(hh, .inr (1, [.int (nI fa), .int (nI me), .int (nI nw), .int (nI tS), .int (nI tE), .int (nI ho), .int (nI en), .int (nI le), .int bo, .int (nI ma), .int (nI mS), .int (nI mE), .int (nI cl), .int (nI ke)]))]) hx hb hr (Or.inl ⟨_, rfl⟩) hlocks hQ hAe hK (hP.sub [0] rfl) (hD.sub [0] (by decide) rfl) hS (by omega) (by omega) dX2_judge_62 ?_
          exact ⟨8, rfl, rfl, by first | exact (jdK_1 (by omega)).symm | exact (jdK_2 (by omega) (by omega)).symm | exact (jdK_3 (by omega) (by omega) (Or.inl (by omega))).symm | exact (jdK_3 (by omega) (by omega) (Or.inr (Int32.not_le.mp c75))).symm | exact (jdK_4 (by omega) (by omega) (by omega) (Int32.not_lt.mpr c75) (Int32.not_le.mp c88)).symm | exact (jdK_5 (by omega) (by omega) (by omega) (Int32.not_lt.mpr c75) (Int32.not_lt.mpr c88) (by omega)).symm | exact (jdK_6 (by omega) (by omega) (by omega) (Int32.not_lt.mpr c75) (Int32.not_lt.mpr c88) (by omega)).symm⟩
    · skip
      have c28 : ¬ (ho ≤ 1) := fun z => c28 ((nI_leI (a := ho) (b := 1) (by omega) (by omega)).mpr z)
      refine lv_iconst (v := nI 1) hx hb dX2_judge_31 (by decide) ?_
      refine lv_goto (tgt := 36) hx hb dX2_judge_32 (by decide) ?_
      refine lv_istore_n (lv' := [(1, .int (nI 1)), (0, .ref hh)]) hx hb dX2_judge_36 rfl hl (by decide) rfl (fun ls hl => ?_)
      refine lv_aload_n hx hb dX2_judge_37 rfl (lv_at hl 1 rfl) ?_
      refine va_get (D := gD g) (ci := 1) (v := .int (nI fa)) (C := RX2) (T := TX2) (N := 14) hx hb hts hinX2 hown hK hP 0 rfl rfl 0 (by decide) hf15 (fun _ h9 => h9) rfl dX2_judge_38 ?_
      refine lv_if_ne (tgt := 48) hx hb dX2_judge_41 (by decide) (fun c41 => ?_) (fun c41 => ?_)
      · skip
        have c41 : ¬ (fa = 0) := fun z => c41 ((nI_eq (a := fa) (b := 0) (by omega) (by omega)).mpr z)
        refine va_gets hx hb ((hG.2.2.2.2.2.1.1 2 (by decide)).1) hS hown hf149 (fun _ h9 => h9) dX2_judge_48 ?_
        refine ct_aret (w := [(hh, .inr (1, [.int (nI fa), .int (nI me), .int (nI nw), .int (nI tS), .int (nI tE), .int (nI ho), .int (nI en), .int (nI le), .int bo, .int (nI ma), .int (nI mS), .int (nI mE), .int (nI cl), .int (nI ke)]))]) hx hb hr (Or.inl ⟨_, rfl⟩) hlocks hQ hAe hK (hP.sub [0] rfl) (hD.sub [0] (by decide) rfl) hS (by omega) (by omega) dX2_judge_51 ?_
        exact ⟨2, rfl, rfl, by first | exact (jdK_1 (by omega)).symm | exact (jdK_2 (by omega) (by omega)).symm | exact (jdK_3 (by omega) (by omega) (Or.inl (by omega))).symm | exact (jdK_3 (by omega) (by omega) (Or.inr (Int32.not_le.mp c75))).symm | exact (jdK_4 (by omega) (by omega) (by omega) (Int32.not_lt.mpr c75) (Int32.not_le.mp c88)).symm | exact (jdK_5 (by omega) (by omega) (by omega) (Int32.not_lt.mpr c75) (Int32.not_lt.mpr c88) (by omega)).symm | exact (jdK_6 (by omega) (by omega) (by omega) (Int32.not_lt.mpr c75) (Int32.not_lt.mpr c88) (by omega)).symm⟩
      · skip
        have c41 : fa = 0 := (nI_eq (a := fa) (b := 0) (by omega) (by omega)).mp c41
        refine lv_iload_n hx hb dX2_judge_44 rfl (lv_at hl 0 rfl) ?_
        refine lv_if_eq (tgt := 52) hx hb dX2_judge_45 (by decide) (fun c45 => absurd c45 (by decide)) (fun _ => ?_)
        refine va_gets hx hb ((hG.2.2.2.2.2.1.1 2 (by decide)).1) hS hown hf149 (fun _ h9 => h9) dX2_judge_48 ?_
        refine ct_aret (w := [(hh, .inr (1, [.int (nI fa), .int (nI me), .int (nI nw), .int (nI tS), .int (nI tE), .int (nI ho), .int (nI en), .int (nI le), .int bo, .int (nI ma), .int (nI mS), .int (nI mE), .int (nI cl), .int (nI ke)]))]) hx hb hr (Or.inl ⟨_, rfl⟩) hlocks hQ hAe hK (hP.sub [0] rfl) (hD.sub [0] (by decide) rfl) hS (by omega) (by omega) dX2_judge_51 ?_
        exact ⟨2, rfl, rfl, by first | exact (jdK_1 (by omega)).symm | exact (jdK_2 (by omega) (by omega)).symm | exact (jdK_3 (by omega) (by omega) (Or.inl (by omega))).symm | exact (jdK_3 (by omega) (by omega) (Or.inr (Int32.not_le.mp c75))).symm | exact (jdK_4 (by omega) (by omega) (by omega) (Int32.not_lt.mpr c75) (Int32.not_le.mp c88)).symm | exact (jdK_5 (by omega) (by omega) (by omega) (Int32.not_lt.mpr c75) (Int32.not_lt.mpr c88) (by omega)).symm | exact (jdK_6 (by omega) (by omega) (by omega) (Int32.not_lt.mpr c75) (Int32.not_lt.mpr c88) (by omega)).symm⟩
  · skip
    have c4 : ¬ (nw = 0) := fun z => c4 ((nI_eq (a := nw) (b := 0) (by omega) (by omega)).mpr z)
    refine lv_aload_n hx hb dX2_judge_7 rfl (lv_at hl 0 rfl) ?_
    refine va_get (D := gD g) (ci := 1) (v := .int (nI ho)) (C := RX2) (T := TX2) (N := 14) hx hb hts hinX2 hown hK hP 0 rfl rfl 5 (by decide) hf28 (fun _ h9 => h9) rfl dX2_judge_8 ?_
    refine lv_iconst (v := nI 1) hx hb dX2_judge_11 (by decide) ?_
    refine lv_icmp_eq (tgt := 19) hx hb dX2_judge_12 (by decide) (fun c12 => ?_) (fun c12 => ?_)
    · skip
      have c12 : ho = 1 := (nI_eq (a := ho) (b := 1) (by omega) (by omega)).mp c12
      refine lv_iconst (v := nI 0) hx hb dX2_judge_19 (by decide) ?_
      refine lv_goto (tgt := 36) hx hb dX2_judge_20 (by decide) ?_
      refine lv_istore_n (lv' := [(1, .int (nI 0)), (0, .ref hh)]) hx hb dX2_judge_36 rfl hl (by decide) rfl (fun ls hl => ?_)
      refine lv_aload_n hx hb dX2_judge_37 rfl (lv_at hl 1 rfl) ?_
      refine va_get (D := gD g) (ci := 1) (v := .int (nI fa)) (C := RX2) (T := TX2) (N := 14) hx hb hts hinX2 hown hK hP 0 rfl rfl 0 (by decide) hf15 (fun _ h9 => h9) rfl dX2_judge_38 ?_
      refine lv_if_ne (tgt := 48) hx hb dX2_judge_41 (by decide) (fun c41 => ?_) (fun c41 => ?_)
      · skip
        have c41 : ¬ (fa = 0) := fun z => c41 ((nI_eq (a := fa) (b := 0) (by omega) (by omega)).mpr z)
        refine va_gets hx hb ((hG.2.2.2.2.2.1.1 2 (by decide)).1) hS hown hf149 (fun _ h9 => h9) dX2_judge_48 ?_
        refine ct_aret (w := [(hh, .inr (1, [.int (nI fa), .int (nI me), .int (nI nw), .int (nI tS), .int (nI tE), .int (nI ho), .int (nI en), .int (nI le), .int bo, .int (nI ma), .int (nI mS), .int (nI mE), .int (nI cl), .int (nI ke)]))]) hx hb hr (Or.inl ⟨_, rfl⟩) hlocks hQ hAe hK (hP.sub [0] rfl) (hD.sub [0] (by decide) rfl) hS (by omega) (by omega) dX2_judge_51 ?_
        exact ⟨2, rfl, rfl, by first | exact (jdK_1 (by omega)).symm | exact (jdK_2 (by omega) (by omega)).symm | exact (jdK_3 (by omega) (by omega) (Or.inl (by omega))).symm | exact (jdK_3 (by omega) (by omega) (Or.inr (Int32.not_le.mp c75))).symm | exact (jdK_4 (by omega) (by omega) (by omega) (Int32.not_lt.mpr c75) (Int32.not_le.mp c88)).symm | exact (jdK_5 (by omega) (by omega) (by omega) (Int32.not_lt.mpr c75) (Int32.not_lt.mpr c88) (by omega)).symm | exact (jdK_6 (by omega) (by omega) (by omega) (Int32.not_lt.mpr c75) (Int32.not_lt.mpr c88) (by omega)).symm⟩
      · skip
        have c41 : fa = 0 := (nI_eq (a := fa) (b := 0) (by omega) (by omega)).mp c41
        refine lv_iload_n hx hb dX2_judge_44 rfl (lv_at hl 0 rfl) ?_
        refine lv_if_eq (tgt := 52) hx hb dX2_judge_45 (by decide) (fun _ => ?_) (fun c45 => absurd (by decide) c45)
        refine lv_aload_n hx hb dX2_judge_52 rfl (lv_at hl 1 rfl) ?_
        refine va_get (D := gD g) (ci := 1) (v := .int (nI en)) (C := RX2) (T := TX2) (N := 14) hx hb hts hinX2 hown hK hP 0 rfl rfl 6 (by decide) hf31 (fun _ h9 => h9) rfl dX2_judge_53 ?_
        refine lv_if_le (tgt := 63) hx hb dX2_judge_56 (by decide) (fun c56 => ?_) (fun c56 => ?_)
        · skip
          have c56 : en ≤ 0 := (nI_leI (a := en) (b := 0) (by omega) (by omega)).mp c56
          refine lv_aload_n hx hb dX2_judge_63 rfl (lv_at hl 1 rfl) ?_
          refine va_get (D := gD g) (ci := 1) (v := .int (nI le)) (C := RX2) (T := TX2) (N := 14) hx hb hts hinX2 hown hK hP 0 rfl rfl 7 (by decide) hf34 (fun _ h9 => h9) rfl dX2_judge_64 ?_
          refine lv_iconst (v := nI 1) hx hb dX2_judge_67 (by decide) ?_
          refine lv_icmp_gt (tgt := 78) hx hb dX2_judge_68 (by decide) (fun c68 => ?_) (fun c68 => ?_)
          · skip
            have c68 : 1 < le := (nI_ltI (a := 1) (b := le) (by omega) (by omega)).mp c68
            refine va_gets hx hb ((hG.2.2.2.2.2.1.1 2 (by decide)).1) hS hown hf149 (fun _ h9 => h9) dX2_judge_78 ?_
            refine ct_aret (w := [(hh, .inr (1, [.int (nI fa), .int (nI me), .int (nI nw), .int (nI tS), .int (nI tE), .int (nI ho), .int (nI en), .int (nI le), .int bo, .int (nI ma), .int (nI mS), .int (nI mE), .int (nI cl), .int (nI ke)]))]) hx hb hr (Or.inl ⟨_, rfl⟩) hlocks hQ hAe hK (hP.sub [0] rfl) (hD.sub [0] (by decide) rfl) hS (by omega) (by omega) dX2_judge_81 ?_
            exact ⟨2, rfl, rfl, by first | exact (jdK_1 (by omega)).symm | exact (jdK_2 (by omega) (by omega)).symm | exact (jdK_3 (by omega) (by omega) (Or.inl (by omega))).symm | exact (jdK_3 (by omega) (by omega) (Or.inr (Int32.not_le.mp c75))).symm | exact (jdK_4 (by omega) (by omega) (by omega) (Int32.not_lt.mpr c75) (Int32.not_le.mp c88)).symm | exact (jdK_5 (by omega) (by omega) (by omega) (Int32.not_lt.mpr c75) (Int32.not_lt.mpr c88) (by omega)).symm | exact (jdK_6 (by omega) (by omega) (by omega) (Int32.not_lt.mpr c75) (Int32.not_lt.mpr c88) (by omega)).symm⟩
          · skip
            have c68 : ¬ (1 < le) := fun z => c68 ((nI_ltI (a := 1) (b := le) (by omega) (by omega)).mpr z)
            refine lv_aload_n hx hb dX2_judge_71 rfl (lv_at hl 1 rfl) ?_
            refine va_get (D := gD g) (ci := 1) (v := .int bo) (C := RX2) (T := TX2) (N := 14) hx hb hts hinX2 hown hK hP 0 rfl rfl 8 (by decide) hf37 (fun _ h9 => h9) rfl dX2_judge_72 ?_
            refine lv_if_ge (tgt := 82) hx hb dX2_judge_75 (by decide) (fun c75 => ?_) (fun c75 => ?_)
            · skip
              refine lv_aload_n hx hb dX2_judge_82 rfl (lv_at hl 1 rfl) ?_
              refine va_get (D := gD g) (ci := 1) (v := .int bo) (C := RX2) (T := TX2) (N := 14) hx hb hts hinX2 hown hK hP 0 rfl rfl 8 (by decide) hf37 (fun _ h9 => h9) rfl dX2_judge_83 ?_
              refine lv_ldc hx hb hown (hts (.constant RX2 158 (65536)) (by decide +kernel)) dX2_judge_86 ?_
              refine q_top (v := nI 65536) (by decide) ?_
              refine lv_icmp_le (tgt := 95) hx hb dX2_judge_88 (by decide) (fun c88 => ?_) (fun c88 => ?_)
              · skip
                refine lv_aload_n hx hb dX2_judge_95 rfl (lv_at hl 1 rfl) ?_
                refine va_get (D := gD g) (ci := 1) (v := .int (nI me)) (C := RX2) (T := TX2) (N := 14) hx hb hts hinX2 hown hK hP 0 rfl rfl 1 (by decide) hf11 (fun _ h9 => h9) rfl dX2_judge_96 ?_
                refine lv_iconst (v := nI 2) hx hb dX2_judge_99 (by decide) ?_
                refine lv_icmp_ne (tgt := 109) hx hb dX2_judge_100 (by decide) (fun c100 => ?_) (fun c100 => ?_)
                · skip
                  have c100 : ¬ (me = 2) := fun z => c100 ((nI_eq (a := me) (b := 2) (by omega) (by omega)).mpr z)
                  refine va_gets hx hb ((hG.2.2.2.2.2.1.1 0 (by decide)).1) hS hown hf165 (fun _ h9 => h9) dX2_judge_109 ?_
                  refine ct_aret (w := [(hh, .inr (1, [.int (nI fa), .int (nI me), .int (nI nw), .int (nI tS), .int (nI tE), .int (nI ho), .int (nI en), .int (nI le), .int bo, .int (nI ma), .int (nI mS), .int (nI mE), .int (nI cl), .int (nI ke)]))]) hx hb hr (Or.inl ⟨_, rfl⟩) hlocks hQ hAe hK (hP.sub [0] rfl) (hD.sub [0] (by decide) rfl) hS (by omega) (by omega) dX2_judge_112 ?_
                  exact ⟨0, rfl, rfl, by first | exact (jdK_1 (by omega)).symm | exact (jdK_2 (by omega) (by omega)).symm | exact (jdK_3 (by omega) (by omega) (Or.inl (by omega))).symm | exact (jdK_3 (by omega) (by omega) (Or.inr (Int32.not_le.mp c75))).symm | exact (jdK_4 (by omega) (by omega) (by omega) (Int32.not_lt.mpr c75) (Int32.not_le.mp c88)).symm | exact (jdK_5 (by omega) (by omega) (by omega) (Int32.not_lt.mpr c75) (Int32.not_lt.mpr c88) (by omega)).symm | exact (jdK_6 (by omega) (by omega) (by omega) (Int32.not_lt.mpr c75) (Int32.not_lt.mpr c88) (by omega)).symm⟩
                · skip
                  have c100 : me = 2 := (nI_eq (a := me) (b := 2) (by omega) (by omega)).mp c100
                  refine va_gets hx hb ((hG.2.2.2.2.2.1.1 4 (by decide)).1) hS hown hf162 (fun _ h9 => h9) dX2_judge_103 ?_
                  refine lv_goto (tgt := 112) hx hb dX2_judge_106 (by decide) ?_
                  refine ct_aret (w := [(hh, .inr (1, [.int (nI fa), .int (nI me), .int (nI nw), .int (nI tS), .int (nI tE), .int (nI ho), .int (nI en), .int (nI le), .int bo, .int (nI ma), .int (nI mS), .int (nI mE), .int (nI cl), .int (nI ke)]))]) hx hb hr (Or.inl ⟨_, rfl⟩) hlocks hQ hAe hK (hP.sub [0] rfl) (hD.sub [0] (by decide) rfl) hS (by omega) (by omega) dX2_judge_112 ?_
                  exact ⟨4, rfl, rfl, by first | exact (jdK_1 (by omega)).symm | exact (jdK_2 (by omega) (by omega)).symm | exact (jdK_3 (by omega) (by omega) (Or.inl (by omega))).symm | exact (jdK_3 (by omega) (by omega) (Or.inr (Int32.not_le.mp c75))).symm | exact (jdK_4 (by omega) (by omega) (by omega) (Int32.not_lt.mpr c75) (Int32.not_le.mp c88)).symm | exact (jdK_5 (by omega) (by omega) (by omega) (Int32.not_lt.mpr c75) (Int32.not_lt.mpr c88) (by omega)).symm | exact (jdK_6 (by omega) (by omega) (by omega) (Int32.not_lt.mpr c75) (Int32.not_lt.mpr c88) (by omega)).symm⟩
              · skip
                refine va_gets hx hb ((hG.2.2.2.2.2.1.1 5 (by decide)).1) hS hown hf159 (fun _ h9 => h9) dX2_judge_91 ?_
                refine ct_aret (w := [(hh, .inr (1, [.int (nI fa), .int (nI me), .int (nI nw), .int (nI tS), .int (nI tE), .int (nI ho), .int (nI en), .int (nI le), .int bo, .int (nI ma), .int (nI mS), .int (nI mE), .int (nI cl), .int (nI ke)]))]) hx hb hr (Or.inl ⟨_, rfl⟩) hlocks hQ hAe hK (hP.sub [0] rfl) (hD.sub [0] (by decide) rfl) hS (by omega) (by omega) dX2_judge_94 ?_
                exact ⟨5, rfl, rfl, by first | exact (jdK_1 (by omega)).symm | exact (jdK_2 (by omega) (by omega)).symm | exact (jdK_3 (by omega) (by omega) (Or.inl (by omega))).symm | exact (jdK_3 (by omega) (by omega) (Or.inr (Int32.not_le.mp c75))).symm | exact (jdK_4 (by omega) (by omega) (by omega) (Int32.not_lt.mpr c75) (Int32.not_le.mp c88)).symm | exact (jdK_5 (by omega) (by omega) (by omega) (Int32.not_lt.mpr c75) (Int32.not_lt.mpr c88) (by omega)).symm | exact (jdK_6 (by omega) (by omega) (by omega) (Int32.not_lt.mpr c75) (Int32.not_lt.mpr c88) (by omega)).symm⟩
            · skip
              refine va_gets hx hb ((hG.2.2.2.2.2.1.1 2 (by decide)).1) hS hown hf149 (fun _ h9 => h9) dX2_judge_78 ?_
              refine ct_aret (w := [(hh, .inr (1, [.int (nI fa), .int (nI me), .int (nI nw), .int (nI tS), .int (nI tE), .int (nI ho), .int (nI en), .int (nI le), .int bo, .int (nI ma), .int (nI mS), .int (nI mE), .int (nI cl), .int (nI ke)]))]) hx hb hr (Or.inl ⟨_, rfl⟩) hlocks hQ hAe hK (hP.sub [0] rfl) (hD.sub [0] (by decide) rfl) hS (by omega) (by omega) dX2_judge_81 ?_
              exact ⟨2, rfl, rfl, by first | exact (jdK_1 (by omega)).symm | exact (jdK_2 (by omega) (by omega)).symm | exact (jdK_3 (by omega) (by omega) (Or.inl (by omega))).symm | exact (jdK_3 (by omega) (by omega) (Or.inr (Int32.not_le.mp c75))).symm | exact (jdK_4 (by omega) (by omega) (by omega) (Int32.not_lt.mpr c75) (Int32.not_le.mp c88)).symm | exact (jdK_5 (by omega) (by omega) (by omega) (Int32.not_lt.mpr c75) (Int32.not_lt.mpr c88) (by omega)).symm | exact (jdK_6 (by omega) (by omega) (by omega) (Int32.not_lt.mpr c75) (Int32.not_lt.mpr c88) (by omega)).symm⟩
        · skip
          have c56 : ¬ (en ≤ 0) := fun z => c56 ((nI_leI (a := en) (b := 0) (by omega) (by omega)).mpr z)
          refine va_gets hx hb ((hG.2.2.2.2.2.1.1 8 (by decide)).1) hS hown hf155 (fun _ h9 => h9) dX2_judge_59 ?_
          refine ct_aret (w := [(hh, .inr (1, [.int (nI fa), .int (nI me), .int (nI nw), .int (nI tS), .int (nI tE), .int (nI ho), .int (nI en), .int (nI le), .int bo, .int (nI ma), .int (nI mS), .int (nI mE), .int (nI cl), .int (nI ke)]))]) hx hb hr (Or.inl ⟨_, rfl⟩) hlocks hQ hAe hK (hP.sub [0] rfl) (hD.sub [0] (by decide) rfl) hS (by omega) (by omega) dX2_judge_62 ?_
          exact ⟨8, rfl, rfl, by first | exact (jdK_1 (by omega)).symm | exact (jdK_2 (by omega) (by omega)).symm | exact (jdK_3 (by omega) (by omega) (Or.inl (by omega))).symm | exact (jdK_3 (by omega) (by omega) (Or.inr (Int32.not_le.mp c75))).symm | exact (jdK_4 (by omega) (by omega) (by omega) (Int32.not_lt.mpr c75) (Int32.not_le.mp c88)).symm | exact (jdK_5 (by omega) (by omega) (by omega) (Int32.not_lt.mpr c75) (Int32.not_lt.mpr c88) (by omega)).symm | exact (jdK_6 (by omega) (by omega) (by omega) (Int32.not_lt.mpr c75) (Int32.not_lt.mpr c88) (by omega)).symm⟩
    · skip
      have c12 : ¬ (ho = 1) := fun z => c12 ((nI_eq (a := ho) (b := 1) (by omega) (by omega)).mpr z)
      refine lv_iconst (v := nI 1) hx hb dX2_judge_15 (by decide) ?_
      refine lv_goto (tgt := 36) hx hb dX2_judge_16 (by decide) ?_
      refine lv_istore_n (lv' := [(1, .int (nI 1)), (0, .ref hh)]) hx hb dX2_judge_36 rfl hl (by decide) rfl (fun ls hl => ?_)
      refine lv_aload_n hx hb dX2_judge_37 rfl (lv_at hl 1 rfl) ?_
      refine va_get (D := gD g) (ci := 1) (v := .int (nI fa)) (C := RX2) (T := TX2) (N := 14) hx hb hts hinX2 hown hK hP 0 rfl rfl 0 (by decide) hf15 (fun _ h9 => h9) rfl dX2_judge_38 ?_
      refine lv_if_ne (tgt := 48) hx hb dX2_judge_41 (by decide) (fun c41 => ?_) (fun c41 => ?_)
      · skip
        have c41 : ¬ (fa = 0) := fun z => c41 ((nI_eq (a := fa) (b := 0) (by omega) (by omega)).mpr z)
        refine va_gets hx hb ((hG.2.2.2.2.2.1.1 2 (by decide)).1) hS hown hf149 (fun _ h9 => h9) dX2_judge_48 ?_
        refine ct_aret (w := [(hh, .inr (1, [.int (nI fa), .int (nI me), .int (nI nw), .int (nI tS), .int (nI tE), .int (nI ho), .int (nI en), .int (nI le), .int bo, .int (nI ma), .int (nI mS), .int (nI mE), .int (nI cl), .int (nI ke)]))]) hx hb hr (Or.inl ⟨_, rfl⟩) hlocks hQ hAe hK (hP.sub [0] rfl) (hD.sub [0] (by decide) rfl) hS (by omega) (by omega) dX2_judge_51 ?_
        exact ⟨2, rfl, rfl, by first | exact (jdK_1 (by omega)).symm | exact (jdK_2 (by omega) (by omega)).symm | exact (jdK_3 (by omega) (by omega) (Or.inl (by omega))).symm | exact (jdK_3 (by omega) (by omega) (Or.inr (Int32.not_le.mp c75))).symm | exact (jdK_4 (by omega) (by omega) (by omega) (Int32.not_lt.mpr c75) (Int32.not_le.mp c88)).symm | exact (jdK_5 (by omega) (by omega) (by omega) (Int32.not_lt.mpr c75) (Int32.not_lt.mpr c88) (by omega)).symm | exact (jdK_6 (by omega) (by omega) (by omega) (Int32.not_lt.mpr c75) (Int32.not_lt.mpr c88) (by omega)).symm⟩
      · skip
        have c41 : fa = 0 := (nI_eq (a := fa) (b := 0) (by omega) (by omega)).mp c41
        refine lv_iload_n hx hb dX2_judge_44 rfl (lv_at hl 0 rfl) ?_
        refine lv_if_eq (tgt := 52) hx hb dX2_judge_45 (by decide) (fun c45 => absurd c45 (by decide)) (fun _ => ?_)
        refine va_gets hx hb ((hG.2.2.2.2.2.1.1 2 (by decide)).1) hS hown hf149 (fun _ h9 => h9) dX2_judge_48 ?_
        refine ct_aret (w := [(hh, .inr (1, [.int (nI fa), .int (nI me), .int (nI nw), .int (nI tS), .int (nI tE), .int (nI ho), .int (nI en), .int (nI le), .int bo, .int (nI ma), .int (nI mS), .int (nI mE), .int (nI cl), .int (nI ke)]))]) hx hb hr (Or.inl ⟨_, rfl⟩) hlocks hQ hAe hK (hP.sub [0] rfl) (hD.sub [0] (by decide) rfl) hS (by omega) (by omega) dX2_judge_51 ?_
        exact ⟨2, rfl, rfl, by first | exact (jdK_1 (by omega)).symm | exact (jdK_2 (by omega) (by omega)).symm | exact (jdK_3 (by omega) (by omega) (Or.inl (by omega))).symm | exact (jdK_3 (by omega) (by omega) (Or.inr (Int32.not_le.mp c75))).symm | exact (jdK_4 (by omega) (by omega) (by omega) (Int32.not_lt.mpr c75) (Int32.not_le.mp c88)).symm | exact (jdK_5 (by omega) (by omega) (by omega) (Int32.not_lt.mpr c75) (Int32.not_lt.mpr c88) (by omega)).symm | exact (jdK_6 (by omega) (by omega) (by omega) (Int32.not_lt.mpr c75) (Int32.not_lt.mpr c88) (by omega)).symm⟩

set_option maxHeartbeats 4000000 in
set_option maxRecDepth 100000 in
theorem c_isPersist (l : Launch) (g : GT) (hh : Nat) (fa : Nat) (me : Nat) (nw : Nat) (tS : Nat) (tE : Nat) (ho : Nat) (en : Nat) (le : Nat) (bo : Int32) (ma : Nat) (mS : Nat) (mE : Nat) (cl : Nat) (ke : Nat) (hfa : fa ≤ 1) (hnw : nw ≤ 1) (hcl : cl ≤ 1) (hke : ke ≤ 1) : CT l g yX2_isPersistent wsX2_isPersistent ({ frames := 0, cells := 0, slots := 0, locals := 0 } : Room) [.ref hh] [(hh, .inr (1, [.int (nI fa), .int (nI me), .int (nI nw), .int (nI tS), .int (nI tE), .int (nI ho), .int (nI en), .int (nI le), .int bo, .int (nI ma), .int (nI mS), .int (nI mE), .int (nI cl), .int (nI ke)]))] (fun r w => (r = some (.int (nI 1)) ∧ w = [(hh, .inr (1, [.int (nI fa), .int (nI me), .int (nI nw), .int (nI tS), .int (nI tE), .int (nI ho), .int (nI en), .int (nI le), .int bo, .int (nI ma), .int (nI mS), .int (nI mE), .int (nI cl), .int (nI ke)]))] ∧ (cl = 0 ∧ (nw = 1 ∨ ke = 1))) ∨ (r = some (.int (nI 0)) ∧ w = [(hh, .inr (1, [.int (nI fa), .int (nI me), .int (nI nw), .int (nI tS), .int (nI tE), .int (nI ho), .int (nI en), .int (nI le), .int bo, .int (nI ma), .int (nI mS), .int (nI mE), .int (nI cl), .int (nI ke)]))] ∧ (¬ (cl = 0 ∧ (nw = 1 ∨ ke = 1))))) (0) (0) := by
  refine ct_of (cc := cX2_isPersistent) (maxL := 1) (ret := (some .boolean)) (by decide) rfl (Nat.le_of_ble_eq_true rfl) ?_
  intro p e s m args below meth c A Q hx hb hr hml hown hts hlocks hnam hAe hQ hA hG hK hP hD hS ls hl
  have hl : lv_has ls 1 [(0, .ref hh)] := hl
  have hown : s.vm.findClass RX2 = some m.cls := hown
  have hinX2 : ∀ w ∈ u_ws RX2 TX2 14, w ∈ wsX2_isPersistent := by decide +kernel
  have hf19 := hts (.fieldLink RX2 19 "RequestReader$Head" "isNewer" "Z") (by decide +kernel)
  have hf49 := hts (.fieldLink RX2 49 "RequestReader$Head" "saysClose" "Z") (by decide +kernel)
  have hf52 := hts (.fieldLink RX2 52 "RequestReader$Head" "saysKeepAlive" "Z") (by decide +kernel)
  refine lv_aload_n hx hb dX2_isPersistent_0 rfl (lv_at hl 0 rfl) ?_
  refine va_get (D := gD g) (ci := 1) (v := .int (nI cl)) (C := RX2) (T := TX2) (N := 14) hx hb hts hinX2 hown hK hP 0 rfl rfl 12 (by decide) hf49 (fun _ h9 => h9) rfl dX2_isPersistent_1 ?_
  refine lv_if_ne (tgt := 25) hx hb dX2_isPersistent_4 (by decide) (fun c4 => ?_) (fun c4 => ?_)
  · skip
    have c4 : ¬ (cl = 0) := fun z => c4 ((nI_eq (a := cl) (b := 0) (by omega) (by omega)).mpr z)
    refine lv_iconst (v := nI 0) hx hb dX2_isPersistent_25 (by decide) ?_
    refine ct_iret (w := [(hh, .inr (1, [.int (nI fa), .int (nI me), .int (nI nw), .int (nI tS), .int (nI tE), .int (nI ho), .int (nI en), .int (nI le), .int bo, .int (nI ma), .int (nI mS), .int (nI mE), .int (nI cl), .int (nI ke)]))]) hx hb hr rfl hlocks hQ hAe hK (hP.sub [0] rfl) (hD.sub [0] (by decide) rfl) hS (by omega) (by omega) dX2_isPersistent_26 ?_
    refine Or.inr ((?_))
    exact ⟨rfl, rfl, by omega⟩
  · skip
    have c4 : cl = 0 := (nI_eq (a := cl) (b := 0) (by omega) (by omega)).mp c4
    refine lv_aload_n hx hb dX2_isPersistent_7 rfl (lv_at hl 0 rfl) ?_
    refine va_get (D := gD g) (ci := 1) (v := .int (nI nw)) (C := RX2) (T := TX2) (N := 14) hx hb hts hinX2 hown hK hP 0 rfl rfl 2 (by decide) hf19 (fun _ h9 => h9) rfl dX2_isPersistent_8 ?_
    refine lv_if_ne (tgt := 21) hx hb dX2_isPersistent_11 (by decide) (fun c11 => ?_) (fun c11 => ?_)
    · skip
      have c11 : ¬ (nw = 0) := fun z => c11 ((nI_eq (a := nw) (b := 0) (by omega) (by omega)).mpr z)
      refine lv_iconst (v := nI 1) hx hb dX2_isPersistent_21 (by decide) ?_
      refine lv_goto (tgt := 26) hx hb dX2_isPersistent_22 (by decide) ?_
      refine ct_iret (w := [(hh, .inr (1, [.int (nI fa), .int (nI me), .int (nI nw), .int (nI tS), .int (nI tE), .int (nI ho), .int (nI en), .int (nI le), .int bo, .int (nI ma), .int (nI mS), .int (nI mE), .int (nI cl), .int (nI ke)]))]) hx hb hr rfl hlocks hQ hAe hK (hP.sub [0] rfl) (hD.sub [0] (by decide) rfl) hS (by omega) (by omega) dX2_isPersistent_26 ?_
      refine Or.inl (?_)
      exact ⟨rfl, rfl, by omega⟩
    · skip
      have c11 : nw = 0 := (nI_eq (a := nw) (b := 0) (by omega) (by omega)).mp c11
      refine lv_aload_n hx hb dX2_isPersistent_14 rfl (lv_at hl 0 rfl) ?_
      refine va_get (D := gD g) (ci := 1) (v := .int (nI ke)) (C := RX2) (T := TX2) (N := 14) hx hb hts hinX2 hown hK hP 0 rfl rfl 13 (by decide) hf52 (fun _ h9 => h9) rfl dX2_isPersistent_15 ?_
      refine lv_if_eq (tgt := 25) hx hb dX2_isPersistent_18 (by decide) (fun c18 => ?_) (fun c18 => ?_)
      · skip
        have c18 : ke = 0 := (nI_eq (a := ke) (b := 0) (by omega) (by omega)).mp c18
        refine lv_iconst (v := nI 0) hx hb dX2_isPersistent_25 (by decide) ?_
        refine ct_iret (w := [(hh, .inr (1, [.int (nI fa), .int (nI me), .int (nI nw), .int (nI tS), .int (nI tE), .int (nI ho), .int (nI en), .int (nI le), .int bo, .int (nI ma), .int (nI mS), .int (nI mE), .int (nI cl), .int (nI ke)]))]) hx hb hr rfl hlocks hQ hAe hK (hP.sub [0] rfl) (hD.sub [0] (by decide) rfl) hS (by omega) (by omega) dX2_isPersistent_26 ?_
        refine Or.inr ((?_))
        exact ⟨rfl, rfl, by omega⟩
      · skip
        have c18 : ¬ (ke = 0) := fun z => c18 ((nI_eq (a := ke) (b := 0) (by omega) (by omega)).mpr z)
        refine lv_iconst (v := nI 1) hx hb dX2_isPersistent_21 (by decide) ?_
        refine lv_goto (tgt := 26) hx hb dX2_isPersistent_22 (by decide) ?_
        refine ct_iret (w := [(hh, .inr (1, [.int (nI fa), .int (nI me), .int (nI nw), .int (nI tS), .int (nI tE), .int (nI ho), .int (nI en), .int (nI le), .int bo, .int (nI ma), .int (nI mS), .int (nI mE), .int (nI cl), .int (nI ke)]))]) hx hb hr rfl hlocks hQ hAe hK (hP.sub [0] rfl) (hD.sub [0] (by decide) rfl) hS (by omega) (by omega) dX2_isPersistent_26 ?_
        refine Or.inl (?_)
        exact ⟨rfl, rfl, by omega⟩

set_option maxHeartbeats 4000000 in
set_option maxRecDepth 100000 in
theorem c_hasMark (l : Launch) (g : GT) (hh : Nat) (fa : Nat) (me : Nat) (nw : Nat) (tS : Nat) (tE : Nat) (ho : Nat) (en : Nat) (le : Nat) (bo : Int32) (ma : Nat) (mS : Nat) (mE : Nat) (cl : Nat) (ke : Nat) (kb : Nat) (qb : Nat) (nb : Nat) (sb : Nat) (fb : Nat → Int32) (v : Int32) (hs1 : sb ≤ nb) (hs2 : nb ≤ 4096) (hmm : ma = 1 → mS ≤ mE ∧ mE ≤ sb) (hma : ma ≤ 4096) : CT l g yX2_hasMark wsX2_hasMark ({ frames := 5, cells := 0, slots := 0, locals := 110 } : Room) [.ref hh, .ref kb, .int v] [(hh, .inr (1, [.int (nI fa), .int (nI me), .int (nI nw), .int (nI tS), .int (nI tE), .int (nI ho), .int (nI en), .int (nI le), .int bo, .int (nI ma), .int (nI mS), .int (nI mE), .int (nI cl), .int (nI ke)])), (kb, .inr (3, [.int (nI 4096), .ref qb, .int (nI sb)])), (qb, .inl (gB g, nb, .inl fb))] (fun r w => (r = some (.int (nI 1)) ∧ w = [(hh, .inr (1, [.int (nI fa), .int (nI me), .int (nI nw), .int (nI tS), .int (nI tE), .int (nI ho), .int (nI en), .int (nI le), .int bo, .int (nI ma), .int (nI mS), .int (nI mE), .int (nI cl), .int (nI ke)])), (kb, .inr (3, [.int (nI 4096), .ref qb, .int (nI sb)])), (qb, .inl (gB g, nb, .inl fb))] ∧ (pMark fb v ma mS mE)) ∨ (r = some (.int (nI 0)) ∧ w = [(hh, .inr (1, [.int (nI fa), .int (nI me), .int (nI nw), .int (nI tS), .int (nI tE), .int (nI ho), .int (nI en), .int (nI le), .int bo, .int (nI ma), .int (nI mS), .int (nI mE), .int (nI cl), .int (nI ke)])), (kb, .inr (3, [.int (nI 4096), .ref qb, .int (nI sb)])), (qb, .inl (gB g, nb, .inl fb))] ∧ (¬ (pMark fb v ma mS mE)))) (0) (0) := by
  refine ct_of (cc := cX2_hasMark) (maxL := 5) (ret := (some .boolean)) (by decide) rfl (Nat.le_of_ble_eq_true rfl) ?_
  intro p e s m args below meth c A Q hx hb hr hml hown hts hlocks hnam hAe hQ hA hG hK hP hD hS ls hl
  have hl : lv_has ls 5 [(0, .ref hh), (1, .ref kb), (2, .int v)] := hl
  have hown : s.vm.findClass RX2 = some m.cls := hown
  have hinX2 : ∀ w ∈ u_ws RX2 TX2 14, w ∈ wsX2_hasMark := by decide +kernel
  have hf40 := hts (.fieldLink RX2 40 "RequestReader$Head" "matches" "I") (by decide +kernel)
  have hf43 := hts (.fieldLink RX2 43 "RequestReader$Head" "matchStart" "I") (by decide +kernel)
  have hf46 := hts (.fieldLink RX2 46 "RequestReader$Head" "matchEnd" "I") (by decide +kernel)
  refine lv_aload_n hx hb dX2_hasMark_0 rfl (lv_at hl 0 rfl) ?_
  refine va_get (D := gD g) (ci := 1) (v := .int (nI ma)) (C := RX2) (T := TX2) (N := 14) hx hb hts hinX2 hown hK hP 0 rfl rfl 9 (by decide) hf40 (fun _ h9 => h9) rfl dX2_hasMark_1 ?_
  refine lv_iconst (v := nI 1) hx hb dX2_hasMark_4 (by decide) ?_
  refine lv_icmp_eq (tgt := 10) hx hb dX2_hasMark_5 (by decide) (fun c5 => ?_) (fun c5 => ?_)
  · skip
    have c5 : ma = 1 := (nI_eq (a := ma) (b := 1) (by omega) (by omega)).mp c5
    have hm2 := hmm c5
    refine lv_aload_n hx hb dX2_hasMark_10 rfl (lv_at hl 0 rfl) ?_
    refine va_get (D := gD g) (ci := 1) (v := .int (nI mE)) (C := RX2) (T := TX2) (N := 14) hx hb hts hinX2 hown hK hP 0 rfl rfl 11 (by decide) hf46 (fun _ h9 => h9) rfl dX2_hasMark_11 ?_
    refine lv_aload_n hx hb dX2_hasMark_14 rfl (lv_at hl 0 rfl) ?_
    refine va_get (D := gD g) (ci := 1) (v := .int (nI mS)) (C := RX2) (T := TX2) (N := 14) hx hb hts hinX2 hown hK hP 0 rfl rfl 10 (by decide) hf43 (fun _ h9 => h9) rfl dX2_hasMark_15 ?_
    refine q_isub (v := nI mE - nI mS) hx hb dX2_hasMark_18 (rfl) ?_
    refine lv_bipush (v := nI 10) hx hb dX2_hasMark_19 (by decide) ?_
    refine lv_icmp_ne (tgt := 28) hx hb dX2_hasMark_21 (by decide) (fun c21 => ?_) (fun c21 => ?_)
    · skip
      have c21 : ¬ mE = mS + 10 := fun z => c21 ((sub_eq3 (by omega) (by omega) (by omega)).mpr z)
      refine lv_iconst (v := nI 0) hx hb dX2_hasMark_28 (by decide) ?_
      refine lv_istore_n (lv' := [(3, .int (nI 0)), (0, .ref hh), (1, .ref kb), (2, .int v)]) hx hb dX2_hasMark_29 rfl hl (by decide) rfl (fun ls hl => ?_)
      refine lv_iconst (v := nI 0) hx hb dX2_hasMark_30 (by decide) ?_
      refine lv_istore (lv' := [(4, .int (nI 0)), (3, .int (nI 0)), (0, .ref hh), (1, .ref kb), (2, .int v)]) hx hb dX2_hasMark_31 hl (by decide) rfl (fun ls hl => ?_)
      refine lv_iload_n hx hb dX2_hasMark_33 rfl (lv_at hl 1 rfl) ?_
      refine lv_if_eq (tgt := 76) hx hb dX2_hasMark_34 (by decide) (fun _ => ?_) (fun c34 => absurd (by decide) c34)
      refine lv_iload_n hx hb dX2_hasMark_76 rfl (lv_at hl 1 rfl) ?_
      refine lv_if_ne (tgt := 97) hx hb dX2_hasMark_77 (by decide) (fun c77 => absurd (by decide) c77) (fun _ => ?_)
      refine lv_aload_n hx hb dX2_hasMark_80 rfl (lv_at hl 3 rfl) ?_
      refine lv_aload_n hx hb dX2_hasMark_81 rfl (lv_at hl 2 rfl) ?_
      refine va_get (D := gD g) (ci := 1) (v := .int (nI mS)) (C := RX2) (T := TX2) (N := 14) hx hb hts hinX2 hown hK hP 0 rfl rfl 10 (by decide) hf43 (fun _ h9 => h9) rfl dX2_hasMark_82 ?_
      refine lv_aload_n hx hb dX2_hasMark_85 rfl (lv_at hl 2 rfl) ?_
      refine va_get (D := gD g) (ci := 1) (v := .int (nI mE)) (C := RX2) (T := TX2) (N := 14) hx hb hts hinX2 hown hK hP 0 rfl rfl 11 (by decide) hf46 (fun _ h9 => h9) rfl dX2_hasMark_86 ?_
      refine va_ldcS hx hb hown ((hG.1 16 (by decide)).2.2.2.2) dX2_hasMark_89 ?_
      refine ct_callV (wr := [(hh, .inr (1, [.int (nI fa), .int (nI me), .int (nI nw), .int (nI tS), .int (nI tE), .int (nI ho), .int (nI en), .int (nI le), .int bo, .int (nI ma), .int (nI mS), .int (nI mE), .int (nI cl), .int (nI ke)]))]) hx hb hml hown hts hK hP hD hS hA hG hl.1 (c_hasText l g kb qb 4096 nb sb fb mS mE 16 (by omega) (by omega) (by omega) (by omega) (by omega) (by first | assumption | decide)) (cwV 3 hts gX2_hasMark_X4_hasText rfl rfl rfl (by decide +kernel) ⟨Nat.le_of_ble_eq_true rfl, Nat.le_of_ble_eq_true rfl⟩) (va_recv hK hP (ci := 3) (q0 := 1) rfl rfl) rfl rfl (Nat.le_of_ble_eq_true rfl) dX2_hasMark_91 ⟨show 0 + 0 ≤ 0 by omega, show 0 + 0 ≤ 0 by omega⟩ [1, 2] [0] rfl rfl (by decide) (by decide) (by decide) (fun r_ w_ H locs hp_ hP hD hS => ?_)
      rcases hp_ with ⟨rfl, rfl, hT_91⟩ | ⟨rfl, rfl, hF_91⟩
      · skip
        have hP : va_P (gD g) vwCl [(hh, .inr (1, [.int (nI fa), .int (nI me), .int (nI nw), .int (nI tS), .int (nI tE), .int (nI ho), .int (nI en), .int (nI le), .int bo, .int (nI ma), .int (nI mS), .int (nI mE), .int (nI cl), .int (nI ke)])), (kb, .inr (3, [.int (nI 4096), .ref qb, .int (nI sb)])), (qb, .inl (gB g, nb, .inl fb))] H := hP
        have hD : va_D A [(hh, .inr (1, [.int (nI fa), .int (nI me), .int (nI nw), .int (nI tS), .int (nI tE), .int (nI ho), .int (nI en), .int (nI le), .int bo, .int (nI ma), .int (nI mS), .int (nI mE), .int (nI cl), .int (nI ke)])), (kb, .inr (3, [.int (nI 4096), .ref qb, .int (nI sb)])), (qb, .inl (gB g, nb, .inl fb))] := hD
        have hT_91 : pText fb mS mE 16 := hT_91
        refine W.eq (g2 := F0 m 94 ls [.int (nI 1)]) rfl ?_
        refine lv_if_eq (tgt := 101) hx hb dX2_hasMark_94 (by decide) (fun c94 => absurd c94 (by decide)) (fun _ => ?_)
        refine lv_iconst (v := nI 1) hx hb dX2_hasMark_97 (by decide) ?_
        refine lv_goto (tgt := 102) hx hb dX2_hasMark_98 (by decide) ?_
        refine ct_iret (w := [(hh, .inr (1, [.int (nI fa), .int (nI me), .int (nI nw), .int (nI tS), .int (nI tE), .int (nI ho), .int (nI en), .int (nI le), .int bo, .int (nI ma), .int (nI mS), .int (nI mE), .int (nI cl), .int (nI ke)])), (kb, .inr (3, [.int (nI 4096), .ref qb, .int (nI sb)])), (qb, .inl (gB g, nb, .inl fb))]) hx hb hr rfl hlocks hQ hAe hK (hP.sub [0, 1, 2] rfl) (hD.sub [0, 1, 2] (by decide) rfl) hS (by omega) (by omega) dX2_hasMark_102 ?_
        refine Or.inl (?_)
        exact ⟨rfl, rfl, by first | exact ⟨c5, Or.inl ⟨c21, fun j hj => hall j (by omega)⟩⟩ | exact ⟨c5, Or.inr hT_91⟩⟩
      · skip
        have hP : va_P (gD g) vwCl [(hh, .inr (1, [.int (nI fa), .int (nI me), .int (nI nw), .int (nI tS), .int (nI tE), .int (nI ho), .int (nI en), .int (nI le), .int bo, .int (nI ma), .int (nI mS), .int (nI mE), .int (nI cl), .int (nI ke)])), (kb, .inr (3, [.int (nI 4096), .ref qb, .int (nI sb)])), (qb, .inl (gB g, nb, .inl fb))] H := hP
        have hD : va_D A [(hh, .inr (1, [.int (nI fa), .int (nI me), .int (nI nw), .int (nI tS), .int (nI tE), .int (nI ho), .int (nI en), .int (nI le), .int bo, .int (nI ma), .int (nI mS), .int (nI mE), .int (nI cl), .int (nI ke)])), (kb, .inr (3, [.int (nI 4096), .ref qb, .int (nI sb)])), (qb, .inl (gB g, nb, .inl fb))] := hD
        have hF_91 : ¬ (pText fb mS mE 16) := hF_91
        refine W.eq (g2 := F0 m 94 ls [.int (nI 0)]) rfl ?_
        refine lv_if_eq (tgt := 101) hx hb dX2_hasMark_94 (by decide) (fun _ => ?_) (fun c94 => absurd (by decide) c94)
        refine lv_iconst (v := nI 0) hx hb dX2_hasMark_101 (by decide) ?_
        refine ct_iret (w := [(hh, .inr (1, [.int (nI fa), .int (nI me), .int (nI nw), .int (nI tS), .int (nI tE), .int (nI ho), .int (nI en), .int (nI le), .int bo, .int (nI ma), .int (nI mS), .int (nI mE), .int (nI cl), .int (nI ke)])), (kb, .inr (3, [.int (nI 4096), .ref qb, .int (nI sb)])), (qb, .inl (gB g, nb, .inl fb))]) hx hb hr rfl hlocks hQ hAe hK (hP.sub [0, 1, 2] rfl) (hD.sub [0, 1, 2] (by decide) rfl) hS (by omega) (by omega) dX2_hasMark_102 ?_
        refine Or.inr ((?_))
        exact ⟨rfl, rfl, by first | exact fun z => c5 z.1 | exact fun z => z.2.elim (fun w => c21 w.1) hF_91 | exact fun z => z.2.elim (fun w => c61 ((w.2 i (by omega)).trans ev_58.symm)) hF_91⟩
    · skip
      have c21 : mE = mS + 10 := (sub_eq3 (by omega) (by omega) (by omega)).mp c21
      refine lv_iconst (v := nI 1) hx hb dX2_hasMark_24 (by decide) ?_
      refine lv_goto (tgt := 29) hx hb dX2_hasMark_25 (by decide) ?_
      refine lv_istore_n (lv' := [(3, .int (nI 1)), (0, .ref hh), (1, .ref kb), (2, .int v)]) hx hb dX2_hasMark_29 rfl hl (by decide) rfl (fun ls hl => ?_)
      refine lv_iconst (v := nI 0) hx hb dX2_hasMark_30 (by decide) ?_
      refine lv_istore (lv' := [(4, .int (nI 0)), (3, .int (nI 1)), (0, .ref hh), (1, .ref kb), (2, .int v)]) hx hb dX2_hasMark_31 hl (by decide) rfl (fun ls hl => ?_)
      have K33 : ∀ (N_ : Nat) (i : Nat), (i ≤ 10) → (∀ j, j < i → fb (mS + j) &&& 255 = mkC v j) → (10 - i) < N_ → ∀ (H : Heap) (locs : List Loc) (ls : Array Slot), va_P (gD g) vwCl [(hh, .inr (1, [.int (nI fa), .int (nI me), .int (nI nw), .int (nI tS), .int (nI tE), .int (nI ho), .int (nI en), .int (nI le), .int bo, .int (nI ma), .int (nI mS), .int (nI mE), .int (nI cl), .int (nI ke)])), (kb, .inr (3, [.int (nI 4096), .ref qb, .int (nI sb)])), (qb, .inl (gB g, nb, .inl fb))] H → va_D A [(hh, .inr (1, [.int (nI fa), .int (nI me), .int (nI nw), .int (nI tS), .int (nI tE), .int (nI ho), .int (nI en), .int (nI le), .int bo, .int (nI ma), .int (nI mS), .int (nI mE), .int (nI cl), .int (nI ke)])), (kb, .inr (3, [.int (nI 4096), .ref qb, .int (nI sb)])), (qb, .inl (gB g, nb, .inl fb))] → va_S A s.heap H locs → lv_has ls 5 [(0, .ref hh), (1, .ref kb), (2, .int v), (3, .int (nI 1)), (4, .int (nI i))] → W p l e ({ frames := 5, cells := 0, slots := 0, locals := 110 } : Room) s m args below meth c H locs (0) (0) Q (F0 m 33 ls []) := by
        intro N_
        induction N_ with
        | zero => intro i hi hall hm_; exact absurd hm_ (Nat.not_lt_zero _)
        | succ N_ ih_K33 =>
          intro i hi hall hm_ H locs ls hP hD hS hl
          refine lv_iload_n hx hb dX2_hasMark_33 rfl (lv_at hl 3 rfl) ?_
          refine lv_if_eq (tgt := 76) hx hb dX2_hasMark_34 (by decide) (fun c34 => absurd c34 (by decide)) (fun _ => ?_)
          refine lv_iload hx hb dX2_hasMark_37 (lv_at hl 4 rfl) ?_
          refine lv_bipush (v := nI 10) hx hb dX2_hasMark_39 (by decide) ?_
          refine lv_icmp_ge (tgt := 76) hx hb dX2_hasMark_41 (by decide) (fun c41 => ?_) (fun c41 => ?_)
          · skip
            have c41 : 10 ≤ i := (nI_leI (a := 10) (b := i) (by omega) (by omega)).mp c41
            refine lv_iload_n hx hb dX2_hasMark_76 rfl (lv_at hl 3 rfl) ?_
            refine lv_if_ne (tgt := 97) hx hb dX2_hasMark_77 (by decide) (fun _ => ?_) (fun c77 => absurd c77 (by decide))
            refine lv_iconst (v := nI 1) hx hb dX2_hasMark_97 (by decide) ?_
            refine lv_goto (tgt := 102) hx hb dX2_hasMark_98 (by decide) ?_
            refine ct_iret (w := [(hh, .inr (1, [.int (nI fa), .int (nI me), .int (nI nw), .int (nI tS), .int (nI tE), .int (nI ho), .int (nI en), .int (nI le), .int bo, .int (nI ma), .int (nI mS), .int (nI mE), .int (nI cl), .int (nI ke)])), (kb, .inr (3, [.int (nI 4096), .ref qb, .int (nI sb)])), (qb, .inl (gB g, nb, .inl fb))]) hx hb hr rfl hlocks hQ hAe hK (hP.sub [0, 1, 2] rfl) (hD.sub [0, 1, 2] (by decide) rfl) hS (by omega) (by omega) dX2_hasMark_102 ?_
            refine Or.inl (?_)
            exact ⟨rfl, rfl, by first | exact ⟨c5, Or.inl ⟨c21, fun j hj => hall j (by omega)⟩⟩ | exact ⟨c5, Or.inr hT_91⟩⟩
          · skip
            have c41 : ¬ (10 ≤ i) := fun z => c41 ((nI_leI (a := 10) (b := i) (by omega) (by omega)).mpr z)
            refine lv_aload_n hx hb dX2_hasMark_44 rfl (lv_at hl 1 rfl) ?_
            refine lv_aload_n hx hb dX2_hasMark_45 rfl (lv_at hl 0 rfl) ?_
            refine va_get (D := gD g) (ci := 1) (v := .int (nI mS)) (C := RX2) (T := TX2) (N := 14) hx hb hts hinX2 hown hK hP 0 rfl rfl 10 (by decide) hf43 (fun _ h9 => h9) rfl dX2_hasMark_46 ?_
            refine lv_iload hx hb dX2_hasMark_49 (lv_at hl 4 rfl) ?_
            refine q_iadd (v := nI (mS + i)) hx hb dX2_hasMark_51 (nI_add mS i) ?_
            refine ct_callV (wr := [(hh, .inr (1, [.int (nI fa), .int (nI me), .int (nI nw), .int (nI tS), .int (nI tE), .int (nI ho), .int (nI en), .int (nI le), .int bo, .int (nI ma), .int (nI mS), .int (nI mE), .int (nI cl), .int (nI ke)]))]) hx hb hml hown hts hK hP hD hS hA hG hl.1 (c_getIn l g kb qb 4096 nb sb fb (mS + i) (by omega) (by omega) (by omega)) (cwV 1 hts gX2_hasMark_X4_get rfl rfl rfl (by decide +kernel) ⟨Nat.le_of_ble_eq_true rfl, Nat.le_of_ble_eq_true rfl⟩) (va_recv hK hP (ci := 3) (q0 := 1) rfl rfl) rfl rfl (Nat.le_of_ble_eq_true rfl) dX2_hasMark_52 ⟨show 0 + 0 ≤ 0 by omega, show 0 + 0 ≤ 0 by omega⟩ [1, 2] [0] rfl rfl (by decide) (by decide) (by decide) (fun r_ w_ H locs hp_ hP hD hS => ?_)
            obtain ⟨rfl, rfl⟩ := hp_
            have hP : va_P (gD g) vwCl [(hh, .inr (1, [.int (nI fa), .int (nI me), .int (nI nw), .int (nI tS), .int (nI tE), .int (nI ho), .int (nI en), .int (nI le), .int bo, .int (nI ma), .int (nI mS), .int (nI mE), .int (nI cl), .int (nI ke)])), (kb, .inr (3, [.int (nI 4096), .ref qb, .int (nI sb)])), (qb, .inl (gB g, nb, .inl fb))] H := hP
            have hD : va_D A [(hh, .inr (1, [.int (nI fa), .int (nI me), .int (nI nw), .int (nI tS), .int (nI tE), .int (nI ho), .int (nI en), .int (nI le), .int bo, .int (nI ma), .int (nI mS), .int (nI mE), .int (nI cl), .int (nI ke)])), (kb, .inr (3, [.int (nI 4096), .ref qb, .int (nI sb)])), (qb, .inl (gB g, nb, .inl fb))] := hD
            refine W.eq (g2 := F0 m 55 ls [.int (fb (mS + i) &&& 255)]) rfl ?_
            refine lv_iload_n hx hb dX2_hasMark_55 rfl (lv_at hl 2 rfl) ?_
            refine lv_iload hx hb dX2_hasMark_56 (lv_at hl 4 rfl) ?_
            refine ct_callS (wr := [(hh, .inr (1, [.int (nI fa), .int (nI me), .int (nI nw), .int (nI tS), .int (nI tE), .int (nI ho), .int (nI en), .int (nI le), .int bo, .int (nI ma), .int (nI mS), .int (nI mE), .int (nI cl), .int (nI ke)])), (kb, .inr (3, [.int (nI 4096), .ref qb, .int (nI sb)])), (qb, .inl (gB g, nb, .inl fb))]) hx hb hml hown hts hK hP hD hS hA hG hl.1 (c_ofMark l g v i (by omega)) (va_cwS 2 hts gX2_hasMark_X1_ofMark rfl rfl rfl (by decide +kernel) ⟨Nat.le_of_ble_eq_true rfl, Nat.le_of_ble_eq_true rfl⟩) rfl rfl (Nat.le_of_ble_eq_true rfl) dX2_hasMark_58 ⟨show 0 + 0 ≤ 0 by omega, show 0 + 0 ≤ 0 by omega⟩ [] [0, 1, 2] rfl rfl (by decide) (by decide) (by decide) (fun r_ w_ H locs hp_ hP hD hS => ?_)
            obtain ⟨v1_58, rfl, rfl, ev_58⟩ := hp_
            have hP : va_P (gD g) vwCl [(hh, .inr (1, [.int (nI fa), .int (nI me), .int (nI nw), .int (nI tS), .int (nI tE), .int (nI ho), .int (nI en), .int (nI le), .int bo, .int (nI ma), .int (nI mS), .int (nI mE), .int (nI cl), .int (nI ke)])), (kb, .inr (3, [.int (nI 4096), .ref qb, .int (nI sb)])), (qb, .inl (gB g, nb, .inl fb))] H := hP
            have hD : va_D A [(hh, .inr (1, [.int (nI fa), .int (nI me), .int (nI nw), .int (nI tS), .int (nI tE), .int (nI ho), .int (nI en), .int (nI le), .int bo, .int (nI ma), .int (nI mS), .int (nI mE), .int (nI cl), .int (nI ke)])), (kb, .inr (3, [.int (nI 4096), .ref qb, .int (nI sb)])), (qb, .inl (gB g, nb, .inl fb))] := hD
            have ev_58 : v1_58 = mkC v i := ev_58
            refine W.eq (g2 := F0 m 61 ls [.int v1_58, .int (fb (mS + i) &&& 255)]) rfl ?_
            refine lv_icmp_ne (tgt := 68) hx hb dX2_hasMark_61 (by decide) (fun c61 => ?_) (fun c61 => ?_)
            · skip
              refine lv_iconst (v := nI 0) hx hb dX2_hasMark_68 (by decide) ?_
              refine lv_istore_n (lv' := [(3, .int (nI 0)), (0, .ref hh), (1, .ref kb), (2, .int v), (4, .int (nI i))]) hx hb dX2_hasMark_69 rfl hl (by decide) rfl (fun ls hl => ?_)
              refine lv_iinc (v := nI (i + 1)) (lv' := [(4, .int (nI (i + 1))), (3, .int (nI 0)), (0, .ref hh), (1, .ref kb), (2, .int v)]) hx hb dX2_hasMark_70 hl (k := 4) rfl (nI_inc i 1) (by decide) rfl (fun ls hl => ?_)
              refine lv_goto (tgt := 33) hx hb dX2_hasMark_73 (by decide) ?_
              refine lv_iload_n hx hb dX2_hasMark_33 rfl (lv_at hl 1 rfl) ?_
              refine lv_if_eq (tgt := 76) hx hb dX2_hasMark_34 (by decide) (fun _ => ?_) (fun c34 => absurd (by decide) c34)
              refine lv_iload_n hx hb dX2_hasMark_76 rfl (lv_at hl 1 rfl) ?_
              refine lv_if_ne (tgt := 97) hx hb dX2_hasMark_77 (by decide) (fun c77 => absurd (by decide) c77) (fun _ => ?_)
              refine lv_aload_n hx hb dX2_hasMark_80 rfl (lv_at hl 3 rfl) ?_
              refine lv_aload_n hx hb dX2_hasMark_81 rfl (lv_at hl 2 rfl) ?_
              refine va_get (D := gD g) (ci := 1) (v := .int (nI mS)) (C := RX2) (T := TX2) (N := 14) hx hb hts hinX2 hown hK hP 0 rfl rfl 10 (by decide) hf43 (fun _ h9 => h9) rfl dX2_hasMark_82 ?_
              refine lv_aload_n hx hb dX2_hasMark_85 rfl (lv_at hl 2 rfl) ?_
              refine va_get (D := gD g) (ci := 1) (v := .int (nI mE)) (C := RX2) (T := TX2) (N := 14) hx hb hts hinX2 hown hK hP 0 rfl rfl 11 (by decide) hf46 (fun _ h9 => h9) rfl dX2_hasMark_86 ?_
              refine va_ldcS hx hb hown ((hG.1 16 (by decide)).2.2.2.2) dX2_hasMark_89 ?_
              refine ct_callV (wr := [(hh, .inr (1, [.int (nI fa), .int (nI me), .int (nI nw), .int (nI tS), .int (nI tE), .int (nI ho), .int (nI en), .int (nI le), .int bo, .int (nI ma), .int (nI mS), .int (nI mE), .int (nI cl), .int (nI ke)]))]) hx hb hml hown hts hK hP hD hS hA hG hl.1 (c_hasText l g kb qb 4096 nb sb fb mS mE 16 (by omega) (by omega) (by omega) (by omega) (by omega) (by first | assumption | decide)) (cwV 3 hts gX2_hasMark_X4_hasText rfl rfl rfl (by decide +kernel) ⟨Nat.le_of_ble_eq_true rfl, Nat.le_of_ble_eq_true rfl⟩) (va_recv hK hP (ci := 3) (q0 := 1) rfl rfl) rfl rfl (Nat.le_of_ble_eq_true rfl) dX2_hasMark_91 ⟨show 0 + 0 ≤ 0 by omega, show 0 + 0 ≤ 0 by omega⟩ [1, 2] [0] rfl rfl (by decide) (by decide) (by decide) (fun r_ w_ H locs hp_ hP hD hS => ?_)
              rcases hp_ with ⟨rfl, rfl, hT_91⟩ | ⟨rfl, rfl, hF_91⟩
              · skip
                have hP : va_P (gD g) vwCl [(hh, .inr (1, [.int (nI fa), .int (nI me), .int (nI nw), .int (nI tS), .int (nI tE), .int (nI ho), .int (nI en), .int (nI le), .int bo, .int (nI ma), .int (nI mS), .int (nI mE), .int (nI cl), .int (nI ke)])), (kb, .inr (3, [.int (nI 4096), .ref qb, .int (nI sb)])), (qb, .inl (gB g, nb, .inl fb))] H := hP
                have hD : va_D A [(hh, .inr (1, [.int (nI fa), .int (nI me), .int (nI nw), .int (nI tS), .int (nI tE), .int (nI ho), .int (nI en), .int (nI le), .int bo, .int (nI ma), .int (nI mS), .int (nI mE), .int (nI cl), .int (nI ke)])), (kb, .inr (3, [.int (nI 4096), .ref qb, .int (nI sb)])), (qb, .inl (gB g, nb, .inl fb))] := hD
                have hT_91 : pText fb mS mE 16 := hT_91
                refine W.eq (g2 := F0 m 94 ls [.int (nI 1)]) rfl ?_
                refine lv_if_eq (tgt := 101) hx hb dX2_hasMark_94 (by decide) (fun c94 => absurd c94 (by decide)) (fun _ => ?_)
                refine lv_iconst (v := nI 1) hx hb dX2_hasMark_97 (by decide) ?_
                refine lv_goto (tgt := 102) hx hb dX2_hasMark_98 (by decide) ?_
                refine ct_iret (w := [(hh, .inr (1, [.int (nI fa), .int (nI me), .int (nI nw), .int (nI tS), .int (nI tE), .int (nI ho), .int (nI en), .int (nI le), .int bo, .int (nI ma), .int (nI mS), .int (nI mE), .int (nI cl), .int (nI ke)])), (kb, .inr (3, [.int (nI 4096), .ref qb, .int (nI sb)])), (qb, .inl (gB g, nb, .inl fb))]) hx hb hr rfl hlocks hQ hAe hK (hP.sub [0, 1, 2] rfl) (hD.sub [0, 1, 2] (by decide) rfl) hS (by omega) (by omega) dX2_hasMark_102 ?_
                refine Or.inl (?_)
                exact ⟨rfl, rfl, by first | exact ⟨c5, Or.inl ⟨c21, fun j hj => hall j (by omega)⟩⟩ | exact ⟨c5, Or.inr hT_91⟩⟩
              · skip
                have hP : va_P (gD g) vwCl [(hh, .inr (1, [.int (nI fa), .int (nI me), .int (nI nw), .int (nI tS), .int (nI tE), .int (nI ho), .int (nI en), .int (nI le), .int bo, .int (nI ma), .int (nI mS), .int (nI mE), .int (nI cl), .int (nI ke)])), (kb, .inr (3, [.int (nI 4096), .ref qb, .int (nI sb)])), (qb, .inl (gB g, nb, .inl fb))] H := hP
                have hD : va_D A [(hh, .inr (1, [.int (nI fa), .int (nI me), .int (nI nw), .int (nI tS), .int (nI tE), .int (nI ho), .int (nI en), .int (nI le), .int bo, .int (nI ma), .int (nI mS), .int (nI mE), .int (nI cl), .int (nI ke)])), (kb, .inr (3, [.int (nI 4096), .ref qb, .int (nI sb)])), (qb, .inl (gB g, nb, .inl fb))] := hD
                have hF_91 : ¬ (pText fb mS mE 16) := hF_91
                refine W.eq (g2 := F0 m 94 ls [.int (nI 0)]) rfl ?_
                refine lv_if_eq (tgt := 101) hx hb dX2_hasMark_94 (by decide) (fun _ => ?_) (fun c94 => absurd (by decide) c94)
                refine lv_iconst (v := nI 0) hx hb dX2_hasMark_101 (by decide) ?_
                refine ct_iret (w := [(hh, .inr (1, [.int (nI fa), .int (nI me), .int (nI nw), .int (nI tS), .int (nI tE), .int (nI ho), .int (nI en), .int (nI le), .int bo, .int (nI ma), .int (nI mS), .int (nI mE), .int (nI cl), .int (nI ke)])), (kb, .inr (3, [.int (nI 4096), .ref qb, .int (nI sb)])), (qb, .inl (gB g, nb, .inl fb))]) hx hb hr rfl hlocks hQ hAe hK (hP.sub [0, 1, 2] rfl) (hD.sub [0, 1, 2] (by decide) rfl) hS (by omega) (by omega) dX2_hasMark_102 ?_
                refine Or.inr ((?_))
                exact ⟨rfl, rfl, by first | exact fun z => c5 z.1 | exact fun z => z.2.elim (fun w => c21 w.1) hF_91 | exact fun z => z.2.elim (fun w => c61 ((w.2 i (by omega)).trans ev_58.symm)) hF_91⟩
            · skip
              refine lv_iconst (v := nI 1) hx hb dX2_hasMark_64 (by decide) ?_
              refine lv_goto (tgt := 69) hx hb dX2_hasMark_65 (by decide) ?_
              refine lv_istore_n (lv' := [(3, .int (nI 1)), (0, .ref hh), (1, .ref kb), (2, .int v), (4, .int (nI i))]) hx hb dX2_hasMark_69 rfl hl (by decide) rfl (fun ls hl => ?_)
              refine lv_iinc (v := nI (i + 1)) (lv' := [(4, .int (nI (i + 1))), (3, .int (nI 1)), (0, .ref hh), (1, .ref kb), (2, .int v)]) hx hb dX2_hasMark_70 hl (k := 4) rfl (nI_inc i 1) (by decide) rfl (fun ls hl => ?_)
              refine lv_goto (tgt := 33) hx hb dX2_hasMark_73 (by decide) ?_
              exact ih_K33 (i + 1) (by omega) (by exact lt_s hall (c61.trans ev_58)) (by omega) _ _ _ (hP.sub [0, 1, 2] rfl) (hD.sub [0, 1, 2] (by decide) rfl) hS (lv_sub hl [2, 3, 4, 1, 0] rfl)
      exact K33 ((10 - 0) + 1) 0 (by omega) (by intro j h1; omega) (Nat.lt_succ_self _) _ _ _ (hP.sub [0, 1, 2] rfl) (hD.sub [0, 1, 2] (by decide) rfl) hS (lv_sub hl [2, 3, 4, 1, 0] rfl)
  · skip
    have c5 : ¬ (ma = 1) := fun z => c5 ((nI_eq (a := ma) (b := 1) (by omega) (by omega)).mpr z)
    refine lv_iconst (v := nI 0) hx hb dX2_hasMark_8 (by decide) ?_
    refine ct_iret (w := [(hh, .inr (1, [.int (nI fa), .int (nI me), .int (nI nw), .int (nI tS), .int (nI tE), .int (nI ho), .int (nI en), .int (nI le), .int bo, .int (nI ma), .int (nI mS), .int (nI mE), .int (nI cl), .int (nI ke)])), (kb, .inr (3, [.int (nI 4096), .ref qb, .int (nI sb)])), (qb, .inl (gB g, nb, .inl fb))]) hx hb hr rfl hlocks hQ hAe hK (hP.sub [0, 1, 2] rfl) (hD.sub [0, 1, 2] (by decide) rfl) hS (by omega) (by omega) dX2_hasMark_9 ?_
    refine Or.inr ((?_))
    exact ⟨rfl, rfl, by first | exact fun z => c5 z.1 | exact fun z => z.2.elim (fun w => c21 w.1) hF_91 | exact fun z => z.2.elim (fun w => c61 ((w.2 i (by omega)).trans ev_58.symm)) hF_91⟩
