abbrev HS : Type := Nat × Nat × Nat × Nat × Nat × Nat × Nat × Nat × Int32 × Nat × Nat × Nat × Nat × Nat
theorem pFind_u {f : Nat → Int32} {code : Int32} {a b r s : Nat} (h : pFind f code a b r) (k : pFind f code a b s) : r = s := by
  rcases Nat.lt_trichotomy r s with z | z | z
  · rcases h.2 with w | w
    · rcases k.2 with v | v <;> omega
    · exact absurd w.2.2 (k.1 r w.1 z)
  · exact z
  · rcases k.2 with w | w
    · rcases h.2 with v | v <;> omega
    · exact absurd w.2.2 (h.1 s w.1 z)
noncomputable def fnd (f : Nat → Int32) (code : Int32) (a b : Nat) : Nat := Classical.epsilon (fun r => pFind f code a b r)
theorem fnd_eq {f : Nat → Int32} {code : Int32} {a b r : Nat} (h : pFind f code a b r) : fnd f code a b = r := pFind_u (Classical.epsilon_spec (p := fun r => pFind f code a b r) ⟨r, h⟩) h
def pMeth (f : Nat → Int32) (A : Nat) : Prop := 1 ≤ A ∧ A ≤ 16 ∧ ∀ j, j < A → pGreat (f j &&& 255)
def pTarg (f : Nat → Int32) (a b : Nat) : Prop := a < b ∧ f a &&& 255 = nI 47 ∧ ∀ j, a ≤ j → j < b → pVis (f j &&& 255)
/-- blanks and tabs are passed over -/
def skF (f : Nat → Int32) (e : Nat) : Nat → Nat → Nat
  | 0, a => a
  | m + 1, a => if a < e ∧ pSpace (f a &&& 255) then skF f e m (a + 1) else a
theorem skF_1 {f : Nat → Int32} {e m a : Nat} (h : a < e) (h2 : pSpace (f a &&& 255)) : skF f e (m + 1) a = skF f e m (a + 1) := by rw [skF, if_pos ⟨h, h2⟩]
theorem skF_2 {f : Nat → Int32} {e m a : Nat} (h : ¬ (a < e ∧ pSpace (f a &&& 255))) : skF f e m a = a := by
  cases m with
  | zero => rfl
  | succ m => rw [skF, if_neg h]
def skB (f : Nat → Int32) (a : Nat) : Nat → Nat → Nat
  | 0, e => e
  | m + 1, e => if a < e ∧ pSpace (f (e - 1) &&& 255) then skB f a m (e - 1) else e
theorem skB_1 {f : Nat → Int32} {a m e : Nat} (h : a < e) (h2 : pSpace (f (e - 1) &&& 255)) : skB f a (m + 1) e = skB f a m (e - 1) := by rw [skB, if_pos ⟨h, h2⟩]
theorem skB_2 {f : Nat → Int32} {a m e : Nat} (h : ¬ (a < e ∧ pSpace (f (e - 1) &&& 255))) : skB f a m e = e := by
  cases m with
  | zero => rfl
  | succ m => rw [skB, if_neg h]
/-- the number that digits tell -/
def nmL (f : Nat → Int32) (e : Nat) : Nat → Nat → Int32 → Int32
  | 0, _, v => v
  | m + 1, i, v => if e ≤ i then v else if pDigit (f i &&& 255) then nmL f e m (i + 1) ((v * nI 10) + (f i &&& 255) - nI 48) else -1
theorem nmL_1 {f : Nat → Int32} {e m i : Nat} {v : Int32} (h : e ≤ i) : nmL f e m i v = v := by
  cases m with
  | zero => rfl
  | succ m => rw [nmL, if_pos h]
theorem nmL_2 {f : Nat → Int32} {e m i : Nat} {v : Int32} (h : i < e) (h2 : pDigit (f i &&& 255)) : nmL f e (m + 1) i v = nmL f e m (i + 1) ((v * nI 10) + (f i &&& 255) - nI 48) := by rw [nmL, if_neg (by omega), if_pos h2]
theorem nmL_3 {f : Nat → Int32} {e m i : Nat} {v : Int32} (h : i < e) (h2 : ¬ pDigit (f i &&& 255)) : nmL f e (m + 1) i v = -1 := by rw [nmL, if_neg (by omega), if_neg h2]
def numF (f : Nat → Int32) (a e : Nat) : Int32 := if a < e ∧ e - a ≤ 9 then nmL f e (e + 1) a (nI 0) else -1
/-- the words of a Connection field -/
noncomputable def wdL (f : Nat → Int32) (e : Nat) : Nat → Nat → Nat → Nat → Nat → Nat × Nat
  | 0, _, _, cl, ke => (cl, ke)
  | m + 1, i, w, cl, ke => if e < i then (cl, ke) else if i = e ∨ f i &&& 255 = nI 44 ∨ pSpace (f i &&& 255) then wdL f e m (i + 1) (i + 1) (iteC (pWord f w i 12) 1 cl) (iteC (pWord f w i 13) 1 ke) else wdL f e m (i + 1) w cl ke
theorem wdL_0 {f : Nat → Int32} {e m i w cl ke : Nat} (h : e < i) : wdL f e m i w cl ke = (cl, ke) := by
  cases m with
  | zero => rfl
  | succ m => rw [wdL, if_pos h]
theorem wdL_1 {f : Nat → Int32} {e m i w cl ke c2 k2 : Nat} (h : i ≤ e) (h2 : i = e ∨ f i &&& 255 = nI 44 ∨ pSpace (f i &&& 255)) (h3 : iteC (pWord f w i 12) 1 cl = c2) (h4 : iteC (pWord f w i 13) 1 ke = k2) : wdL f e (m + 1) i w cl ke = wdL f e m (i + 1) (i + 1) c2 k2 := by rw [wdL, if_neg (by omega), if_pos h2, h3, h4]
theorem wdL_2 {f : Nat → Int32} {e m i w cl ke : Nat} (h : i ≤ e) (h2 : ¬ (i = e ∨ f i &&& 255 = nI 44 ∨ pSpace (f i &&& 255))) : wdL f e (m + 1) i w cl ke = wdL f e m (i + 1) w cl ke := by rw [wdL, if_neg (by omega), if_neg h2]
noncomputable def noteF (f : Nat → Int32) (b c va ve : Nat) (s : HS) : HS := match s with
  | (fa, me, nw, tS, tE, ho, en, le, bo, ma, mS, mE, cl, ke) => iteC (pWord f b c 7) (fa, me, nw, tS, tE, ho + 1, en, le, bo, ma, mS, mE, cl, ke) (iteC (pWord f b c 8) (fa, me, nw, tS, tE, ho, en + 1, le, bo, ma, mS, mE, cl, ke) (iteC (pWord f b c 9) (fa, me, nw, tS, tE, ho, en, le + 1, numF f va ve, ma, mS, mE, cl, ke) (iteC (pWord f b c 10) (fa, me, nw, tS, tE, ho, en, le, bo, ma + 1, va, ve, cl, ke) (iteC (pWord f b c 11) (fa, me, nw, tS, tE, ho, en, le, bo, ma, mS, mE, (wdL f ve (ve + 2) va va cl ke).1, (wdL f ve (ve + 2) va va cl ke).2) (fa, me, nw, tS, tE, ho, en, le, bo, ma, mS, mE, cl, ke)))))
def pLine (f : Nat → Int32) (b c e : Nat) : Prop := b < c ∧ c < e ∧ (∀ j, b ≤ j → j < c → pNameC (f j &&& 255)) ∧ ∀ j, c < j → j < e → pValue (f j &&& 255)
def vaF (f : Nat → Int32) (c e : Nat) : Nat := skF f e (e + 1) (c + 1)
def veF (f : Nat → Int32) (c e : Nat) : Nat := skB f (vaF f c e) (e + 1) e
noncomputable def lineS (f : Nat → Int32) (b e : Nat) (s : HS) : HS := iteC (pLine f b (fnd f (nI 58) b e) e) (noteF f b (fnd f (nI 58) b e) (vaF f (fnd f (nI 58) b e) e) (veF f (fnd f (nI 58) b e) e) s) (1, s.2)
noncomputable def reqS (f : Nat → Int32) (e : Nat) (s : HS) : HS := match s with
  | (fa, me, _, _, _, s5) => ((iteC ((pText f (fnd f (nI 32) (fnd f (nI 32) 0 e + 1) e + 1) e 2 ∨ pText f (fnd f (nI 32) (fnd f (nI 32) 0 e + 1) e + 1) e 3) ∧ pMeth f (fnd f (nI 32) 0 e) ∧ pTarg f (fnd f (nI 32) 0 e + 1) (fnd f (nI 32) (fnd f (nI 32) 0 e + 1) e)) (fa, iteC (pText f 0 (fnd f (nI 32) 0 e) 4) 1 (iteC (pText f 0 (fnd f (nI 32) 0 e) 5) me 2)) (1, me)).1, (iteC ((pText f (fnd f (nI 32) (fnd f (nI 32) 0 e + 1) e + 1) e 2 ∨ pText f (fnd f (nI 32) (fnd f (nI 32) 0 e + 1) e + 1) e 3) ∧ pMeth f (fnd f (nI 32) 0 e) ∧ pTarg f (fnd f (nI 32) 0 e + 1) (fnd f (nI 32) (fnd f (nI 32) 0 e + 1) e)) (fa, iteC (pText f 0 (fnd f (nI 32) 0 e) 4) 1 (iteC (pText f 0 (fnd f (nI 32) 0 e) 5) me 2)) (1, me)).2, iteC (pText f (fnd f (nI 32) (fnd f (nI 32) 0 e + 1) e + 1) e 2) 1 0, fnd f (nI 32) 0 e + 1, fnd f (nI 32) (fnd f (nI 32) 0 e + 1) e, s5)
def lnE (f : Nat → Int32) (b i : Nat) : Nat := if b < i ∧ f (i - 1) &&& 255 = nI 13 then i - 1 else i
theorem lnE_eq {f : Nat → Int32} {b i r : Nat} (h : (r = i ∧ ¬ (b < i ∧ f (i - 1) &&& 255 = nI 13)) ∨ (r + 1 = i ∧ b < i ∧ f (i - 1) &&& 255 = nI 13)) : lnE f b i = r := by
  unfold lnE
  rcases h with h | h
  · rw [if_neg h.2, h.1]
  · rw [if_pos h.2]; omega
noncomputable def stS (f : Nat → Int32) (b e : Nat) (s : HS) : HS := if b = 0 then reqS f e s else if b < e then lineS f b e s else s
/-- the whole head: k is looked at, its line began at b -/
noncomputable def hdF (f : Nat → Int32) (n : Nat) : Nat → Nat → Nat → HS → HS
  | 0, _, _, s => s
  | m + 1, b, k, s => if n ≤ k then s else if f k &&& 255 = nI 10 then hdF f n m (k + 1) (k + 1) (stS f b (lnE f b k) s) else hdF f n m b (k + 1) s
theorem hdF_0 {f : Nat → Int32} {n m b k : Nat} {s : HS} (h : n ≤ k) : hdF f n m b k s = s := by
  cases m with
  | zero => rfl
  | succ m => rw [hdF, if_pos h]
theorem hdF_1 {f : Nat → Int32} {n m b k : Nat} {s s2 : HS} (h : k < n) (h1 : f k &&& 255 = nI 10) (h2 : stS f b (lnE f b k) s = s2) : hdF f n (m + 1) b k s = hdF f n m (k + 1) (k + 1) s2 := by rw [hdF, if_neg (by omega), if_pos h1, h2]
theorem hdF_2 {f : Nat → Int32} {n m b k : Nat} {s : HS} (h : k < n) (h1 : ¬ f k &&& 255 = nI 10) : hdF f n (m + 1) b k s = hdF f n m b (k + 1) s := by rw [hdF, if_neg (by omega), if_neg h1]

set_option maxHeartbeats 4000000 in
set_option maxRecDepth 100000 in
theorem c_hForget (l : Launch) (g : GT) (hh : Nat) (fa : Nat) (me : Nat) (nw : Nat) (tS : Nat) (tE : Nat) (ho : Nat) (en : Nat) (le : Nat) (bo : Int32) (ma : Nat) (mS : Nat) (mE : Nat) (cl : Nat) (ke : Nat)  : CT l g yX2_forget wsX2_forget ({ frames := 0, cells := 0, slots := 0, locals := 0 } : Room) [.ref hh] [(hh, .inr (1, [.int (nI fa), .int (nI me), .int (nI nw), .int (nI tS), .int (nI tE), .int (nI ho), .int (nI en), .int (nI le), .int bo, .int (nI ma), .int (nI mS), .int (nI mE), .int (nI cl), .int (nI ke)]))] (fun r w => (r = none ∧ w = [(hh, .inr (1, [.int (nI 0), .int (nI 0), .int (nI 0), .int (nI 0), .int (nI 0), .int (nI 0), .int (nI 0), .int (nI 0), .int (nI 0), .int (nI 0), .int (nI 0), .int (nI 0), .int (nI 0), .int (nI 0)]))])) (0) (0) := by
  refine ct_of (cc := cX2_forget) (maxL := 1) (ret := none) (by decide) rfl (Nat.le_of_ble_eq_true rfl) ?_
  intro p e s m args below meth c A Q hx hb hr hml hown hts hlocks hnam hAe hQ hA hG hK hP hD hS ls hl
  have hl : lv_has ls 1 [(0, .ref hh)] := hl
  have hown : s.vm.findClass RX2 = some m.cls := hown
  have hinX2 : ∀ w ∈ u_ws RX2 TX2 14, w ∈ wsX2_forget := by decide +kernel
  have hf11 := hts (.fieldLink RX2 11 "RequestReader$Head" "method" "I") (by decide +kernel)
  have hf15 := hts (.fieldLink RX2 15 "RequestReader$Head" "isFaulty" "Z") (by decide +kernel)
  have hf19 := hts (.fieldLink RX2 19 "RequestReader$Head" "isNewer" "Z") (by decide +kernel)
  have hf22 := hts (.fieldLink RX2 22 "RequestReader$Head" "targetStart" "I") (by decide +kernel)
  have hf25 := hts (.fieldLink RX2 25 "RequestReader$Head" "targetEnd" "I") (by decide +kernel)
  have hf28 := hts (.fieldLink RX2 28 "RequestReader$Head" "hosts" "I") (by decide +kernel)
  have hf31 := hts (.fieldLink RX2 31 "RequestReader$Head" "encodings" "I") (by decide +kernel)
  have hf34 := hts (.fieldLink RX2 34 "RequestReader$Head" "lengths" "I") (by decide +kernel)
  have hf37 := hts (.fieldLink RX2 37 "RequestReader$Head" "bodySize" "I") (by decide +kernel)
  have hf40 := hts (.fieldLink RX2 40 "RequestReader$Head" "matches" "I") (by decide +kernel)
  have hf43 := hts (.fieldLink RX2 43 "RequestReader$Head" "matchStart" "I") (by decide +kernel)
  have hf46 := hts (.fieldLink RX2 46 "RequestReader$Head" "matchEnd" "I") (by decide +kernel)
  have hf49 := hts (.fieldLink RX2 49 "RequestReader$Head" "saysClose" "Z") (by decide +kernel)
  have hf52 := hts (.fieldLink RX2 52 "RequestReader$Head" "saysKeepAlive" "Z") (by decide +kernel)
  refine lv_aload_n hx hb dX2_forget_0 rfl (lv_at hl 0 rfl) ?_
  refine lv_iconst (v := nI 0) hx hb dX2_forget_1 (by decide) ?_
  refine va_put (D := gD g) (ci := 1) (v := .int (nI 0)) (ty := .boolean) (C := RX2) (T := TX2) (N := 14) hx hb hts hinX2 tyX2 tyX2_ok nmX2 hown hK hP hD hS 0 rfl rfl 0 (by decide) hf15 (fun _ h9 => h9) rfl (by decide +kernel) rfl rfl (Nat.le_of_ble_eq_true rfl) dX2_forget_2 (fun H locs hP hD hS => ?_)
  have hP : va_P (gD g) vwCl [(hh, .inr (1, [.int (nI 0), .int (nI me), .int (nI nw), .int (nI tS), .int (nI tE), .int (nI ho), .int (nI en), .int (nI le), .int bo, .int (nI ma), .int (nI mS), .int (nI mE), .int (nI cl), .int (nI ke)]))] H := hP
  have hD : va_D A [(hh, .inr (1, [.int (nI 0), .int (nI me), .int (nI nw), .int (nI tS), .int (nI tE), .int (nI ho), .int (nI en), .int (nI le), .int bo, .int (nI ma), .int (nI mS), .int (nI mE), .int (nI cl), .int (nI ke)]))] := hD
  refine lv_aload_n hx hb dX2_forget_5 rfl (lv_at hl 0 rfl) ?_
  refine lv_iconst (v := nI 0) hx hb dX2_forget_6 (by decide) ?_
  refine va_put (D := gD g) (ci := 1) (v := .int (nI 0)) (ty := .int) (C := RX2) (T := TX2) (N := 14) hx hb hts hinX2 tyX2 tyX2_ok nmX2 hown hK hP hD hS 0 rfl rfl 1 (by decide) hf11 (fun _ h9 => h9) rfl (by decide +kernel) rfl rfl (Nat.le_of_ble_eq_true rfl) dX2_forget_7 (fun H locs hP hD hS => ?_)
  have hP : va_P (gD g) vwCl [(hh, .inr (1, [.int (nI 0), .int (nI 0), .int (nI nw), .int (nI tS), .int (nI tE), .int (nI ho), .int (nI en), .int (nI le), .int bo, .int (nI ma), .int (nI mS), .int (nI mE), .int (nI cl), .int (nI ke)]))] H := hP
  have hD : va_D A [(hh, .inr (1, [.int (nI 0), .int (nI 0), .int (nI nw), .int (nI tS), .int (nI tE), .int (nI ho), .int (nI en), .int (nI le), .int bo, .int (nI ma), .int (nI mS), .int (nI mE), .int (nI cl), .int (nI ke)]))] := hD
  refine lv_aload_n hx hb dX2_forget_10 rfl (lv_at hl 0 rfl) ?_
  refine lv_iconst (v := nI 0) hx hb dX2_forget_11 (by decide) ?_
  refine va_put (D := gD g) (ci := 1) (v := .int (nI 0)) (ty := .boolean) (C := RX2) (T := TX2) (N := 14) hx hb hts hinX2 tyX2 tyX2_ok nmX2 hown hK hP hD hS 0 rfl rfl 2 (by decide) hf19 (fun _ h9 => h9) rfl (by decide +kernel) rfl rfl (Nat.le_of_ble_eq_true rfl) dX2_forget_12 (fun H locs hP hD hS => ?_)
  have hP : va_P (gD g) vwCl [(hh, .inr (1, [.int (nI 0), .int (nI 0), .int (nI 0), .int (nI tS), .int (nI tE), .int (nI ho), .int (nI en), .int (nI le), .int bo, .int (nI ma), .int (nI mS), .int (nI mE), .int (nI cl), .int (nI ke)]))] H := hP
  have hD : va_D A [(hh, .inr (1, [.int (nI 0), .int (nI 0), .int (nI 0), .int (nI tS), .int (nI tE), .int (nI ho), .int (nI en), .int (nI le), .int bo, .int (nI ma), .int (nI mS), .int (nI mE), .int (nI cl), .int (nI ke)]))] := hD
  refine lv_aload_n hx hb dX2_forget_15 rfl (lv_at hl 0 rfl) ?_
  refine lv_iconst (v := nI 0) hx hb dX2_forget_16 (by decide) ?_
  refine va_put (D := gD g) (ci := 1) (v := .int (nI 0)) (ty := .int) (C := RX2) (T := TX2) (N := 14) hx hb hts hinX2 tyX2 tyX2_ok nmX2 hown hK hP hD hS 0 rfl rfl 3 (by decide) hf22 (fun _ h9 => h9) rfl (by decide +kernel) rfl rfl (Nat.le_of_ble_eq_true rfl) dX2_forget_17 (fun H locs hP hD hS => ?_)
  have hP : va_P (gD g) vwCl [(hh, .inr (1, [.int (nI 0), .int (nI 0), .int (nI 0), .int (nI 0), .int (nI tE), .int (nI ho), .int (nI en), .int (nI le), .int bo, .int (nI ma), .int (nI mS), .int (nI mE), .int (nI cl), .int (nI ke)]))] H := hP
  have hD : va_D A [(hh, .inr (1, [.int (nI 0), .int (nI 0), .int (nI 0), .int (nI 0), .int (nI tE), .int (nI ho), .int (nI en), .int (nI le), .int bo, .int (nI ma), .int (nI mS), .int (nI mE), .int (nI cl), .int (nI ke)]))] := hD
  refine lv_aload_n hx hb dX2_forget_20 rfl (lv_at hl 0 rfl) ?_
  refine lv_iconst (v := nI 0) hx hb dX2_forget_21 (by decide) ?_
  refine va_put (D := gD g) (ci := 1) (v := .int (nI 0)) (ty := .int) (C := RX2) (T := TX2) (N := 14) hx hb hts hinX2 tyX2 tyX2_ok nmX2 hown hK hP hD hS 0 rfl rfl 4 (by decide) hf25 (fun _ h9 => h9) rfl (by decide +kernel) rfl rfl (Nat.le_of_ble_eq_true rfl) dX2_forget_22 (fun H locs hP hD hS => ?_)
  have hP : va_P (gD g) vwCl [(hh, .inr (1, [.int (nI 0), .int (nI 0), .int (nI 0), .int (nI 0), .int (nI 0), .int (nI ho), .int (nI en), .int (nI le), .int bo, .int (nI ma), .int (nI mS), .int (nI mE), .int (nI cl), .int (nI ke)]))] H := hP
  have hD : va_D A [(hh, .inr (1, [.int (nI 0), .int (nI 0), .int (nI 0), .int (nI 0), .int (nI 0), .int (nI ho), .int (nI en), .int (nI le), .int bo, .int (nI ma), .int (nI mS), .int (nI mE), .int (nI cl), .int (nI ke)]))] := hD
  refine lv_aload_n hx hb dX2_forget_25 rfl (lv_at hl 0 rfl) ?_
  refine lv_iconst (v := nI 0) hx hb dX2_forget_26 (by decide) ?_
  refine va_put (D := gD g) (ci := 1) (v := .int (nI 0)) (ty := .int) (C := RX2) (T := TX2) (N := 14) hx hb hts hinX2 tyX2 tyX2_ok nmX2 hown hK hP hD hS 0 rfl rfl 5 (by decide) hf28 (fun _ h9 => h9) rfl (by decide +kernel) rfl rfl (Nat.le_of_ble_eq_true rfl) dX2_forget_27 (fun H locs hP hD hS => ?_)
  have hP : va_P (gD g) vwCl [(hh, .inr (1, [.int (nI 0), .int (nI 0), .int (nI 0), .int (nI 0), .int (nI 0), .int (nI 0), .int (nI en), .int (nI le), .int bo, .int (nI ma), .int (nI mS), .int (nI mE), .int (nI cl), .int (nI ke)]))] H := hP
  have hD : va_D A [(hh, .inr (1, [.int (nI 0), .int (nI 0), .int (nI 0), .int (nI 0), .int (nI 0), .int (nI 0), .int (nI en), .int (nI le), .int bo, .int (nI ma), .int (nI mS), .int (nI mE), .int (nI cl), .int (nI ke)]))] := hD
  refine lv_aload_n hx hb dX2_forget_30 rfl (lv_at hl 0 rfl) ?_
  refine lv_iconst (v := nI 0) hx hb dX2_forget_31 (by decide) ?_
  refine va_put (D := gD g) (ci := 1) (v := .int (nI 0)) (ty := .int) (C := RX2) (T := TX2) (N := 14) hx hb hts hinX2 tyX2 tyX2_ok nmX2 hown hK hP hD hS 0 rfl rfl 6 (by decide) hf31 (fun _ h9 => h9) rfl (by decide +kernel) rfl rfl (Nat.le_of_ble_eq_true rfl) dX2_forget_32 (fun H locs hP hD hS => ?_)
  have hP : va_P (gD g) vwCl [(hh, .inr (1, [.int (nI 0), .int (nI 0), .int (nI 0), .int (nI 0), .int (nI 0), .int (nI 0), .int (nI 0), .int (nI le), .int bo, .int (nI ma), .int (nI mS), .int (nI mE), .int (nI cl), .int (nI ke)]))] H := hP
  have hD : va_D A [(hh, .inr (1, [.int (nI 0), .int (nI 0), .int (nI 0), .int (nI 0), .int (nI 0), .int (nI 0), .int (nI 0), .int (nI le), .int bo, .int (nI ma), .int (nI mS), .int (nI mE), .int (nI cl), .int (nI ke)]))] := hD
  refine lv_aload_n hx hb dX2_forget_35 rfl (lv_at hl 0 rfl) ?_
  refine lv_iconst (v := nI 0) hx hb dX2_forget_36 (by decide) ?_
  refine va_put (D := gD g) (ci := 1) (v := .int (nI 0)) (ty := .int) (C := RX2) (T := TX2) (N := 14) hx hb hts hinX2 tyX2 tyX2_ok nmX2 hown hK hP hD hS 0 rfl rfl 7 (by decide) hf34 (fun _ h9 => h9) rfl (by decide +kernel) rfl rfl (Nat.le_of_ble_eq_true rfl) dX2_forget_37 (fun H locs hP hD hS => ?_)
  have hP : va_P (gD g) vwCl [(hh, .inr (1, [.int (nI 0), .int (nI 0), .int (nI 0), .int (nI 0), .int (nI 0), .int (nI 0), .int (nI 0), .int (nI 0), .int bo, .int (nI ma), .int (nI mS), .int (nI mE), .int (nI cl), .int (nI ke)]))] H := hP
  have hD : va_D A [(hh, .inr (1, [.int (nI 0), .int (nI 0), .int (nI 0), .int (nI 0), .int (nI 0), .int (nI 0), .int (nI 0), .int (nI 0), .int bo, .int (nI ma), .int (nI mS), .int (nI mE), .int (nI cl), .int (nI ke)]))] := hD
  refine lv_aload_n hx hb dX2_forget_40 rfl (lv_at hl 0 rfl) ?_
  refine lv_iconst (v := nI 0) hx hb dX2_forget_41 (by decide) ?_
  refine va_put (D := gD g) (ci := 1) (v := .int (nI 0)) (ty := .int) (C := RX2) (T := TX2) (N := 14) hx hb hts hinX2 tyX2 tyX2_ok nmX2 hown hK hP hD hS 0 rfl rfl 8 (by decide) hf37 (fun _ h9 => h9) rfl (by decide +kernel) rfl rfl (Nat.le_of_ble_eq_true rfl) dX2_forget_42 (fun H locs hP hD hS => ?_)
  have hP : va_P (gD g) vwCl [(hh, .inr (1, [.int (nI 0), .int (nI 0), .int (nI 0), .int (nI 0), .int (nI 0), .int (nI 0), .int (nI 0), .int (nI 0), .int (nI 0), .int (nI ma), .int (nI mS), .int (nI mE), .int (nI cl), .int (nI ke)]))] H := hP
  have hD : va_D A [(hh, .inr (1, [.int (nI 0), .int (nI 0), .int (nI 0), .int (nI 0), .int (nI 0), .int (nI 0), .int (nI 0), .int (nI 0), .int (nI 0), .int (nI ma), .int (nI mS), .int (nI mE), .int (nI cl), .int (nI ke)]))] := hD
  refine lv_aload_n hx hb dX2_forget_45 rfl (lv_at hl 0 rfl) ?_
  refine lv_iconst (v := nI 0) hx hb dX2_forget_46 (by decide) ?_
  refine va_put (D := gD g) (ci := 1) (v := .int (nI 0)) (ty := .int) (C := RX2) (T := TX2) (N := 14) hx hb hts hinX2 tyX2 tyX2_ok nmX2 hown hK hP hD hS 0 rfl rfl 9 (by decide) hf40 (fun _ h9 => h9) rfl (by decide +kernel) rfl rfl (Nat.le_of_ble_eq_true rfl) dX2_forget_47 (fun H locs hP hD hS => ?_)
  have hP : va_P (gD g) vwCl [(hh, .inr (1, [.int (nI 0), .int (nI 0), .int (nI 0), .int (nI 0), .int (nI 0), .int (nI 0), .int (nI 0), .int (nI 0), .int (nI 0), .int (nI 0), .int (nI mS), .int (nI mE), .int (nI cl), .int (nI ke)]))] H := hP
  have hD : va_D A [(hh, .inr (1, [.int (nI 0), .int (nI 0), .int (nI 0), .int (nI 0), .int (nI 0), .int (nI 0), .int (nI 0), .int (nI 0), .int (nI 0), .int (nI 0), .int (nI mS), .int (nI mE), .int (nI cl), .int (nI ke)]))] := hD
  refine lv_aload_n hx hb dX2_forget_50 rfl (lv_at hl 0 rfl) ?_
  refine lv_iconst (v := nI 0) hx hb dX2_forget_51 (by decide) ?_
  refine va_put (D := gD g) (ci := 1) (v := .int (nI 0)) (ty := .int) (C := RX2) (T := TX2) (N := 14) hx hb hts hinX2 tyX2 tyX2_ok nmX2 hown hK hP hD hS 0 rfl rfl 10 (by decide) hf43 (fun _ h9 => h9) rfl (by decide +kernel) rfl rfl (Nat.le_of_ble_eq_true rfl) dX2_forget_52 (fun H locs hP hD hS => ?_)
  have hP : va_P (gD g) vwCl [(hh, .inr (1, [.int (nI 0), .int (nI 0), .int (nI 0), .int (nI 0), .int (nI 0), .int (nI 0), .int (nI 0), .int (nI 0), .int (nI 0), .int (nI 0), .int (nI 0), .int (nI mE), .int (nI cl), .int (nI ke)]))] H := hP
  have hD : va_D A [(hh, .inr (1, [.int (nI 0), .int (nI 0), .int (nI 0), .int (nI 0), .int (nI 0), .int (nI 0), .int (nI 0), .int (nI 0), .int (nI 0), .int (nI 0), .int (nI 0), .int (nI mE), .int (nI cl), .int (nI ke)]))] := hD
  refine lv_aload_n hx hb dX2_forget_55 rfl (lv_at hl 0 rfl) ?_
  refine lv_iconst (v := nI 0) hx hb dX2_forget_56 (by decide) ?_
  refine va_put (D := gD g) (ci := 1) (v := .int (nI 0)) (ty := .int) (C := RX2) (T := TX2) (N := 14) hx hb hts hinX2 tyX2 tyX2_ok nmX2 hown hK hP hD hS 0 rfl rfl 11 (by decide) hf46 (fun _ h9 => h9) rfl (by decide +kernel) rfl rfl (Nat.le_of_ble_eq_true rfl) dX2_forget_57 (fun H locs hP hD hS => ?_)
  have hP : va_P (gD g) vwCl [(hh, .inr (1, [.int (nI 0), .int (nI 0), .int (nI 0), .int (nI 0), .int (nI 0), .int (nI 0), .int (nI 0), .int (nI 0), .int (nI 0), .int (nI 0), .int (nI 0), .int (nI 0), .int (nI cl), .int (nI ke)]))] H := hP
  have hD : va_D A [(hh, .inr (1, [.int (nI 0), .int (nI 0), .int (nI 0), .int (nI 0), .int (nI 0), .int (nI 0), .int (nI 0), .int (nI 0), .int (nI 0), .int (nI 0), .int (nI 0), .int (nI 0), .int (nI cl), .int (nI ke)]))] := hD
  refine lv_aload_n hx hb dX2_forget_60 rfl (lv_at hl 0 rfl) ?_
  refine lv_iconst (v := nI 0) hx hb dX2_forget_61 (by decide) ?_
  refine va_put (D := gD g) (ci := 1) (v := .int (nI 0)) (ty := .boolean) (C := RX2) (T := TX2) (N := 14) hx hb hts hinX2 tyX2 tyX2_ok nmX2 hown hK hP hD hS 0 rfl rfl 12 (by decide) hf49 (fun _ h9 => h9) rfl (by decide +kernel) rfl rfl (Nat.le_of_ble_eq_true rfl) dX2_forget_62 (fun H locs hP hD hS => ?_)
  have hP : va_P (gD g) vwCl [(hh, .inr (1, [.int (nI 0), .int (nI 0), .int (nI 0), .int (nI 0), .int (nI 0), .int (nI 0), .int (nI 0), .int (nI 0), .int (nI 0), .int (nI 0), .int (nI 0), .int (nI 0), .int (nI 0), .int (nI ke)]))] H := hP
  have hD : va_D A [(hh, .inr (1, [.int (nI 0), .int (nI 0), .int (nI 0), .int (nI 0), .int (nI 0), .int (nI 0), .int (nI 0), .int (nI 0), .int (nI 0), .int (nI 0), .int (nI 0), .int (nI 0), .int (nI 0), .int (nI ke)]))] := hD
  refine lv_aload_n hx hb dX2_forget_65 rfl (lv_at hl 0 rfl) ?_
  refine lv_iconst (v := nI 0) hx hb dX2_forget_66 (by decide) ?_
  refine va_put (D := gD g) (ci := 1) (v := .int (nI 0)) (ty := .boolean) (C := RX2) (T := TX2) (N := 14) hx hb hts hinX2 tyX2 tyX2_ok nmX2 hown hK hP hD hS 0 rfl rfl 13 (by decide) hf52 (fun _ h9 => h9) rfl (by decide +kernel) rfl rfl (Nat.le_of_ble_eq_true rfl) dX2_forget_67 (fun H locs hP hD hS => ?_)
  have hP : va_P (gD g) vwCl [(hh, .inr (1, [.int (nI 0), .int (nI 0), .int (nI 0), .int (nI 0), .int (nI 0), .int (nI 0), .int (nI 0), .int (nI 0), .int (nI 0), .int (nI 0), .int (nI 0), .int (nI 0), .int (nI 0), .int (nI 0)]))] H := hP
  have hD : va_D A [(hh, .inr (1, [.int (nI 0), .int (nI 0), .int (nI 0), .int (nI 0), .int (nI 0), .int (nI 0), .int (nI 0), .int (nI 0), .int (nI 0), .int (nI 0), .int (nI 0), .int (nI 0), .int (nI 0), .int (nI 0)]))] := hD
  refine ct_vret (w := [(hh, .inr (1, [.int (nI 0), .int (nI 0), .int (nI 0), .int (nI 0), .int (nI 0), .int (nI 0), .int (nI 0), .int (nI 0), .int (nI 0), .int (nI 0), .int (nI 0), .int (nI 0), .int (nI 0), .int (nI 0)]))]) hx hb hr hlocks hQ hAe hK (hP.sub [0] rfl) (hD.sub [0] (by decide) rfl) hS (by omega) (by omega) dX2_forget_70 ?_
  exact ⟨rfl, rfl⟩

set_option maxHeartbeats 4000000 in
set_option maxRecDepth 100000 in
theorem c_hInit (l : Launch) (g : GT) (hh : Nat)  : CT l g yX2_init wsX2_init ({ frames := 1, cells := 0, slots := 0, locals := 30 } : Room) [.ref hh] [(hh, .inr (1, [.int (nI 0), .int (nI 0), .int (nI 0), .int (nI 0), .int (nI 0), .int (nI 0), .int (nI 0), .int (nI 0), .int (nI 0), .int (nI 0), .int (nI 0), .int (nI 0), .int (nI 0), .int (nI 0)]))] (fun r w => (r = none ∧ w = [(hh, .inr (1, [.int (nI 0), .int (nI 0), .int (nI 0), .int (nI 0), .int (nI 0), .int (nI 0), .int (nI 0), .int (nI 0), .int (nI 0), .int (nI 0), .int (nI 0), .int (nI 0), .int (nI 0), .int (nI 0)]))])) (0) (0) := by
  refine ct_of (cc := cX2_init) (maxL := 1) (ret := none) (by decide) rfl (Nat.le_of_ble_eq_true rfl) ?_
  intro p e s m args below meth c A Q hx hb hr hml hown hts hlocks hnam hAe hQ hA hG hK hP hD hS ls hl
  have hl : lv_has ls 1 [(0, .ref hh)] := hl
  have hown : s.vm.findClass RX2 = some m.cls := hown
  have hinX2 : ∀ w ∈ u_ws RX2 TX2 14, w ∈ wsX2_init := by decide +kernel
  have hf11 := hts (.fieldLink RX2 11 "RequestReader$Head" "method" "I") (by decide +kernel)
  refine lv_aload_n hx hb dX2_init_0 rfl (lv_at hl 0 rfl) ?_
  refine W.objInit hx hb hown (hts (.methodLink RX2 3 objectInit) (by decide +kernel)) (hts (.instanceMethod objectInit) (by decide +kernel)) (hts (.code objectInit ⟨#[0xb1]⟩ 1 none) (by decide +kernel)) rfl (by rw [hml]; exact hl.1) rfl dX2_init_1 (Nat.le_of_ble_eq_true rfl) (Nat.le_of_ble_eq_true rfl) ?_
  refine W.eq (g2 := F0 m 4 ls []) rfl ?_
  refine lv_aload_n hx hb dX2_init_4 rfl (lv_at hl 0 rfl) ?_
  refine lv_iconst (v := nI 0) hx hb dX2_init_5 (by decide) ?_
  refine va_put (D := gD g) (ci := 1) (v := .int (nI 0)) (ty := .int) (C := RX2) (T := TX2) (N := 14) hx hb hts hinX2 tyX2 tyX2_ok nmX2 hown hK hP hD hS 0 rfl rfl 1 (by decide) hf11 (fun _ h9 => h9) rfl (by decide +kernel) rfl rfl (Nat.le_of_ble_eq_true rfl) dX2_init_6 (fun H locs hP hD hS => ?_)
  have hP : va_P (gD g) vwCl [(hh, .inr (1, [.int (nI 0), .int (nI 0), .int (nI 0), .int (nI 0), .int (nI 0), .int (nI 0), .int (nI 0), .int (nI 0), .int (nI 0), .int (nI 0), .int (nI 0), .int (nI 0), .int (nI 0), .int (nI 0)]))] H := hP
  have hD : va_D A [(hh, .inr (1, [.int (nI 0), .int (nI 0), .int (nI 0), .int (nI 0), .int (nI 0), .int (nI 0), .int (nI 0), .int (nI 0), .int (nI 0), .int (nI 0), .int (nI 0), .int (nI 0), .int (nI 0), .int (nI 0)]))] := hD
  refine ct_vret (w := [(hh, .inr (1, [.int (nI 0), .int (nI 0), .int (nI 0), .int (nI 0), .int (nI 0), .int (nI 0), .int (nI 0), .int (nI 0), .int (nI 0), .int (nI 0), .int (nI 0), .int (nI 0), .int (nI 0), .int (nI 0)]))]) hx hb hr hlocks hQ hAe hK (hP.sub [0] rfl) (hD.sub [0] (by decide) rfl) hS (by omega) (by omega) dX2_init_9 ?_
  exact ⟨rfl, rfl⟩

set_option maxHeartbeats 4000000 in
set_option maxRecDepth 100000 in
theorem c_isMethod (l : Launch) (g : GT) (kb : Nat) (qb : Nat) (nb : Nat) (sb : Nat) (fb : Nat → Int32) (A0 : Nat) (hs1 : sb ≤ nb) (hs2 : nb ≤ 4096) (hA0 : A0 ≤ sb) : CT l g yX2_isMethod wsX2_isMethod ({ frames := 1, cells := 0, slots := 0, locals := 21 } : Room) [.ref kb, .int (nI A0)] [(kb, .inr (3, [.int (nI 4096), .ref qb, .int (nI sb)])), (qb, .inl (gB g, nb, .inl fb))] (fun r w => (r = some (.int (nI 1)) ∧ w = [(kb, .inr (3, [.int (nI 4096), .ref qb, .int (nI sb)])), (qb, .inl (gB g, nb, .inl fb))] ∧ (pMeth fb A0)) ∨ (r = some (.int (nI 0)) ∧ w = [(kb, .inr (3, [.int (nI 4096), .ref qb, .int (nI sb)])), (qb, .inl (gB g, nb, .inl fb))] ∧ (¬ (pMeth fb A0)))) (0) (0) := by
  refine ct_of (cc := cX2_isMethod) (maxL := 4) (ret := (some .boolean)) (by decide) rfl (Nat.le_of_ble_eq_true rfl) ?_
  intro p e s m args below meth c A Q hx hb hr hml hown hts hlocks hnam hAe hQ hA hG hK hP hD hS ls hl
  have hl : lv_has ls 4 [(0, .ref kb), (1, .int (nI A0))] := hl
  have hown : s.vm.findClass RX2 = some m.cls := hown
  refine lv_iload_n hx hb dX2_isMethod_0 rfl (lv_at hl 1 rfl) ?_
  refine lv_iconst (v := nI 1) hx hb dX2_isMethod_1 (by decide) ?_
  refine lv_icmp_lt (tgt := 15) hx hb dX2_isMethod_2 (by decide) (fun c2 => ?_) (fun c2 => ?_)
  · skip
    have c2 : A0 < 1 := (nI_ltI (a := A0) (b := 1) (by omega) (by omega)).mp c2
    refine lv_iconst (v := nI 0) hx hb dX2_isMethod_15 (by decide) ?_
    refine lv_istore_n (lv' := [(2, .int (nI 0)), (0, .ref kb), (1, .int (nI A0))]) hx hb dX2_isMethod_16 rfl hl (by decide) rfl (fun ls hl => ?_)
    refine lv_iconst (v := nI 0) hx hb dX2_isMethod_17 (by decide) ?_
    refine lv_istore_n (lv' := [(3, .int (nI 0)), (2, .int (nI 0)), (0, .ref kb), (1, .int (nI A0))]) hx hb dX2_isMethod_18 rfl hl (by decide) rfl (fun ls hl => ?_)
    refine lv_iload_n hx hb dX2_isMethod_19 rfl (lv_at hl 1 rfl) ?_
    refine lv_if_eq (tgt := 43) hx hb dX2_isMethod_20 (by decide) (fun _ => ?_) (fun c20 => absurd (by decide) c20)
    refine lv_iload_n hx hb dX2_isMethod_43 rfl (lv_at hl 1 rfl) ?_
    refine ct_iret (w := [(kb, .inr (3, [.int (nI 4096), .ref qb, .int (nI sb)])), (qb, .inl (gB g, nb, .inl fb))]) hx hb hr rfl hlocks hQ hAe hK (hP.sub [0, 1] rfl) (hD.sub [0, 1] (by decide) rfl) hS (by omega) (by omega) dX2_isMethod_44 ?_
    refine Or.inr ((?_))
    exact ⟨rfl, rfl, by first | exact fun z => absurd z.1 (by omega) | exact fun z => absurd z.2.1 (by omega) | exact fun z => hF_33 (z.2.2 i (by omega))⟩
  · skip
    have c2 : ¬ (A0 < 1) := fun z => c2 ((nI_ltI (a := A0) (b := 1) (by omega) (by omega)).mpr z)
    refine lv_iload_n hx hb dX2_isMethod_5 rfl (lv_at hl 1 rfl) ?_
    refine lv_bipush (v := nI 16) hx hb dX2_isMethod_6 (by decide) ?_
    refine lv_icmp_gt (tgt := 15) hx hb dX2_isMethod_8 (by decide) (fun c8 => ?_) (fun c8 => ?_)
    · skip
      have c8 : 16 < A0 := (nI_ltI (a := 16) (b := A0) (by omega) (by omega)).mp c8
      refine lv_iconst (v := nI 0) hx hb dX2_isMethod_15 (by decide) ?_
      refine lv_istore_n (lv' := [(2, .int (nI 0)), (0, .ref kb), (1, .int (nI A0))]) hx hb dX2_isMethod_16 rfl hl (by decide) rfl (fun ls hl => ?_)
      refine lv_iconst (v := nI 0) hx hb dX2_isMethod_17 (by decide) ?_
      refine lv_istore_n (lv' := [(3, .int (nI 0)), (2, .int (nI 0)), (0, .ref kb), (1, .int (nI A0))]) hx hb dX2_isMethod_18 rfl hl (by decide) rfl (fun ls hl => ?_)
      refine lv_iload_n hx hb dX2_isMethod_19 rfl (lv_at hl 1 rfl) ?_
      refine lv_if_eq (tgt := 43) hx hb dX2_isMethod_20 (by decide) (fun _ => ?_) (fun c20 => absurd (by decide) c20)
      refine lv_iload_n hx hb dX2_isMethod_43 rfl (lv_at hl 1 rfl) ?_
      refine ct_iret (w := [(kb, .inr (3, [.int (nI 4096), .ref qb, .int (nI sb)])), (qb, .inl (gB g, nb, .inl fb))]) hx hb hr rfl hlocks hQ hAe hK (hP.sub [0, 1] rfl) (hD.sub [0, 1] (by decide) rfl) hS (by omega) (by omega) dX2_isMethod_44 ?_
      refine Or.inr ((?_))
      exact ⟨rfl, rfl, by first | exact fun z => absurd z.1 (by omega) | exact fun z => absurd z.2.1 (by omega) | exact fun z => hF_33 (z.2.2 i (by omega))⟩
    · skip
      have c8 : ¬ (16 < A0) := fun z => c8 ((nI_ltI (a := 16) (b := A0) (by omega) (by omega)).mpr z)
      refine lv_iconst (v := nI 1) hx hb dX2_isMethod_11 (by decide) ?_
      refine lv_goto (tgt := 16) hx hb dX2_isMethod_12 (by decide) ?_
      refine lv_istore_n (lv' := [(2, .int (nI 1)), (0, .ref kb), (1, .int (nI A0))]) hx hb dX2_isMethod_16 rfl hl (by decide) rfl (fun ls hl => ?_)
      refine lv_iconst (v := nI 0) hx hb dX2_isMethod_17 (by decide) ?_
      refine lv_istore_n (lv' := [(3, .int (nI 0)), (2, .int (nI 1)), (0, .ref kb), (1, .int (nI A0))]) hx hb dX2_isMethod_18 rfl hl (by decide) rfl (fun ls hl => ?_)
      have K19 : ∀ (N_ : Nat) (i : Nat), (i ≤ A0) → (∀ j, j < i → pGreat (fb j &&& 255)) → (A0 - i) < N_ → ∀ (H : Heap) (locs : List Loc) (ls : Array Slot), va_P (gD g) vwCl [(kb, .inr (3, [.int (nI 4096), .ref qb, .int (nI sb)])), (qb, .inl (gB g, nb, .inl fb))] H → va_D A [(kb, .inr (3, [.int (nI 4096), .ref qb, .int (nI sb)])), (qb, .inl (gB g, nb, .inl fb))] → va_S A s.heap H locs → lv_has ls 4 [(0, .ref kb), (1, .int (nI A0)), (2, .int (nI 1)), (3, .int (nI i))] → W p l e ({ frames := 1, cells := 0, slots := 0, locals := 21 } : Room) s m args below meth c H locs (0) (0) Q (F0 m 19 ls []) := by
        intro N_
        induction N_ with
        | zero => intro i hi hall hm_; exact absurd hm_ (Nat.not_lt_zero _)
        | succ N_ ih_K19 =>
          intro i hi hall hm_ H locs ls hP hD hS hl
          refine lv_iload_n hx hb dX2_isMethod_19 rfl (lv_at hl 2 rfl) ?_
          refine lv_if_eq (tgt := 43) hx hb dX2_isMethod_20 (by decide) (fun c20 => absurd c20 (by decide)) (fun _ => ?_)
          refine lv_iload_n hx hb dX2_isMethod_23 rfl (lv_at hl 3 rfl) ?_
          refine lv_iload_n hx hb dX2_isMethod_24 rfl (lv_at hl 1 rfl) ?_
          refine lv_icmp_ge (tgt := 43) hx hb dX2_isMethod_25 (by decide) (fun c25 => ?_) (fun c25 => ?_)
          · skip
            have c25 : A0 ≤ i := (nI_leI (a := A0) (b := i) (by omega) (by omega)).mp c25
            refine lv_iload_n hx hb dX2_isMethod_43 rfl (lv_at hl 2 rfl) ?_
            refine ct_iret (w := [(kb, .inr (3, [.int (nI 4096), .ref qb, .int (nI sb)])), (qb, .inl (gB g, nb, .inl fb))]) hx hb hr rfl hlocks hQ hAe hK (hP.sub [0, 1] rfl) (hD.sub [0, 1] (by decide) rfl) hS (by omega) (by omega) dX2_isMethod_44 ?_
            refine Or.inl (?_)
            exact ⟨rfl, rfl, by exact ⟨by omega, by omega, fun j hj => hall j (by omega)⟩⟩
          · skip
            have c25 : ¬ (A0 ≤ i) := fun z => c25 ((nI_leI (a := A0) (b := i) (by omega) (by omega)).mpr z)
            refine lv_aload_n hx hb dX2_isMethod_28 rfl (lv_at hl 0 rfl) ?_
            refine lv_iload_n hx hb dX2_isMethod_29 rfl (lv_at hl 3 rfl) ?_
            refine ct_callV (wr := []) hx hb hml hown hts hK hP hD hS hA hG hl.1 (c_getIn l g kb qb 4096 nb sb fb i (by omega) (by omega) (by omega)) (cwV 1 hts gX2_isMethod_X4_get rfl rfl rfl (by decide +kernel) ⟨Nat.le_of_ble_eq_true rfl, Nat.le_of_ble_eq_true rfl⟩) (va_recv hK hP (ci := 3) (q0 := 0) rfl rfl) rfl rfl (Nat.le_of_ble_eq_true rfl) dX2_isMethod_30 ⟨show 0 + 0 ≤ 0 by omega, show 0 + 0 ≤ 0 by omega⟩ [0, 1] [] rfl rfl (by decide) (by decide) (by decide) (fun r_ w_ H locs hp_ hP hD hS => ?_)
            obtain ⟨rfl, rfl⟩ := hp_
            have hP : va_P (gD g) vwCl [(kb, .inr (3, [.int (nI 4096), .ref qb, .int (nI sb)])), (qb, .inl (gB g, nb, .inl fb))] H := hP
            have hD : va_D A [(kb, .inr (3, [.int (nI 4096), .ref qb, .int (nI sb)])), (qb, .inl (gB g, nb, .inl fb))] := hD
            refine W.eq (g2 := F0 m 33 ls [.int (fb i &&& 255)]) rfl ?_
            refine ct_callS (wr := [(kb, .inr (3, [.int (nI 4096), .ref qb, .int (nI sb)])), (qb, .inl (gB g, nb, .inl fb))]) hx hb hml hown hts hK hP hD hS hA hG hl.1 (c_isGreat l g (fb i &&& 255) ) (va_cwS 1 hts gX2_isMethod_X1_isGreat rfl rfl rfl (by decide +kernel) ⟨Nat.le_of_ble_eq_true rfl, Nat.le_of_ble_eq_true rfl⟩) rfl rfl (Nat.le_of_ble_eq_true rfl) dX2_isMethod_33 ⟨show 0 + 0 ≤ 0 by omega, show 0 + 0 ≤ 0 by omega⟩ [] [0, 1] rfl rfl (by decide) (by decide) (by decide) (fun r_ w_ H locs hp_ hP hD hS => ?_)
            rcases hp_ with ⟨rfl, rfl, hT_33⟩ | ⟨rfl, rfl, hF_33⟩
            · skip
              have hP : va_P (gD g) vwCl [(kb, .inr (3, [.int (nI 4096), .ref qb, .int (nI sb)])), (qb, .inl (gB g, nb, .inl fb))] H := hP
              have hD : va_D A [(kb, .inr (3, [.int (nI 4096), .ref qb, .int (nI sb)])), (qb, .inl (gB g, nb, .inl fb))] := hD
              have hT_33 : pGreat (fb i &&& 255) := hT_33
              refine W.eq (g2 := F0 m 36 ls [.int (nI 1)]) rfl ?_
              refine lv_istore_n (lv' := [(2, .int (nI 1)), (0, .ref kb), (1, .int (nI A0)), (3, .int (nI i))]) hx hb dX2_isMethod_36 rfl hl (by decide) rfl (fun ls hl => ?_)
              refine lv_iinc (v := nI (i + 1)) (lv' := [(3, .int (nI (i + 1))), (2, .int (nI 1)), (0, .ref kb), (1, .int (nI A0))]) hx hb dX2_isMethod_37 hl (k := 3) rfl (nI_inc i 1) (by decide) rfl (fun ls hl => ?_)
              refine lv_goto (tgt := 19) hx hb dX2_isMethod_40 (by decide) ?_
              exact ih_K19 (i + 1) (by omega) (by exact lt_s hall hT_33) (by omega) _ _ _ (hP.sub [0, 1] rfl) (hD.sub [0, 1] (by decide) rfl) hS (lv_sub hl [2, 3, 1, 0] rfl)
            · skip
              have hP : va_P (gD g) vwCl [(kb, .inr (3, [.int (nI 4096), .ref qb, .int (nI sb)])), (qb, .inl (gB g, nb, .inl fb))] H := hP
              have hD : va_D A [(kb, .inr (3, [.int (nI 4096), .ref qb, .int (nI sb)])), (qb, .inl (gB g, nb, .inl fb))] := hD
              have hF_33 : ¬ (pGreat (fb i &&& 255)) := hF_33
              refine W.eq (g2 := F0 m 36 ls [.int (nI 0)]) rfl ?_
              refine lv_istore_n (lv' := [(2, .int (nI 0)), (0, .ref kb), (1, .int (nI A0)), (3, .int (nI i))]) hx hb dX2_isMethod_36 rfl hl (by decide) rfl (fun ls hl => ?_)
              refine lv_iinc (v := nI (i + 1)) (lv' := [(3, .int (nI (i + 1))), (2, .int (nI 0)), (0, .ref kb), (1, .int (nI A0))]) hx hb dX2_isMethod_37 hl (k := 3) rfl (nI_inc i 1) (by decide) rfl (fun ls hl => ?_)
              refine lv_goto (tgt := 19) hx hb dX2_isMethod_40 (by decide) ?_
              refine lv_iload_n hx hb dX2_isMethod_19 rfl (lv_at hl 1 rfl) ?_
              refine lv_if_eq (tgt := 43) hx hb dX2_isMethod_20 (by decide) (fun _ => ?_) (fun c20 => absurd (by decide) c20)
              refine lv_iload_n hx hb dX2_isMethod_43 rfl (lv_at hl 1 rfl) ?_
              refine ct_iret (w := [(kb, .inr (3, [.int (nI 4096), .ref qb, .int (nI sb)])), (qb, .inl (gB g, nb, .inl fb))]) hx hb hr rfl hlocks hQ hAe hK (hP.sub [0, 1] rfl) (hD.sub [0, 1] (by decide) rfl) hS (by omega) (by omega) dX2_isMethod_44 ?_
              refine Or.inr ((?_))
              exact ⟨rfl, rfl, by first | exact fun z => absurd z.1 (by omega) | exact fun z => absurd z.2.1 (by omega) | exact fun z => hF_33 (z.2.2 i (by omega))⟩
      exact K19 ((A0 - 0) + 1) 0 (by omega) (by intro j h1; omega) (Nat.lt_succ_self _) _ _ _ (hP.sub [0, 1] rfl) (hD.sub [0, 1] (by decide) rfl) hS (lv_sub hl [2, 3, 1, 0] rfl)

set_option maxHeartbeats 4000000 in
set_option maxRecDepth 100000 in
theorem c_isTarget (l : Launch) (g : GT) (hh : Nat) (fa : Nat) (me : Nat) (nw : Nat) (tS : Nat) (tE : Nat) (ho : Nat) (en : Nat) (le : Nat) (bo : Int32) (ma : Nat) (mS : Nat) (mE : Nat) (cl : Nat) (ke : Nat) (kb : Nat) (qb : Nat) (nb : Nat) (sb : Nat) (fb : Nat → Int32) (hs1 : sb ≤ nb) (hs2 : nb ≤ 4096) (htE : tE ≤ sb) (htS : tS < 2 ^ 28) : CT l g yX2_isTarget wsX2_isTarget ({ frames := 1, cells := 0, slots := 0, locals := 21 } : Room) [.ref hh, .ref kb] [(hh, .inr (1, [.int (nI fa), .int (nI me), .int (nI nw), .int (nI tS), .int (nI tE), .int (nI ho), .int (nI en), .int (nI le), .int bo, .int (nI ma), .int (nI mS), .int (nI mE), .int (nI cl), .int (nI ke)])), (kb, .inr (3, [.int (nI 4096), .ref qb, .int (nI sb)])), (qb, .inl (gB g, nb, .inl fb))] (fun r w => (r = some (.int (nI 1)) ∧ w = [(hh, .inr (1, [.int (nI fa), .int (nI me), .int (nI nw), .int (nI tS), .int (nI tE), .int (nI ho), .int (nI en), .int (nI le), .int bo, .int (nI ma), .int (nI mS), .int (nI mE), .int (nI cl), .int (nI ke)])), (kb, .inr (3, [.int (nI 4096), .ref qb, .int (nI sb)])), (qb, .inl (gB g, nb, .inl fb))] ∧ (pTarg fb tS tE)) ∨ (r = some (.int (nI 0)) ∧ w = [(hh, .inr (1, [.int (nI fa), .int (nI me), .int (nI nw), .int (nI tS), .int (nI tE), .int (nI ho), .int (nI en), .int (nI le), .int bo, .int (nI ma), .int (nI mS), .int (nI mE), .int (nI cl), .int (nI ke)])), (kb, .inr (3, [.int (nI 4096), .ref qb, .int (nI sb)])), (qb, .inl (gB g, nb, .inl fb))] ∧ (¬ (pTarg fb tS tE)))) (0) (0) := by
  refine ct_of (cc := cX2_isTarget) (maxL := 4) (ret := (some .boolean)) (by decide) rfl (Nat.le_of_ble_eq_true rfl) ?_
  intro p e s m args below meth c A Q hx hb hr hml hown hts hlocks hnam hAe hQ hA hG hK hP hD hS ls hl
  have hl : lv_has ls 4 [(0, .ref hh), (1, .ref kb)] := hl
  have hown : s.vm.findClass RX2 = some m.cls := hown
  have hinX2 : ∀ w ∈ u_ws RX2 TX2 14, w ∈ wsX2_isTarget := by decide +kernel
  have hf22 := hts (.fieldLink RX2 22 "RequestReader$Head" "targetStart" "I") (by decide +kernel)
  have hf25 := hts (.fieldLink RX2 25 "RequestReader$Head" "targetEnd" "I") (by decide +kernel)
  refine lv_aload_n hx hb dX2_isTarget_0 rfl (lv_at hl 0 rfl) ?_
  refine va_get (D := gD g) (ci := 1) (v := .int (nI tS)) (C := RX2) (T := TX2) (N := 14) hx hb hts hinX2 hown hK hP 0 rfl rfl 3 (by decide) hf22 (fun _ h9 => h9) rfl dX2_isTarget_1 ?_
  refine lv_aload_n hx hb dX2_isTarget_4 rfl (lv_at hl 0 rfl) ?_
  refine va_get (D := gD g) (ci := 1) (v := .int (nI tE)) (C := RX2) (T := TX2) (N := 14) hx hb hts hinX2 hown hK hP 0 rfl rfl 4 (by decide) hf25 (fun _ h9 => h9) rfl dX2_isTarget_5 ?_
  refine lv_icmp_ge (tgt := 28) hx hb dX2_isTarget_8 (by decide) (fun c8 => ?_) (fun c8 => ?_)
  · skip
    have c8 : tE ≤ tS := (nI_leI (a := tE) (b := tS) (by omega) (by omega)).mp c8
    refine lv_iconst (v := nI 0) hx hb dX2_isTarget_28 (by decide) ?_
    refine lv_istore_n (lv' := [(2, .int (nI 0)), (0, .ref hh), (1, .ref kb)]) hx hb dX2_isTarget_29 rfl hl (by decide) rfl (fun ls hl => ?_)
    refine lv_aload_n hx hb dX2_isTarget_30 rfl (lv_at hl 1 rfl) ?_
    refine va_get (D := gD g) (ci := 1) (v := .int (nI tS)) (C := RX2) (T := TX2) (N := 14) hx hb hts hinX2 hown hK hP 0 rfl rfl 3 (by decide) hf22 (fun _ h9 => h9) rfl dX2_isTarget_31 ?_
    refine lv_istore_n (lv' := [(3, .int (nI tS)), (2, .int (nI 0)), (0, .ref hh), (1, .ref kb)]) hx hb dX2_isTarget_34 rfl hl (by decide) rfl (fun ls hl => ?_)
    refine lv_iload_n hx hb dX2_isTarget_35 rfl (lv_at hl 1 rfl) ?_
    refine lv_if_eq (tgt := 62) hx hb dX2_isTarget_36 (by decide) (fun _ => ?_) (fun c36 => absurd (by decide) c36)
    refine lv_iload_n hx hb dX2_isTarget_62 rfl (lv_at hl 1 rfl) ?_
    refine ct_iret (w := [(hh, .inr (1, [.int (nI fa), .int (nI me), .int (nI nw), .int (nI tS), .int (nI tE), .int (nI ho), .int (nI en), .int (nI le), .int bo, .int (nI ma), .int (nI mS), .int (nI mE), .int (nI cl), .int (nI ke)])), (kb, .inr (3, [.int (nI 4096), .ref qb, .int (nI sb)])), (qb, .inl (gB g, nb, .inl fb))]) hx hb hr rfl hlocks hQ hAe hK (hP.sub [0, 1, 2] rfl) (hD.sub [0, 1, 2] (by decide) rfl) hS (by omega) (by omega) dX2_isTarget_63 ?_
    refine Or.inr ((?_))
    exact ⟨rfl, rfl, by first | exact fun z => absurd z.1 (by omega) | exact fun z => c21 z.2.1 | exact fun z => hF_52 (z.2.2 i (by omega) (by omega))⟩
  · skip
    have c8 : ¬ (tE ≤ tS) := fun z => c8 ((nI_leI (a := tE) (b := tS) (by omega) (by omega)).mpr z)
    refine lv_aload_n hx hb dX2_isTarget_11 rfl (lv_at hl 1 rfl) ?_
    refine lv_aload_n hx hb dX2_isTarget_12 rfl (lv_at hl 0 rfl) ?_
    refine va_get (D := gD g) (ci := 1) (v := .int (nI tS)) (C := RX2) (T := TX2) (N := 14) hx hb hts hinX2 hown hK hP 0 rfl rfl 3 (by decide) hf22 (fun _ h9 => h9) rfl dX2_isTarget_13 ?_
    refine ct_callV (wr := [(hh, .inr (1, [.int (nI fa), .int (nI me), .int (nI nw), .int (nI tS), .int (nI tE), .int (nI ho), .int (nI en), .int (nI le), .int bo, .int (nI ma), .int (nI mS), .int (nI mE), .int (nI cl), .int (nI ke)]))]) hx hb hml hown hts hK hP hD hS hA hG hl.1 (c_getIn l g kb qb 4096 nb sb fb tS (by omega) (by omega) (by omega)) (cwV 1 hts gX2_isTarget_X4_get rfl rfl rfl (by decide +kernel) ⟨Nat.le_of_ble_eq_true rfl, Nat.le_of_ble_eq_true rfl⟩) (va_recv hK hP (ci := 3) (q0 := 1) rfl rfl) rfl rfl (Nat.le_of_ble_eq_true rfl) dX2_isTarget_16 ⟨show 0 + 0 ≤ 0 by omega, show 0 + 0 ≤ 0 by omega⟩ [1, 2] [0] rfl rfl (by decide) (by decide) (by decide) (fun r_ w_ H locs hp_ hP hD hS => ?_)
    obtain ⟨rfl, rfl⟩ := hp_
    have hP : va_P (gD g) vwCl [(hh, .inr (1, [.int (nI fa), .int (nI me), .int (nI nw), .int (nI tS), .int (nI tE), .int (nI ho), .int (nI en), .int (nI le), .int bo, .int (nI ma), .int (nI mS), .int (nI mE), .int (nI cl), .int (nI ke)])), (kb, .inr (3, [.int (nI 4096), .ref qb, .int (nI sb)])), (qb, .inl (gB g, nb, .inl fb))] H := hP
    have hD : va_D A [(hh, .inr (1, [.int (nI fa), .int (nI me), .int (nI nw), .int (nI tS), .int (nI tE), .int (nI ho), .int (nI en), .int (nI le), .int bo, .int (nI ma), .int (nI mS), .int (nI mE), .int (nI cl), .int (nI ke)])), (kb, .inr (3, [.int (nI 4096), .ref qb, .int (nI sb)])), (qb, .inl (gB g, nb, .inl fb))] := hD
    refine W.eq (g2 := F0 m 19 ls [.int (fb tS &&& 255)]) rfl ?_
    refine lv_bipush (v := nI 47) hx hb dX2_isTarget_19 (by decide) ?_
    refine lv_icmp_ne (tgt := 28) hx hb dX2_isTarget_21 (by decide) (fun c21 => ?_) (fun c21 => ?_)
    · skip
      refine lv_iconst (v := nI 0) hx hb dX2_isTarget_28 (by decide) ?_
      refine lv_istore_n (lv' := [(2, .int (nI 0)), (0, .ref hh), (1, .ref kb)]) hx hb dX2_isTarget_29 rfl hl (by decide) rfl (fun ls hl => ?_)
      refine lv_aload_n hx hb dX2_isTarget_30 rfl (lv_at hl 1 rfl) ?_
      refine va_get (D := gD g) (ci := 1) (v := .int (nI tS)) (C := RX2) (T := TX2) (N := 14) hx hb hts hinX2 hown hK hP 0 rfl rfl 3 (by decide) hf22 (fun _ h9 => h9) rfl dX2_isTarget_31 ?_
      refine lv_istore_n (lv' := [(3, .int (nI tS)), (2, .int (nI 0)), (0, .ref hh), (1, .ref kb)]) hx hb dX2_isTarget_34 rfl hl (by decide) rfl (fun ls hl => ?_)
      refine lv_iload_n hx hb dX2_isTarget_35 rfl (lv_at hl 1 rfl) ?_
      refine lv_if_eq (tgt := 62) hx hb dX2_isTarget_36 (by decide) (fun _ => ?_) (fun c36 => absurd (by decide) c36)
      refine lv_iload_n hx hb dX2_isTarget_62 rfl (lv_at hl 1 rfl) ?_
      refine ct_iret (w := [(hh, .inr (1, [.int (nI fa), .int (nI me), .int (nI nw), .int (nI tS), .int (nI tE), .int (nI ho), .int (nI en), .int (nI le), .int bo, .int (nI ma), .int (nI mS), .int (nI mE), .int (nI cl), .int (nI ke)])), (kb, .inr (3, [.int (nI 4096), .ref qb, .int (nI sb)])), (qb, .inl (gB g, nb, .inl fb))]) hx hb hr rfl hlocks hQ hAe hK (hP.sub [0, 1, 2] rfl) (hD.sub [0, 1, 2] (by decide) rfl) hS (by omega) (by omega) dX2_isTarget_63 ?_
      refine Or.inr ((?_))
      exact ⟨rfl, rfl, by first | exact fun z => absurd z.1 (by omega) | exact fun z => c21 z.2.1 | exact fun z => hF_52 (z.2.2 i (by omega) (by omega))⟩
    · skip
      refine lv_iconst (v := nI 1) hx hb dX2_isTarget_24 (by decide) ?_
      refine lv_goto (tgt := 29) hx hb dX2_isTarget_25 (by decide) ?_
      refine lv_istore_n (lv' := [(2, .int (nI 1)), (0, .ref hh), (1, .ref kb)]) hx hb dX2_isTarget_29 rfl hl (by decide) rfl (fun ls hl => ?_)
      refine lv_aload_n hx hb dX2_isTarget_30 rfl (lv_at hl 1 rfl) ?_
      refine va_get (D := gD g) (ci := 1) (v := .int (nI tS)) (C := RX2) (T := TX2) (N := 14) hx hb hts hinX2 hown hK hP 0 rfl rfl 3 (by decide) hf22 (fun _ h9 => h9) rfl dX2_isTarget_31 ?_
      refine lv_istore_n (lv' := [(3, .int (nI tS)), (2, .int (nI 1)), (0, .ref hh), (1, .ref kb)]) hx hb dX2_isTarget_34 rfl hl (by decide) rfl (fun ls hl => ?_)
      have K35 : ∀ (N_ : Nat) (i : Nat), (i ≤ tE) → (tS ≤ i) → (∀ j, tS ≤ j → j < i → pVis (fb j &&& 255)) → (tE - i) < N_ → ∀ (H : Heap) (locs : List Loc) (ls : Array Slot), va_P (gD g) vwCl [(hh, .inr (1, [.int (nI fa), .int (nI me), .int (nI nw), .int (nI tS), .int (nI tE), .int (nI ho), .int (nI en), .int (nI le), .int bo, .int (nI ma), .int (nI mS), .int (nI mE), .int (nI cl), .int (nI ke)])), (kb, .inr (3, [.int (nI 4096), .ref qb, .int (nI sb)])), (qb, .inl (gB g, nb, .inl fb))] H → va_D A [(hh, .inr (1, [.int (nI fa), .int (nI me), .int (nI nw), .int (nI tS), .int (nI tE), .int (nI ho), .int (nI en), .int (nI le), .int bo, .int (nI ma), .int (nI mS), .int (nI mE), .int (nI cl), .int (nI ke)])), (kb, .inr (3, [.int (nI 4096), .ref qb, .int (nI sb)])), (qb, .inl (gB g, nb, .inl fb))] → va_S A s.heap H locs → lv_has ls 4 [(0, .ref hh), (1, .ref kb), (2, .int (nI 1)), (3, .int (nI i))] → W p l e ({ frames := 1, cells := 0, slots := 0, locals := 21 } : Room) s m args below meth c H locs (0) (0) Q (F0 m 35 ls []) := by
        intro N_
        induction N_ with
        | zero => intro i hi hi2 hall hm_; exact absurd hm_ (Nat.not_lt_zero _)
        | succ N_ ih_K35 =>
          intro i hi hi2 hall hm_ H locs ls hP hD hS hl
          refine lv_iload_n hx hb dX2_isTarget_35 rfl (lv_at hl 2 rfl) ?_
          refine lv_if_eq (tgt := 62) hx hb dX2_isTarget_36 (by decide) (fun c36 => absurd c36 (by decide)) (fun _ => ?_)
          refine lv_iload_n hx hb dX2_isTarget_39 rfl (lv_at hl 3 rfl) ?_
          refine lv_aload_n hx hb dX2_isTarget_40 rfl (lv_at hl 0 rfl) ?_
          refine va_get (D := gD g) (ci := 1) (v := .int (nI tE)) (C := RX2) (T := TX2) (N := 14) hx hb hts hinX2 hown hK hP 0 rfl rfl 4 (by decide) hf25 (fun _ h9 => h9) rfl dX2_isTarget_41 ?_
          refine lv_icmp_ge (tgt := 62) hx hb dX2_isTarget_44 (by decide) (fun c44 => ?_) (fun c44 => ?_)
          · skip
            have c44 : tE ≤ i := (nI_leI (a := tE) (b := i) (by omega) (by omega)).mp c44
            refine lv_iload_n hx hb dX2_isTarget_62 rfl (lv_at hl 2 rfl) ?_
            refine ct_iret (w := [(hh, .inr (1, [.int (nI fa), .int (nI me), .int (nI nw), .int (nI tS), .int (nI tE), .int (nI ho), .int (nI en), .int (nI le), .int bo, .int (nI ma), .int (nI mS), .int (nI mE), .int (nI cl), .int (nI ke)])), (kb, .inr (3, [.int (nI 4096), .ref qb, .int (nI sb)])), (qb, .inl (gB g, nb, .inl fb))]) hx hb hr rfl hlocks hQ hAe hK (hP.sub [0, 1, 2] rfl) (hD.sub [0, 1, 2] (by decide) rfl) hS (by omega) (by omega) dX2_isTarget_63 ?_
            refine Or.inl (?_)
            exact ⟨rfl, rfl, by exact ⟨by omega, c21, fun j h1 hj => hall j h1 (by omega)⟩⟩
          · skip
            have c44 : ¬ (tE ≤ i) := fun z => c44 ((nI_leI (a := tE) (b := i) (by omega) (by omega)).mpr z)
            refine lv_aload_n hx hb dX2_isTarget_47 rfl (lv_at hl 1 rfl) ?_
            refine lv_iload_n hx hb dX2_isTarget_48 rfl (lv_at hl 3 rfl) ?_
            refine ct_callV (wr := [(hh, .inr (1, [.int (nI fa), .int (nI me), .int (nI nw), .int (nI tS), .int (nI tE), .int (nI ho), .int (nI en), .int (nI le), .int bo, .int (nI ma), .int (nI mS), .int (nI mE), .int (nI cl), .int (nI ke)]))]) hx hb hml hown hts hK hP hD hS hA hG hl.1 (c_getIn l g kb qb 4096 nb sb fb i (by omega) (by omega) (by omega)) (cwV 1 hts gX2_isTarget_X4_get rfl rfl rfl (by decide +kernel) ⟨Nat.le_of_ble_eq_true rfl, Nat.le_of_ble_eq_true rfl⟩) (va_recv hK hP (ci := 3) (q0 := 1) rfl rfl) rfl rfl (Nat.le_of_ble_eq_true rfl) dX2_isTarget_49 ⟨show 0 + 0 ≤ 0 by omega, show 0 + 0 ≤ 0 by omega⟩ [1, 2] [0] rfl rfl (by decide) (by decide) (by decide) (fun r_ w_ H locs hp_ hP hD hS => ?_)
            obtain ⟨rfl, rfl⟩ := hp_
            have hP : va_P (gD g) vwCl [(hh, .inr (1, [.int (nI fa), .int (nI me), .int (nI nw), .int (nI tS), .int (nI tE), .int (nI ho), .int (nI en), .int (nI le), .int bo, .int (nI ma), .int (nI mS), .int (nI mE), .int (nI cl), .int (nI ke)])), (kb, .inr (3, [.int (nI 4096), .ref qb, .int (nI sb)])), (qb, .inl (gB g, nb, .inl fb))] H := hP
            have hD : va_D A [(hh, .inr (1, [.int (nI fa), .int (nI me), .int (nI nw), .int (nI tS), .int (nI tE), .int (nI ho), .int (nI en), .int (nI le), .int bo, .int (nI ma), .int (nI mS), .int (nI mE), .int (nI cl), .int (nI ke)])), (kb, .inr (3, [.int (nI 4096), .ref qb, .int (nI sb)])), (qb, .inl (gB g, nb, .inl fb))] := hD
            refine W.eq (g2 := F0 m 52 ls [.int (fb i &&& 255)]) rfl ?_
            refine ct_callS (wr := [(hh, .inr (1, [.int (nI fa), .int (nI me), .int (nI nw), .int (nI tS), .int (nI tE), .int (nI ho), .int (nI en), .int (nI le), .int bo, .int (nI ma), .int (nI mS), .int (nI mE), .int (nI cl), .int (nI ke)])), (kb, .inr (3, [.int (nI 4096), .ref qb, .int (nI sb)])), (qb, .inl (gB g, nb, .inl fb))]) hx hb hml hown hts hK hP hD hS hA hG hl.1 (c_isVisible l g (fb i &&& 255) ) (va_cwS 1 hts gX2_isTarget_X1_isVisible rfl rfl rfl (by decide +kernel) ⟨Nat.le_of_ble_eq_true rfl, Nat.le_of_ble_eq_true rfl⟩) rfl rfl (Nat.le_of_ble_eq_true rfl) dX2_isTarget_52 ⟨show 0 + 0 ≤ 0 by omega, show 0 + 0 ≤ 0 by omega⟩ [] [0, 1, 2] rfl rfl (by decide) (by decide) (by decide) (fun r_ w_ H locs hp_ hP hD hS => ?_)
            rcases hp_ with ⟨rfl, rfl, hT_52⟩ | ⟨rfl, rfl, hF_52⟩
            · skip
              have hP : va_P (gD g) vwCl [(hh, .inr (1, [.int (nI fa), .int (nI me), .int (nI nw), .int (nI tS), .int (nI tE), .int (nI ho), .int (nI en), .int (nI le), .int bo, .int (nI ma), .int (nI mS), .int (nI mE), .int (nI cl), .int (nI ke)])), (kb, .inr (3, [.int (nI 4096), .ref qb, .int (nI sb)])), (qb, .inl (gB g, nb, .inl fb))] H := hP
              have hD : va_D A [(hh, .inr (1, [.int (nI fa), .int (nI me), .int (nI nw), .int (nI tS), .int (nI tE), .int (nI ho), .int (nI en), .int (nI le), .int bo, .int (nI ma), .int (nI mS), .int (nI mE), .int (nI cl), .int (nI ke)])), (kb, .inr (3, [.int (nI 4096), .ref qb, .int (nI sb)])), (qb, .inl (gB g, nb, .inl fb))] := hD
              have hT_52 : pVis (fb i &&& 255) := hT_52
              refine W.eq (g2 := F0 m 55 ls [.int (nI 1)]) rfl ?_
              refine lv_istore_n (lv' := [(2, .int (nI 1)), (0, .ref hh), (1, .ref kb), (3, .int (nI i))]) hx hb dX2_isTarget_55 rfl hl (by decide) rfl (fun ls hl => ?_)
              refine lv_iinc (v := nI (i + 1)) (lv' := [(3, .int (nI (i + 1))), (2, .int (nI 1)), (0, .ref hh), (1, .ref kb)]) hx hb dX2_isTarget_56 hl (k := 3) rfl (nI_inc i 1) (by decide) rfl (fun ls hl => ?_)
              refine lv_goto (tgt := 35) hx hb dX2_isTarget_59 (by decide) ?_
              exact ih_K35 (i + 1) (by omega) (by omega) (by exact all_s hall hT_52) (by omega) _ _ _ (hP.sub [0, 1, 2] rfl) (hD.sub [0, 1, 2] (by decide) rfl) hS (lv_sub hl [2, 3, 1, 0] rfl)
            · skip
              have hP : va_P (gD g) vwCl [(hh, .inr (1, [.int (nI fa), .int (nI me), .int (nI nw), .int (nI tS), .int (nI tE), .int (nI ho), .int (nI en), .int (nI le), .int bo, .int (nI ma), .int (nI mS), .int (nI mE), .int (nI cl), .int (nI ke)])), (kb, .inr (3, [.int (nI 4096), .ref qb, .int (nI sb)])), (qb, .inl (gB g, nb, .inl fb))] H := hP
              have hD : va_D A [(hh, .inr (1, [.int (nI fa), .int (nI me), .int (nI nw), .int (nI tS), .int (nI tE), .int (nI ho), .int (nI en), .int (nI le), .int bo, .int (nI ma), .int (nI mS), .int (nI mE), .int (nI cl), .int (nI ke)])), (kb, .inr (3, [.int (nI 4096), .ref qb, .int (nI sb)])), (qb, .inl (gB g, nb, .inl fb))] := hD
              have hF_52 : ¬ (pVis (fb i &&& 255)) := hF_52
              refine W.eq (g2 := F0 m 55 ls [.int (nI 0)]) rfl ?_
              refine lv_istore_n (lv' := [(2, .int (nI 0)), (0, .ref hh), (1, .ref kb), (3, .int (nI i))]) hx hb dX2_isTarget_55 rfl hl (by decide) rfl (fun ls hl => ?_)
              refine lv_iinc (v := nI (i + 1)) (lv' := [(3, .int (nI (i + 1))), (2, .int (nI 0)), (0, .ref hh), (1, .ref kb)]) hx hb dX2_isTarget_56 hl (k := 3) rfl (nI_inc i 1) (by decide) rfl (fun ls hl => ?_)
              refine lv_goto (tgt := 35) hx hb dX2_isTarget_59 (by decide) ?_
              refine lv_iload_n hx hb dX2_isTarget_35 rfl (lv_at hl 1 rfl) ?_
              refine lv_if_eq (tgt := 62) hx hb dX2_isTarget_36 (by decide) (fun _ => ?_) (fun c36 => absurd (by decide) c36)
              refine lv_iload_n hx hb dX2_isTarget_62 rfl (lv_at hl 1 rfl) ?_
              refine ct_iret (w := [(hh, .inr (1, [.int (nI fa), .int (nI me), .int (nI nw), .int (nI tS), .int (nI tE), .int (nI ho), .int (nI en), .int (nI le), .int bo, .int (nI ma), .int (nI mS), .int (nI mE), .int (nI cl), .int (nI ke)])), (kb, .inr (3, [.int (nI 4096), .ref qb, .int (nI sb)])), (qb, .inl (gB g, nb, .inl fb))]) hx hb hr rfl hlocks hQ hAe hK (hP.sub [0, 1, 2] rfl) (hD.sub [0, 1, 2] (by decide) rfl) hS (by omega) (by omega) dX2_isTarget_63 ?_
              refine Or.inr ((?_))
              exact ⟨rfl, rfl, by first | exact fun z => absurd z.1 (by omega) | exact fun z => c21 z.2.1 | exact fun z => hF_52 (z.2.2 i (by omega) (by omega))⟩
      exact K35 ((tE - tS) + 1) tS (by omega) (by omega) (by intro j h1 h2; omega) (Nat.lt_succ_self _) _ _ _ (hP.sub [0, 1, 2] rfl) (hD.sub [0, 1, 2] (by decide) rfl) hS (lv_sub hl [2, 3, 1, 0] rfl)

set_option maxHeartbeats 4000000 in
set_option maxRecDepth 100000 in
theorem c_numberIn (l : Launch) (g : GT) (kb : Nat) (qb : Nat) (nb : Nat) (sb : Nat) (fb : Nat → Int32) (a0 : Nat) (e0 : Nat) (hs1 : sb ≤ nb) (hs2 : nb ≤ 4096) (he0 : e0 ≤ sb) (ha0 : a0 ≤ sb + 1) : CT l g yX2_numberIn wsX2_numberIn ({ frames := 1, cells := 0, slots := 0, locals := 21 } : Room) [.ref kb, .int (nI a0), .int (nI e0)] [(kb, .inr (3, [.int (nI 4096), .ref qb, .int (nI sb)])), (qb, .inl (gB g, nb, .inl fb))] (fun r w => (∃ (v1 : Int32), r = some (.int v1) ∧ w = [(kb, .inr (3, [.int (nI 4096), .ref qb, .int (nI sb)])), (qb, .inl (gB g, nb, .inl fb))] ∧ (v1 = numF fb a0 e0))) (0) (0) := by
  refine ct_of (cc := cX2_numberIn) (maxL := 6) (ret := (some .int)) (by decide) rfl (Nat.le_of_ble_eq_true rfl) ?_
  intro p e s m args below meth c A Q hx hb hr hml hown hts hlocks hnam hAe hQ hA hG hK hP hD hS ls hl
  have hl : lv_has ls 6 [(0, .ref kb), (1, .int (nI a0)), (2, .int (nI e0))] := hl
  have hown : s.vm.findClass RX2 = some m.cls := hown
  refine lv_iload_n hx hb dX2_numberIn_0 rfl (lv_at hl 2 rfl) ?_
  refine lv_iload_n hx hb dX2_numberIn_1 rfl (lv_at hl 1 rfl) ?_
  refine lv_icmp_le (tgt := 13) hx hb dX2_numberIn_2 (by decide) (fun c2 => ?_) (fun c2 => ?_)
  · skip
    have c2 : e0 ≤ a0 := (nI_leI (a := e0) (b := a0) (by omega) (by omega)).mp c2
    refine lv_iconst (v := (-1)) hx hb dX2_numberIn_13 (by decide) ?_
    refine ct_iret (w := [(kb, .inr (3, [.int (nI 4096), .ref qb, .int (nI sb)])), (qb, .inl (gB g, nb, .inl fb))]) hx hb hr rfl hlocks hQ hAe hK (hP.sub [0, 1] rfl) (hD.sub [0, 1] (by decide) rfl) hS (by omega) (by omega) dX2_numberIn_14 ?_
    exact ⟨-1, rfl, rfl, by first | exact (if_neg (by omega)).symm | (obtain ⟨m, h1, h2⟩ := hE; first | exact ((if_pos (by omega)).trans (h2.trans (nmL_1 (by omega)))).symm | (obtain ⟨m, rfl⟩ : ∃ k, m = k + 1 := ⟨m - 1, by omega⟩; exact ((if_pos (by omega)).trans (h2.trans (nmL_3 (by omega) hF_36))).symm))⟩
  · skip
    have c2 : ¬ (e0 ≤ a0) := fun z => c2 ((nI_leI (a := e0) (b := a0) (by omega) (by omega)).mpr z)
    refine lv_iload_n hx hb dX2_numberIn_5 rfl (lv_at hl 2 rfl) ?_
    refine lv_iload_n hx hb dX2_numberIn_6 rfl (lv_at hl 1 rfl) ?_
    refine q_isub (v := nI (e0 - a0)) hx hb dX2_numberIn_7 (pk_sub (a := e0) (b := a0) (by omega)) ?_
    refine lv_bipush (v := nI 9) hx hb dX2_numberIn_8 (by decide) ?_
    refine lv_icmp_le (tgt := 15) hx hb dX2_numberIn_10 (by decide) (fun c10 => ?_) (fun c10 => ?_)
    · skip
      have c10 : e0 - a0 ≤ 9 := (nI_leI (a := e0 - a0) (b := 9) (by omega) (by omega)).mp c10
      refine lv_iconst (v := nI 0) hx hb dX2_numberIn_15 (by decide) ?_
      refine lv_istore_n (lv' := [(3, .int (nI 0)), (0, .ref kb), (1, .int (nI a0)), (2, .int (nI e0))]) hx hb dX2_numberIn_16 rfl hl (by decide) rfl (fun ls hl => ?_)
      refine lv_iload_n hx hb dX2_numberIn_17 rfl (lv_at hl 2 rfl) ?_
      refine lv_istore (lv' := [(4, .int (nI a0)), (3, .int (nI 0)), (0, .ref kb), (1, .int (nI a0)), (2, .int (nI e0))]) hx hb dX2_numberIn_18 hl (by decide) rfl (fun ls hl => ?_)
      have K20 : ∀ (N_ : Nat) (i : Nat) (v2 : Int32), (i ≤ e0) → (∃ m, e0 < i + m ∧ nmL fb e0 (e0 + 1) a0 (nI 0) = nmL fb e0 m i v2) → (e0 - i) < N_ → ∀ (H : Heap) (locs : List Loc) (ls : Array Slot), va_P (gD g) vwCl [(kb, .inr (3, [.int (nI 4096), .ref qb, .int (nI sb)])), (qb, .inl (gB g, nb, .inl fb))] H → va_D A [(kb, .inr (3, [.int (nI 4096), .ref qb, .int (nI sb)])), (qb, .inl (gB g, nb, .inl fb))] → va_S A s.heap H locs → lv_has ls 6 [(0, .ref kb), (1, .int (nI a0)), (2, .int (nI e0)), (3, .int v2), (4, .int (nI i))] → W p l e ({ frames := 1, cells := 0, slots := 0, locals := 21 } : Room) s m args below meth c H locs (0) (0) Q (F0 m 20 ls []) := by
        intro N_
        induction N_ with
        | zero => intro i v2 hi hE hm_; exact absurd hm_ (Nat.not_lt_zero _)
        | succ N_ ih_K20 =>
          intro i v2 hi hE hm_ H locs ls hP hD hS hl
          refine lv_iload hx hb dX2_numberIn_20 (lv_at hl 4 rfl) ?_
          refine lv_iload_n hx hb dX2_numberIn_22 rfl (lv_at hl 2 rfl) ?_
          refine lv_icmp_ge (tgt := 61) hx hb dX2_numberIn_23 (by decide) (fun c23 => ?_) (fun c23 => ?_)
          · skip
            have c23 : e0 ≤ i := (nI_leI (a := e0) (b := i) (by omega) (by omega)).mp c23
            refine lv_iload_n hx hb dX2_numberIn_61 rfl (lv_at hl 3 rfl) ?_
            refine ct_iret (w := [(kb, .inr (3, [.int (nI 4096), .ref qb, .int (nI sb)])), (qb, .inl (gB g, nb, .inl fb))]) hx hb hr rfl hlocks hQ hAe hK (hP.sub [0, 1] rfl) (hD.sub [0, 1] (by decide) rfl) hS (by omega) (by omega) dX2_numberIn_62 ?_
            exact ⟨v2, rfl, rfl, by first | exact (if_neg (by omega)).symm | (obtain ⟨m, h1, h2⟩ := hE; first | exact ((if_pos (by omega)).trans (h2.trans (nmL_1 (by omega)))).symm | (obtain ⟨m, rfl⟩ : ∃ k, m = k + 1 := ⟨m - 1, by omega⟩; exact ((if_pos (by omega)).trans (h2.trans (nmL_3 (by omega) hF_36))).symm))⟩
          · skip
            have c23 : ¬ (e0 ≤ i) := fun z => c23 ((nI_leI (a := e0) (b := i) (by omega) (by omega)).mpr z)
            refine lv_aload_n hx hb dX2_numberIn_26 rfl (lv_at hl 0 rfl) ?_
            refine lv_iload hx hb dX2_numberIn_27 (lv_at hl 4 rfl) ?_
            refine ct_callV (wr := []) hx hb hml hown hts hK hP hD hS hA hG hl.1 (c_getIn l g kb qb 4096 nb sb fb i (by omega) (by omega) (by omega)) (cwV 1 hts gX2_numberIn_X4_get rfl rfl rfl (by decide +kernel) ⟨Nat.le_of_ble_eq_true rfl, Nat.le_of_ble_eq_true rfl⟩) (va_recv hK hP (ci := 3) (q0 := 0) rfl rfl) rfl rfl (Nat.le_of_ble_eq_true rfl) dX2_numberIn_29 ⟨show 0 + 0 ≤ 0 by omega, show 0 + 0 ≤ 0 by omega⟩ [0, 1] [] rfl rfl (by decide) (by decide) (by decide) (fun r_ w_ H locs hp_ hP hD hS => ?_)
            obtain ⟨rfl, rfl⟩ := hp_
            have hP : va_P (gD g) vwCl [(kb, .inr (3, [.int (nI 4096), .ref qb, .int (nI sb)])), (qb, .inl (gB g, nb, .inl fb))] H := hP
            have hD : va_D A [(kb, .inr (3, [.int (nI 4096), .ref qb, .int (nI sb)])), (qb, .inl (gB g, nb, .inl fb))] := hD
            refine W.eq (g2 := F0 m 32 ls [.int (fb i &&& 255)]) rfl ?_
            refine lv_istore (lv' := [(5, .int (fb i &&& 255)), (0, .ref kb), (1, .int (nI a0)), (2, .int (nI e0)), (3, .int v2), (4, .int (nI i))]) hx hb dX2_numberIn_32 hl (by decide) rfl (fun ls hl => ?_)
            refine lv_iload hx hb dX2_numberIn_34 (lv_at hl 0 rfl) ?_
            refine ct_callS (wr := [(kb, .inr (3, [.int (nI 4096), .ref qb, .int (nI sb)])), (qb, .inl (gB g, nb, .inl fb))]) hx hb hml hown hts hK hP hD hS hA hG hl.1 (c_isDigit l g (fb i &&& 255) ) (va_cwS 1 hts gX2_numberIn_X1_isDigit rfl rfl rfl (by decide +kernel) ⟨Nat.le_of_ble_eq_true rfl, Nat.le_of_ble_eq_true rfl⟩) rfl rfl (Nat.le_of_ble_eq_true rfl) dX2_numberIn_36 ⟨show 0 + 0 ≤ 0 by omega, show 0 + 0 ≤ 0 by omega⟩ [] [0, 1] rfl rfl (by decide) (by decide) (by decide) (fun r_ w_ H locs hp_ hP hD hS => ?_)
            rcases hp_ with ⟨rfl, rfl, hT_36⟩ | ⟨rfl, rfl, hF_36⟩
            · skip
              have hP : va_P (gD g) vwCl [(kb, .inr (3, [.int (nI 4096), .ref qb, .int (nI sb)])), (qb, .inl (gB g, nb, .inl fb))] H := hP
              have hD : va_D A [(kb, .inr (3, [.int (nI 4096), .ref qb, .int (nI sb)])), (qb, .inl (gB g, nb, .inl fb))] := hD
              have hT_36 : pDigit (fb i &&& 255) := hT_36
              refine W.eq (g2 := F0 m 39 ls [.int (nI 1)]) rfl ?_
              refine lv_if_ne (tgt := 44) hx hb dX2_numberIn_39 (by decide) (fun _ => ?_) (fun c39 => absurd c39 (by decide))
              refine lv_iload_n hx hb dX2_numberIn_44 rfl (lv_at hl 4 rfl) ?_
              refine lv_bipush (v := nI 10) hx hb dX2_numberIn_45 (by decide) ?_
              refine q_imul (v := v2 * (nI 10)) hx hb dX2_numberIn_47 (rfl) ?_
              refine lv_iload hx hb dX2_numberIn_48 (lv_at hl 0 rfl) ?_
              refine q_iadd (v := (v2 * (nI 10)) + (fb i &&& 255)) hx hb dX2_numberIn_50 (rfl) ?_
              refine lv_bipush (v := nI 48) hx hb dX2_numberIn_51 (by decide) ?_
              refine q_isub (v := ((v2 * (nI 10)) + (fb i &&& 255)) - (nI 48)) hx hb dX2_numberIn_53 (rfl) ?_
              refine lv_istore_n (lv' := [(3, .int (((v2 * (nI 10)) + (fb i &&& 255)) - (nI 48))), (5, .int (fb i &&& 255)), (0, .ref kb), (1, .int (nI a0)), (2, .int (nI e0)), (4, .int (nI i))]) hx hb dX2_numberIn_54 rfl hl (by decide) rfl (fun ls hl => ?_)
              refine lv_iinc (v := nI (i + 1)) (lv' := [(4, .int (nI (i + 1))), (3, .int (((v2 * (nI 10)) + (fb i &&& 255)) - (nI 48))), (5, .int (fb i &&& 255)), (0, .ref kb), (1, .int (nI a0)), (2, .int (nI e0))]) hx hb dX2_numberIn_55 hl (k := 5) rfl (nI_inc i 1) (by decide) rfl (fun ls hl => ?_)
              refine lv_goto (tgt := 20) hx hb dX2_numberIn_58 (by decide) ?_
              exact ih_K20 (i + 1) (((v2 * (nI 10)) + (fb i &&& 255)) - (nI 48)) (by omega) (by (obtain ⟨m, h1, h2⟩ := hE; obtain ⟨m, rfl⟩ : ∃ k, m = k + 1 := ⟨m - 1, by omega⟩; exact ⟨m, by omega, h2.trans (nmL_2 (by omega) hT_36)⟩)) (by omega) _ _ _ (hP.sub [0, 1] rfl) (hD.sub [0, 1] (by decide) rfl) hS (lv_sub hl [3, 4, 5, 1, 0] rfl)
            · skip
              have hP : va_P (gD g) vwCl [(kb, .inr (3, [.int (nI 4096), .ref qb, .int (nI sb)])), (qb, .inl (gB g, nb, .inl fb))] H := hP
              have hD : va_D A [(kb, .inr (3, [.int (nI 4096), .ref qb, .int (nI sb)])), (qb, .inl (gB g, nb, .inl fb))] := hD
              have hF_36 : ¬ (pDigit (fb i &&& 255)) := hF_36
              refine W.eq (g2 := F0 m 39 ls [.int (nI 0)]) rfl ?_
              refine lv_if_ne (tgt := 44) hx hb dX2_numberIn_39 (by decide) (fun c39 => absurd (by decide) c39) (fun _ => ?_)
              refine lv_iconst (v := (-1)) hx hb dX2_numberIn_42 (by decide) ?_
              refine ct_iret (w := [(kb, .inr (3, [.int (nI 4096), .ref qb, .int (nI sb)])), (qb, .inl (gB g, nb, .inl fb))]) hx hb hr rfl hlocks hQ hAe hK (hP.sub [0, 1] rfl) (hD.sub [0, 1] (by decide) rfl) hS (by omega) (by omega) dX2_numberIn_43 ?_
              exact ⟨-1, rfl, rfl, by first | exact (if_neg (by omega)).symm | (obtain ⟨m, h1, h2⟩ := hE; first | exact ((if_pos (by omega)).trans (h2.trans (nmL_1 (by omega)))).symm | (obtain ⟨m, rfl⟩ : ∃ k, m = k + 1 := ⟨m - 1, by omega⟩; exact ((if_pos (by omega)).trans (h2.trans (nmL_3 (by omega) hF_36))).symm))⟩
      exact K20 ((e0 - a0) + 1) a0 (nI 0) (by omega) (by exact ⟨e0 + 1, by omega, rfl⟩) (Nat.lt_succ_self _) _ _ _ (hP.sub [0, 1] rfl) (hD.sub [0, 1] (by decide) rfl) hS (lv_sub hl [2, 3, 4, 1, 0] rfl)
    · skip
      have c10 : ¬ (e0 - a0 ≤ 9) := fun z => c10 ((nI_leI (a := e0 - a0) (b := 9) (by omega) (by omega)).mpr z)
      refine lv_iconst (v := (-1)) hx hb dX2_numberIn_13 (by decide) ?_
      refine ct_iret (w := [(kb, .inr (3, [.int (nI 4096), .ref qb, .int (nI sb)])), (qb, .inl (gB g, nb, .inl fb))]) hx hb hr rfl hlocks hQ hAe hK (hP.sub [0, 1] rfl) (hD.sub [0, 1] (by decide) rfl) hS (by omega) (by omega) dX2_numberIn_14 ?_
      exact ⟨-1, rfl, rfl, by first | exact (if_neg (by omega)).symm | (obtain ⟨m, h1, h2⟩ := hE; first | exact ((if_pos (by omega)).trans (h2.trans (nmL_1 (by omega)))).symm | (obtain ⟨m, rfl⟩ : ∃ k, m = k + 1 := ⟨m - 1, by omega⟩; exact ((if_pos (by omega)).trans (h2.trans (nmL_3 (by omega) hF_36))).symm))⟩

set_option maxHeartbeats 4000000 in
set_option maxRecDepth 100000 in
theorem c_noteWords (l : Launch) (g : GT) (hh : Nat) (fa : Nat) (me : Nat) (nw : Nat) (tS : Nat) (tE : Nat) (ho : Nat) (en : Nat) (le : Nat) (bo : Int32) (ma : Nat) (mS : Nat) (mE : Nat) (cl : Nat) (ke : Nat) (kb : Nat) (qb : Nat) (nb : Nat) (sb : Nat) (fb : Nat → Int32) (a0 : Nat) (e0 : Nat) (hs1 : sb ≤ nb) (hs2 : nb ≤ 4096) (hfa : fa ≤ 1) (hnw : nw ≤ 1) (hcl : cl ≤ 1) (hke : ke ≤ 1) (he0 : e0 ≤ sb) (ha0 : a0 ≤ e0) : CT l g yX2_noteWords wsX2_noteWords ({ frames := 5, cells := 0, slots := 0, locals := 111 } : Room) [.ref hh, .ref kb, .int (nI a0), .int (nI e0)] [(hh, .inr (1, [.int (nI fa), .int (nI me), .int (nI nw), .int (nI tS), .int (nI tE), .int (nI ho), .int (nI en), .int (nI le), .int bo, .int (nI ma), .int (nI mS), .int (nI mE), .int (nI cl), .int (nI ke)])), (kb, .inr (3, [.int (nI 4096), .ref qb, .int (nI sb)])), (qb, .inl (gB g, nb, .inl fb))] (fun r w => (∃ (c1 : Nat) (k1 : Nat), r = none ∧ w = [(hh, .inr (1, [.int (nI fa), .int (nI me), .int (nI nw), .int (nI tS), .int (nI tE), .int (nI ho), .int (nI en), .int (nI le), .int bo, .int (nI ma), .int (nI mS), .int (nI mE), .int (nI c1), .int (nI k1)])), (kb, .inr (3, [.int (nI 4096), .ref qb, .int (nI sb)])), (qb, .inl (gB g, nb, .inl fb))] ∧ ((c1, k1) = wdL fb e0 (e0 + 2) a0 a0 cl ke) ∧ (c1 ≤ 1 ∧ k1 ≤ 1))) (0) (0) := by
  refine ct_of (cc := cX2_noteWords) (maxL := 6) (ret := none) (by decide) rfl (Nat.le_of_ble_eq_true rfl) ?_
  intro p e s m args below meth c A Q hx hb hr hml hown hts hlocks hnam hAe hQ hA hG hK hP hD hS ls hl
  have hl : lv_has ls 6 [(0, .ref hh), (1, .ref kb), (2, .int (nI a0)), (3, .int (nI e0))] := hl
  have hown : s.vm.findClass RX2 = some m.cls := hown
  have hinX2 : ∀ w ∈ u_ws RX2 TX2 14, w ∈ wsX2_noteWords := by decide +kernel
  have hf49 := hts (.fieldLink RX2 49 "RequestReader$Head" "saysClose" "Z") (by decide +kernel)
  have hf52 := hts (.fieldLink RX2 52 "RequestReader$Head" "saysKeepAlive" "Z") (by decide +kernel)
  refine lv_iload_n hx hb dX2_noteWords_0 rfl (lv_at hl 2 rfl) ?_
  refine lv_istore (lv' := [(4, .int (nI a0)), (0, .ref hh), (1, .ref kb), (2, .int (nI a0)), (3, .int (nI e0))]) hx hb dX2_noteWords_1 hl (by decide) rfl (fun ls hl => ?_)
  refine lv_iload_n hx hb dX2_noteWords_3 rfl (lv_at hl 3 rfl) ?_
  refine lv_istore (lv' := [(5, .int (nI a0)), (4, .int (nI a0)), (0, .ref hh), (1, .ref kb), (2, .int (nI a0)), (3, .int (nI e0))]) hx hb dX2_noteWords_4 hl (by decide) rfl (fun ls hl => ?_)
  have K6 : ∀ (N_ : Nat) (i : Nat) (w0 : Nat) (c1 : Nat) (k1 : Nat), (i ≤ e0 + 1) → (w0 ≤ i) → (c1 ≤ 1) → (k1 ≤ 1) → (∃ m, e0 + 1 < i + m ∧ wdL fb e0 (e0 + 2) a0 a0 cl ke = wdL fb e0 m i w0 c1 k1) → (e0 + 1 - i) < N_ → ∀ (H : Heap) (locs : List Loc) (ls : Array Slot), va_P (gD g) vwCl [(hh, .inr (1, [.int (nI fa), .int (nI me), .int (nI nw), .int (nI tS), .int (nI tE), .int (nI ho), .int (nI en), .int (nI le), .int bo, .int (nI ma), .int (nI mS), .int (nI mE), .int (nI c1), .int (nI k1)])), (kb, .inr (3, [.int (nI 4096), .ref qb, .int (nI sb)])), (qb, .inl (gB g, nb, .inl fb))] H → va_D A [(hh, .inr (1, [.int (nI fa), .int (nI me), .int (nI nw), .int (nI tS), .int (nI tE), .int (nI ho), .int (nI en), .int (nI le), .int bo, .int (nI ma), .int (nI mS), .int (nI mE), .int (nI c1), .int (nI k1)])), (kb, .inr (3, [.int (nI 4096), .ref qb, .int (nI sb)])), (qb, .inl (gB g, nb, .inl fb))] → va_S A s.heap H locs → lv_has ls 6 [(0, .ref hh), (1, .ref kb), (2, .int (nI a0)), (3, .int (nI e0)), (4, .int (nI w0)), (5, .int (nI i))] → W p l e ({ frames := 5, cells := 0, slots := 0, locals := 111 } : Room) s m args below meth c H locs (0) (0) Q (F0 m 6 ls []) := by
    intro N_
    induction N_ with
    | zero => intro i w0 c1 k1 hi hw hc1 hk1 hE hm_; exact absurd hm_ (Nat.not_lt_zero _)
    | succ N_ ih_K6 =>
      intro i w0 c1 k1 hi hw hc1 hk1 hE hm_ H locs ls hP hD hS hl
      refine lv_iload hx hb dX2_noteWords_6 (lv_at hl 5 rfl) ?_
      refine lv_iload_n hx hb dX2_noteWords_8 rfl (lv_at hl 3 rfl) ?_
      refine lv_icmp_gt (tgt := 91) hx hb dX2_noteWords_9 (by decide) (fun c9 => ?_) (fun c9 => ?_)
      · skip
        have c9 : e0 < i := (nI_ltI (a := e0) (b := i) (by omega) (by omega)).mp c9
        refine ct_vret (w := [(hh, .inr (1, [.int (nI fa), .int (nI me), .int (nI nw), .int (nI tS), .int (nI tE), .int (nI ho), .int (nI en), .int (nI le), .int bo, .int (nI ma), .int (nI mS), .int (nI mE), .int (nI c1), .int (nI k1)])), (kb, .inr (3, [.int (nI 4096), .ref qb, .int (nI sb)])), (qb, .inl (gB g, nb, .inl fb))]) hx hb hr hlocks hQ hAe hK (hP.sub [0, 1, 2] rfl) (hD.sub [0, 1, 2] (by decide) rfl) hS (by omega) (by omega) dX2_noteWords_91 ?_
        exact ⟨c1, k1, rfl, rfl, by (obtain ⟨m, h1, h2⟩ := hE; exact (h2.trans (wdL_0 (by omega))).symm), by omega⟩
      · skip
        have c9 : ¬ (e0 < i) := fun z => c9 ((nI_ltI (a := e0) (b := i) (by omega) (by omega)).mpr z)
        refine lv_iload hx hb dX2_noteWords_12 (lv_at hl 5 rfl) ?_
        refine lv_iload_n hx hb dX2_noteWords_14 rfl (lv_at hl 3 rfl) ?_
        refine lv_icmp_eq (tgt := 41) hx hb dX2_noteWords_15 (by decide) (fun c15 => ?_) (fun c15 => ?_)
        · skip
          have c15 : i = e0 := (nI_eq (a := i) (b := e0) (by omega) (by omega)).mp c15
          refine lv_aload_n hx hb dX2_noteWords_41 rfl (lv_at hl 0 rfl) ?_
          refine lv_dup hx hb dX2_noteWords_42 rfl ?_
          refine va_get (D := gD g) (ci := 1) (v := .int (nI c1)) (C := RX2) (T := TX2) (N := 14) hx hb hts hinX2 hown hK hP 0 rfl rfl 12 (by decide) hf49 (fun _ h9 => h9) rfl dX2_noteWords_43 ?_
          refine lv_aload_n hx hb dX2_noteWords_46 rfl (lv_at hl 1 rfl) ?_
          refine lv_iload hx hb dX2_noteWords_47 (lv_at hl 4 rfl) ?_
          refine lv_iload hx hb dX2_noteWords_49 (lv_at hl 5 rfl) ?_
          refine va_ldcS hx hb hown ((hG.1 12 (by decide)).2.2.2.2) dX2_noteWords_51 ?_
          refine ct_callV (wr := [(hh, .inr (1, [.int (nI fa), .int (nI me), .int (nI nw), .int (nI tS), .int (nI tE), .int (nI ho), .int (nI en), .int (nI le), .int bo, .int (nI ma), .int (nI mS), .int (nI mE), .int (nI c1), .int (nI k1)]))]) hx hb hml hown hts hK hP hD hS hA hG hl.1 (c_hasWord l g kb qb 4096 nb sb fb w0 i 12 (by omega) (by omega) (by omega) (by omega) (by omega) (by first | assumption | decide)) (cwV 3 hts gX2_noteWords_X4_hasWord rfl rfl rfl (by decide +kernel) ⟨Nat.le_of_ble_eq_true rfl, Nat.le_of_ble_eq_true rfl⟩) (va_recv hK hP (ci := 3) (q0 := 1) rfl rfl) rfl rfl (Nat.le_of_ble_eq_true rfl) dX2_noteWords_53 ⟨show 0 + 0 ≤ 0 by omega, show 0 + 0 ≤ 0 by omega⟩ [1, 2] [0] rfl rfl (by decide) (by decide) (by decide) (fun r_ w_ H locs hp_ hP hD hS => ?_)
          rcases hp_ with ⟨rfl, rfl, hT_53⟩ | ⟨rfl, rfl, hF_53⟩
          · skip
            have hP : va_P (gD g) vwCl [(hh, .inr (1, [.int (nI fa), .int (nI me), .int (nI nw), .int (nI tS), .int (nI tE), .int (nI ho), .int (nI en), .int (nI le), .int bo, .int (nI ma), .int (nI mS), .int (nI mE), .int (nI c1), .int (nI k1)])), (kb, .inr (3, [.int (nI 4096), .ref qb, .int (nI sb)])), (qb, .inl (gB g, nb, .inl fb))] H := hP
            have hD : va_D A [(hh, .inr (1, [.int (nI fa), .int (nI me), .int (nI nw), .int (nI tS), .int (nI tE), .int (nI ho), .int (nI en), .int (nI le), .int bo, .int (nI ma), .int (nI mS), .int (nI mE), .int (nI c1), .int (nI k1)])), (kb, .inr (3, [.int (nI 4096), .ref qb, .int (nI sb)])), (qb, .inl (gB g, nb, .inl fb))] := hD
            have hT_53 : pWord fb w0 i 12 := hT_53
            refine W.eq (g2 := F0 m 56 ls [.int (nI 1), .int (nI c1), .ref hh]) rfl ?_
            refine q_ior (v := nI 1) hx hb dX2_noteWords_56 (or1 (by omega)) ?_
            refine va_put (D := gD g) (ci := 1) (v := .int (nI 1)) (ty := .boolean) (C := RX2) (T := TX2) (N := 14) hx hb hts hinX2 tyX2 tyX2_ok nmX2 hown hK hP hD hS 0 rfl rfl 12 (by decide) hf49 (fun _ h9 => h9) rfl (by decide +kernel) rfl rfl (Nat.le_of_ble_eq_true rfl) dX2_noteWords_57 (fun H locs hP hD hS => ?_)
            have hP : va_P (gD g) vwCl [(hh, .inr (1, [.int (nI fa), .int (nI me), .int (nI nw), .int (nI tS), .int (nI tE), .int (nI ho), .int (nI en), .int (nI le), .int bo, .int (nI ma), .int (nI mS), .int (nI mE), .int (nI 1), .int (nI k1)])), (kb, .inr (3, [.int (nI 4096), .ref qb, .int (nI sb)])), (qb, .inl (gB g, nb, .inl fb))] H := hP
            have hD : va_D A [(hh, .inr (1, [.int (nI fa), .int (nI me), .int (nI nw), .int (nI tS), .int (nI tE), .int (nI ho), .int (nI en), .int (nI le), .int bo, .int (nI ma), .int (nI mS), .int (nI mE), .int (nI 1), .int (nI k1)])), (kb, .inr (3, [.int (nI 4096), .ref qb, .int (nI sb)])), (qb, .inl (gB g, nb, .inl fb))] := hD
            refine lv_aload_n hx hb dX2_noteWords_60 rfl (lv_at hl 0 rfl) ?_
            refine lv_dup hx hb dX2_noteWords_61 rfl ?_
            refine va_get (D := gD g) (ci := 1) (v := .int (nI k1)) (C := RX2) (T := TX2) (N := 14) hx hb hts hinX2 hown hK hP 0 rfl rfl 13 (by decide) hf52 (fun _ h9 => h9) rfl dX2_noteWords_62 ?_
            refine lv_aload_n hx hb dX2_noteWords_65 rfl (lv_at hl 1 rfl) ?_
            refine lv_iload hx hb dX2_noteWords_66 (lv_at hl 4 rfl) ?_
            refine lv_iload hx hb dX2_noteWords_68 (lv_at hl 5 rfl) ?_
            refine va_ldcS hx hb hown ((hG.1 13 (by decide)).2.2.2.2) dX2_noteWords_70 ?_
            refine ct_callV (wr := [(hh, .inr (1, [.int (nI fa), .int (nI me), .int (nI nw), .int (nI tS), .int (nI tE), .int (nI ho), .int (nI en), .int (nI le), .int bo, .int (nI ma), .int (nI mS), .int (nI mE), .int (nI 1), .int (nI k1)]))]) hx hb hml hown hts hK hP hD hS hA hG hl.1 (c_hasWord l g kb qb 4096 nb sb fb w0 i 13 (by omega) (by omega) (by omega) (by omega) (by omega) (by first | assumption | decide)) (cwV 3 hts gX2_noteWords_X4_hasWord rfl rfl rfl (by decide +kernel) ⟨Nat.le_of_ble_eq_true rfl, Nat.le_of_ble_eq_true rfl⟩) (va_recv hK hP (ci := 3) (q0 := 1) rfl rfl) rfl rfl (Nat.le_of_ble_eq_true rfl) dX2_noteWords_72 ⟨show 0 + 0 ≤ 0 by omega, show 0 + 0 ≤ 0 by omega⟩ [1, 2] [0] rfl rfl (by decide) (by decide) (by decide) (fun r_ w_ H locs hp_ hP hD hS => ?_)
            rcases hp_ with ⟨rfl, rfl, hT_72⟩ | ⟨rfl, rfl, hF_72⟩
            · skip
              have hP : va_P (gD g) vwCl [(hh, .inr (1, [.int (nI fa), .int (nI me), .int (nI nw), .int (nI tS), .int (nI tE), .int (nI ho), .int (nI en), .int (nI le), .int bo, .int (nI ma), .int (nI mS), .int (nI mE), .int (nI 1), .int (nI k1)])), (kb, .inr (3, [.int (nI 4096), .ref qb, .int (nI sb)])), (qb, .inl (gB g, nb, .inl fb))] H := hP
              have hD : va_D A [(hh, .inr (1, [.int (nI fa), .int (nI me), .int (nI nw), .int (nI tS), .int (nI tE), .int (nI ho), .int (nI en), .int (nI le), .int bo, .int (nI ma), .int (nI mS), .int (nI mE), .int (nI 1), .int (nI k1)])), (kb, .inr (3, [.int (nI 4096), .ref qb, .int (nI sb)])), (qb, .inl (gB g, nb, .inl fb))] := hD
              have hT_72 : pWord fb w0 i 13 := hT_72
              refine W.eq (g2 := F0 m 75 ls [.int (nI 1), .int (nI k1), .ref hh]) rfl ?_
              refine q_ior (v := nI 1) hx hb dX2_noteWords_75 (or1 (by omega)) ?_
              refine va_put (D := gD g) (ci := 1) (v := .int (nI 1)) (ty := .boolean) (C := RX2) (T := TX2) (N := 14) hx hb hts hinX2 tyX2 tyX2_ok nmX2 hown hK hP hD hS 0 rfl rfl 13 (by decide) hf52 (fun _ h9 => h9) rfl (by decide +kernel) rfl rfl (Nat.le_of_ble_eq_true rfl) dX2_noteWords_76 (fun H locs hP hD hS => ?_)
              have hP : va_P (gD g) vwCl [(hh, .inr (1, [.int (nI fa), .int (nI me), .int (nI nw), .int (nI tS), .int (nI tE), .int (nI ho), .int (nI en), .int (nI le), .int bo, .int (nI ma), .int (nI mS), .int (nI mE), .int (nI 1), .int (nI 1)])), (kb, .inr (3, [.int (nI 4096), .ref qb, .int (nI sb)])), (qb, .inl (gB g, nb, .inl fb))] H := hP
              have hD : va_D A [(hh, .inr (1, [.int (nI fa), .int (nI me), .int (nI nw), .int (nI tS), .int (nI tE), .int (nI ho), .int (nI en), .int (nI le), .int bo, .int (nI ma), .int (nI mS), .int (nI mE), .int (nI 1), .int (nI 1)])), (kb, .inr (3, [.int (nI 4096), .ref qb, .int (nI sb)])), (qb, .inl (gB g, nb, .inl fb))] := hD
              refine lv_iload hx hb dX2_noteWords_79 (lv_at hl 5 rfl) ?_
              refine lv_iconst (v := nI 1) hx hb dX2_noteWords_81 (by decide) ?_
              refine q_iadd (v := nI (i + 1)) hx hb dX2_noteWords_82 (nI_add i 1) ?_
              refine lv_istore (lv' := [(4, .int (nI (i + 1))), (0, .ref hh), (1, .ref kb), (2, .int (nI a0)), (3, .int (nI e0)), (5, .int (nI i))]) hx hb dX2_noteWords_83 hl (by decide) rfl (fun ls hl => ?_)
              refine lv_iinc (v := nI (i + 1)) (lv' := [(5, .int (nI (i + 1))), (4, .int (nI (i + 1))), (0, .ref hh), (1, .ref kb), (2, .int (nI a0)), (3, .int (nI e0))]) hx hb dX2_noteWords_85 hl (k := 5) rfl (nI_inc i 1) (by decide) rfl (fun ls hl => ?_)
              refine lv_goto (tgt := 6) hx hb dX2_noteWords_88 (by decide) ?_
              exact ih_K6 (i + 1) (i + 1) 1 1 (by omega) (by omega) (by omega) (by omega) (by (obtain ⟨m, h1, h2⟩ := hE; obtain ⟨m, rfl⟩ : ∃ k, m = k + 1 := ⟨m - 1, by omega⟩; first | exact ⟨m, by omega, h2.trans (wdL_2 (by omega) (fun z => z.elim c15 (fun z => z.elim c26 hF_35)))⟩ | exact ⟨m, by omega, h2.trans (wdL_1 (by omega) (by first | exact Or.inl c15 | exact Or.inr (Or.inl c26) | exact Or.inr (Or.inr hT_35)) (by first | exact iteC_p hT_53 | exact iteC_n hF_53) (by first | exact iteC_p hT_72 | exact iteC_n hF_72))⟩)) (by omega) _ _ _ (hP.sub [0, 1, 2] rfl) (hD.sub [0, 1, 2] (by decide) rfl) hS (lv_sub hl [2, 3, 4, 5, 1, 0] rfl)
            · skip
              have hP : va_P (gD g) vwCl [(hh, .inr (1, [.int (nI fa), .int (nI me), .int (nI nw), .int (nI tS), .int (nI tE), .int (nI ho), .int (nI en), .int (nI le), .int bo, .int (nI ma), .int (nI mS), .int (nI mE), .int (nI 1), .int (nI k1)])), (kb, .inr (3, [.int (nI 4096), .ref qb, .int (nI sb)])), (qb, .inl (gB g, nb, .inl fb))] H := hP
              have hD : va_D A [(hh, .inr (1, [.int (nI fa), .int (nI me), .int (nI nw), .int (nI tS), .int (nI tE), .int (nI ho), .int (nI en), .int (nI le), .int bo, .int (nI ma), .int (nI mS), .int (nI mE), .int (nI 1), .int (nI k1)])), (kb, .inr (3, [.int (nI 4096), .ref qb, .int (nI sb)])), (qb, .inl (gB g, nb, .inl fb))] := hD
              have hF_72 : ¬ (pWord fb w0 i 13) := hF_72
              refine W.eq (g2 := F0 m 75 ls [.int (nI 0), .int (nI k1), .ref hh]) rfl ?_
              refine q_ior (v := nI k1) hx hb dX2_noteWords_75 (or0 (by omega)) ?_
              refine va_put (D := gD g) (ci := 1) (v := .int (nI k1)) (ty := .boolean) (C := RX2) (T := TX2) (N := 14) hx hb hts hinX2 tyX2 tyX2_ok nmX2 hown hK hP hD hS 0 rfl rfl 13 (by decide) hf52 (fun _ h9 => h9) rfl (by decide +kernel) (narB (by omega)) (fitB (by omega)) (Nat.le_of_ble_eq_true rfl) dX2_noteWords_76 (fun H locs hP hD hS => ?_)
              have hP : va_P (gD g) vwCl [(hh, .inr (1, [.int (nI fa), .int (nI me), .int (nI nw), .int (nI tS), .int (nI tE), .int (nI ho), .int (nI en), .int (nI le), .int bo, .int (nI ma), .int (nI mS), .int (nI mE), .int (nI 1), .int (nI k1)])), (kb, .inr (3, [.int (nI 4096), .ref qb, .int (nI sb)])), (qb, .inl (gB g, nb, .inl fb))] H := hP
              have hD : va_D A [(hh, .inr (1, [.int (nI fa), .int (nI me), .int (nI nw), .int (nI tS), .int (nI tE), .int (nI ho), .int (nI en), .int (nI le), .int bo, .int (nI ma), .int (nI mS), .int (nI mE), .int (nI 1), .int (nI k1)])), (kb, .inr (3, [.int (nI 4096), .ref qb, .int (nI sb)])), (qb, .inl (gB g, nb, .inl fb))] := hD
              refine lv_iload hx hb dX2_noteWords_79 (lv_at hl 5 rfl) ?_
              refine lv_iconst (v := nI 1) hx hb dX2_noteWords_81 (by decide) ?_
              refine q_iadd (v := nI (i + 1)) hx hb dX2_noteWords_82 (nI_add i 1) ?_
              refine lv_istore (lv' := [(4, .int (nI (i + 1))), (0, .ref hh), (1, .ref kb), (2, .int (nI a0)), (3, .int (nI e0)), (5, .int (nI i))]) hx hb dX2_noteWords_83 hl (by decide) rfl (fun ls hl => ?_)
              refine lv_iinc (v := nI (i + 1)) (lv' := [(5, .int (nI (i + 1))), (4, .int (nI (i + 1))), (0, .ref hh), (1, .ref kb), (2, .int (nI a0)), (3, .int (nI e0))]) hx hb dX2_noteWords_85 hl (k := 5) rfl (nI_inc i 1) (by decide) rfl (fun ls hl => ?_)
              refine lv_goto (tgt := 6) hx hb dX2_noteWords_88 (by decide) ?_
              exact ih_K6 (i + 1) (i + 1) 1 k1 (by omega) (by omega) (by omega) (by omega) (by (obtain ⟨m, h1, h2⟩ := hE; obtain ⟨m, rfl⟩ : ∃ k, m = k + 1 := ⟨m - 1, by omega⟩; first | exact ⟨m, by omega, h2.trans (wdL_2 (by omega) (fun z => z.elim c15 (fun z => z.elim c26 hF_35)))⟩ | exact ⟨m, by omega, h2.trans (wdL_1 (by omega) (by first | exact Or.inl c15 | exact Or.inr (Or.inl c26) | exact Or.inr (Or.inr hT_35)) (by first | exact iteC_p hT_53 | exact iteC_n hF_53) (by first | exact iteC_p hT_72 | exact iteC_n hF_72))⟩)) (by omega) _ _ _ (hP.sub [0, 1, 2] rfl) (hD.sub [0, 1, 2] (by decide) rfl) hS (lv_sub hl [2, 3, 4, 5, 1, 0] rfl)
          · skip
            have hP : va_P (gD g) vwCl [(hh, .inr (1, [.int (nI fa), .int (nI me), .int (nI nw), .int (nI tS), .int (nI tE), .int (nI ho), .int (nI en), .int (nI le), .int bo, .int (nI ma), .int (nI mS), .int (nI mE), .int (nI c1), .int (nI k1)])), (kb, .inr (3, [.int (nI 4096), .ref qb, .int (nI sb)])), (qb, .inl (gB g, nb, .inl fb))] H := hP
            have hD : va_D A [(hh, .inr (1, [.int (nI fa), .int (nI me), .int (nI nw), .int (nI tS), .int (nI tE), .int (nI ho), .int (nI en), .int (nI le), .int bo, .int (nI ma), .int (nI mS), .int (nI mE), .int (nI c1), .int (nI k1)])), (kb, .inr (3, [.int (nI 4096), .ref qb, .int (nI sb)])), (qb, .inl (gB g, nb, .inl fb))] := hD
            have hF_53 : ¬ (pWord fb w0 i 12) := hF_53
            refine W.eq (g2 := F0 m 56 ls [.int (nI 0), .int (nI c1), .ref hh]) rfl ?_
            refine q_ior (v := nI c1) hx hb dX2_noteWords_56 (or0 (by omega)) ?_
            refine va_put (D := gD g) (ci := 1) (v := .int (nI c1)) (ty := .boolean) (C := RX2) (T := TX2) (N := 14) hx hb hts hinX2 tyX2 tyX2_ok nmX2 hown hK hP hD hS 0 rfl rfl 12 (by decide) hf49 (fun _ h9 => h9) rfl (by decide +kernel) (narB (by omega)) (fitB (by omega)) (Nat.le_of_ble_eq_true rfl) dX2_noteWords_57 (fun H locs hP hD hS => ?_)
            have hP : va_P (gD g) vwCl [(hh, .inr (1, [.int (nI fa), .int (nI me), .int (nI nw), .int (nI tS), .int (nI tE), .int (nI ho), .int (nI en), .int (nI le), .int bo, .int (nI ma), .int (nI mS), .int (nI mE), .int (nI c1), .int (nI k1)])), (kb, .inr (3, [.int (nI 4096), .ref qb, .int (nI sb)])), (qb, .inl (gB g, nb, .inl fb))] H := hP
            have hD : va_D A [(hh, .inr (1, [.int (nI fa), .int (nI me), .int (nI nw), .int (nI tS), .int (nI tE), .int (nI ho), .int (nI en), .int (nI le), .int bo, .int (nI ma), .int (nI mS), .int (nI mE), .int (nI c1), .int (nI k1)])), (kb, .inr (3, [.int (nI 4096), .ref qb, .int (nI sb)])), (qb, .inl (gB g, nb, .inl fb))] := hD
            refine lv_aload_n hx hb dX2_noteWords_60 rfl (lv_at hl 0 rfl) ?_
            refine lv_dup hx hb dX2_noteWords_61 rfl ?_
            refine va_get (D := gD g) (ci := 1) (v := .int (nI k1)) (C := RX2) (T := TX2) (N := 14) hx hb hts hinX2 hown hK hP 0 rfl rfl 13 (by decide) hf52 (fun _ h9 => h9) rfl dX2_noteWords_62 ?_
            refine lv_aload_n hx hb dX2_noteWords_65 rfl (lv_at hl 1 rfl) ?_
            refine lv_iload hx hb dX2_noteWords_66 (lv_at hl 4 rfl) ?_
            refine lv_iload hx hb dX2_noteWords_68 (lv_at hl 5 rfl) ?_
            refine va_ldcS hx hb hown ((hG.1 13 (by decide)).2.2.2.2) dX2_noteWords_70 ?_
            refine ct_callV (wr := [(hh, .inr (1, [.int (nI fa), .int (nI me), .int (nI nw), .int (nI tS), .int (nI tE), .int (nI ho), .int (nI en), .int (nI le), .int bo, .int (nI ma), .int (nI mS), .int (nI mE), .int (nI c1), .int (nI k1)]))]) hx hb hml hown hts hK hP hD hS hA hG hl.1 (c_hasWord l g kb qb 4096 nb sb fb w0 i 13 (by omega) (by omega) (by omega) (by omega) (by omega) (by first | assumption | decide)) (cwV 3 hts gX2_noteWords_X4_hasWord rfl rfl rfl (by decide +kernel) ⟨Nat.le_of_ble_eq_true rfl, Nat.le_of_ble_eq_true rfl⟩) (va_recv hK hP (ci := 3) (q0 := 1) rfl rfl) rfl rfl (Nat.le_of_ble_eq_true rfl) dX2_noteWords_72 ⟨show 0 + 0 ≤ 0 by omega, show 0 + 0 ≤ 0 by omega⟩ [1, 2] [0] rfl rfl (by decide) (by decide) (by decide) (fun r_ w_ H locs hp_ hP hD hS => ?_)
            rcases hp_ with ⟨rfl, rfl, hT_72⟩ | ⟨rfl, rfl, hF_72⟩
            · skip
              have hP : va_P (gD g) vwCl [(hh, .inr (1, [.int (nI fa), .int (nI me), .int (nI nw), .int (nI tS), .int (nI tE), .int (nI ho), .int (nI en), .int (nI le), .int bo, .int (nI ma), .int (nI mS), .int (nI mE), .int (nI c1), .int (nI k1)])), (kb, .inr (3, [.int (nI 4096), .ref qb, .int (nI sb)])), (qb, .inl (gB g, nb, .inl fb))] H := hP
              have hD : va_D A [(hh, .inr (1, [.int (nI fa), .int (nI me), .int (nI nw), .int (nI tS), .int (nI tE), .int (nI ho), .int (nI en), .int (nI le), .int bo, .int (nI ma), .int (nI mS), .int (nI mE), .int (nI c1), .int (nI k1)])), (kb, .inr (3, [.int (nI 4096), .ref qb, .int (nI sb)])), (qb, .inl (gB g, nb, .inl fb))] := hD
              have hT_72 : pWord fb w0 i 13 := hT_72
              refine W.eq (g2 := F0 m 75 ls [.int (nI 1), .int (nI k1), .ref hh]) rfl ?_
              refine q_ior (v := nI 1) hx hb dX2_noteWords_75 (or1 (by omega)) ?_
              refine va_put (D := gD g) (ci := 1) (v := .int (nI 1)) (ty := .boolean) (C := RX2) (T := TX2) (N := 14) hx hb hts hinX2 tyX2 tyX2_ok nmX2 hown hK hP hD hS 0 rfl rfl 13 (by decide) hf52 (fun _ h9 => h9) rfl (by decide +kernel) rfl rfl (Nat.le_of_ble_eq_true rfl) dX2_noteWords_76 (fun H locs hP hD hS => ?_)
              have hP : va_P (gD g) vwCl [(hh, .inr (1, [.int (nI fa), .int (nI me), .int (nI nw), .int (nI tS), .int (nI tE), .int (nI ho), .int (nI en), .int (nI le), .int bo, .int (nI ma), .int (nI mS), .int (nI mE), .int (nI c1), .int (nI 1)])), (kb, .inr (3, [.int (nI 4096), .ref qb, .int (nI sb)])), (qb, .inl (gB g, nb, .inl fb))] H := hP
              have hD : va_D A [(hh, .inr (1, [.int (nI fa), .int (nI me), .int (nI nw), .int (nI tS), .int (nI tE), .int (nI ho), .int (nI en), .int (nI le), .int bo, .int (nI ma), .int (nI mS), .int (nI mE), .int (nI c1), .int (nI 1)])), (kb, .inr (3, [.int (nI 4096), .ref qb, .int (nI sb)])), (qb, .inl (gB g, nb, .inl fb))] := hD
              refine lv_iload hx hb dX2_noteWords_79 (lv_at hl 5 rfl) ?_
              refine lv_iconst (v := nI 1) hx hb dX2_noteWords_81 (by decide) ?_
              refine q_iadd (v := nI (i + 1)) hx hb dX2_noteWords_82 (nI_add i 1) ?_
              refine lv_istore (lv' := [(4, .int (nI (i + 1))), (0, .ref hh), (1, .ref kb), (2, .int (nI a0)), (3, .int (nI e0)), (5, .int (nI i))]) hx hb dX2_noteWords_83 hl (by decide) rfl (fun ls hl => ?_)
              refine lv_iinc (v := nI (i + 1)) (lv' := [(5, .int (nI (i + 1))), (4, .int (nI (i + 1))), (0, .ref hh), (1, .ref kb), (2, .int (nI a0)), (3, .int (nI e0))]) hx hb dX2_noteWords_85 hl (k := 5) rfl (nI_inc i 1) (by decide) rfl (fun ls hl => ?_)
              refine lv_goto (tgt := 6) hx hb dX2_noteWords_88 (by decide) ?_
              exact ih_K6 (i + 1) (i + 1) c1 1 (by omega) (by omega) (by omega) (by omega) (by (obtain ⟨m, h1, h2⟩ := hE; obtain ⟨m, rfl⟩ : ∃ k, m = k + 1 := ⟨m - 1, by omega⟩; first | exact ⟨m, by omega, h2.trans (wdL_2 (by omega) (fun z => z.elim c15 (fun z => z.elim c26 hF_35)))⟩ | exact ⟨m, by omega, h2.trans (wdL_1 (by omega) (by first | exact Or.inl c15 | exact Or.inr (Or.inl c26) | exact Or.inr (Or.inr hT_35)) (by first | exact iteC_p hT_53 | exact iteC_n hF_53) (by first | exact iteC_p hT_72 | exact iteC_n hF_72))⟩)) (by omega) _ _ _ (hP.sub [0, 1, 2] rfl) (hD.sub [0, 1, 2] (by decide) rfl) hS (lv_sub hl [2, 3, 4, 5, 1, 0] rfl)
            · skip
              have hP : va_P (gD g) vwCl [(hh, .inr (1, [.int (nI fa), .int (nI me), .int (nI nw), .int (nI tS), .int (nI tE), .int (nI ho), .int (nI en), .int (nI le), .int bo, .int (nI ma), .int (nI mS), .int (nI mE), .int (nI c1), .int (nI k1)])), (kb, .inr (3, [.int (nI 4096), .ref qb, .int (nI sb)])), (qb, .inl (gB g, nb, .inl fb))] H := hP
              have hD : va_D A [(hh, .inr (1, [.int (nI fa), .int (nI me), .int (nI nw), .int (nI tS), .int (nI tE), .int (nI ho), .int (nI en), .int (nI le), .int bo, .int (nI ma), .int (nI mS), .int (nI mE), .int (nI c1), .int (nI k1)])), (kb, .inr (3, [.int (nI 4096), .ref qb, .int (nI sb)])), (qb, .inl (gB g, nb, .inl fb))] := hD
              have hF_72 : ¬ (pWord fb w0 i 13) := hF_72
              refine W.eq (g2 := F0 m 75 ls [.int (nI 0), .int (nI k1), .ref hh]) rfl ?_
              refine q_ior (v := nI k1) hx hb dX2_noteWords_75 (or0 (by omega)) ?_
              refine va_put (D := gD g) (ci := 1) (v := .int (nI k1)) (ty := .boolean) (C := RX2) (T := TX2) (N := 14) hx hb hts hinX2 tyX2 tyX2_ok nmX2 hown hK hP hD hS 0 rfl rfl 13 (by decide) hf52 (fun _ h9 => h9) rfl (by decide +kernel) (narB (by omega)) (fitB (by omega)) (Nat.le_of_ble_eq_true rfl) dX2_noteWords_76 (fun H locs hP hD hS => ?_)
              have hP : va_P (gD g) vwCl [(hh, .inr (1, [.int (nI fa), .int (nI me), .int (nI nw), .int (nI tS), .int (nI tE), .int (nI ho), .int (nI en), .int (nI le), .int bo, .int (nI ma), .int (nI mS), .int (nI mE), .int (nI c1), .int (nI k1)])), (kb, .inr (3, [.int (nI 4096), .ref qb, .int (nI sb)])), (qb, .inl (gB g, nb, .inl fb))] H := hP
              have hD : va_D A [(hh, .inr (1, [.int (nI fa), .int (nI me), .int (nI nw), .int (nI tS), .int (nI tE), .int (nI ho), .int (nI en), .int (nI le), .int bo, .int (nI ma), .int (nI mS), .int (nI mE), .int (nI c1), .int (nI k1)])), (kb, .inr (3, [.int (nI 4096), .ref qb, .int (nI sb)])), (qb, .inl (gB g, nb, .inl fb))] := hD
              refine lv_iload hx hb dX2_noteWords_79 (lv_at hl 5 rfl) ?_
              refine lv_iconst (v := nI 1) hx hb dX2_noteWords_81 (by decide) ?_
              refine q_iadd (v := nI (i + 1)) hx hb dX2_noteWords_82 (nI_add i 1) ?_
              refine lv_istore (lv' := [(4, .int (nI (i + 1))), (0, .ref hh), (1, .ref kb), (2, .int (nI a0)), (3, .int (nI e0)), (5, .int (nI i))]) hx hb dX2_noteWords_83 hl (by decide) rfl (fun ls hl => ?_)
              refine lv_iinc (v := nI (i + 1)) (lv' := [(5, .int (nI (i + 1))), (4, .int (nI (i + 1))), (0, .ref hh), (1, .ref kb), (2, .int (nI a0)), (3, .int (nI e0))]) hx hb dX2_noteWords_85 hl (k := 5) rfl (nI_inc i 1) (by decide) rfl (fun ls hl => ?_)
              refine lv_goto (tgt := 6) hx hb dX2_noteWords_88 (by decide) ?_
              exact ih_K6 (i + 1) (i + 1) c1 k1 (by omega) (by omega) (by omega) (by omega) (by (obtain ⟨m, h1, h2⟩ := hE; obtain ⟨m, rfl⟩ : ∃ k, m = k + 1 := ⟨m - 1, by omega⟩; first | exact ⟨m, by omega, h2.trans (wdL_2 (by omega) (fun z => z.elim c15 (fun z => z.elim c26 hF_35)))⟩ | exact ⟨m, by omega, h2.trans (wdL_1 (by omega) (by first | exact Or.inl c15 | exact Or.inr (Or.inl c26) | exact Or.inr (Or.inr hT_35)) (by first | exact iteC_p hT_53 | exact iteC_n hF_53) (by first | exact iteC_p hT_72 | exact iteC_n hF_72))⟩)) (by omega) _ _ _ (hP.sub [0, 1, 2] rfl) (hD.sub [0, 1, 2] (by decide) rfl) hS (lv_sub hl [2, 3, 4, 5, 1, 0] rfl)
        · skip
          have c15 : ¬ (i = e0) := fun z => c15 ((nI_eq (a := i) (b := e0) (by omega) (by omega)).mpr z)
          refine lv_aload_n hx hb dX2_noteWords_18 rfl (lv_at hl 1 rfl) ?_
          refine lv_iload hx hb dX2_noteWords_19 (lv_at hl 5 rfl) ?_
          refine ct_callV (wr := [(hh, .inr (1, [.int (nI fa), .int (nI me), .int (nI nw), .int (nI tS), .int (nI tE), .int (nI ho), .int (nI en), .int (nI le), .int bo, .int (nI ma), .int (nI mS), .int (nI mE), .int (nI c1), .int (nI k1)]))]) hx hb hml hown hts hK hP hD hS hA hG hl.1 (c_getIn l g kb qb 4096 nb sb fb i (by omega) (by omega) (by omega)) (cwV 1 hts gX2_noteWords_X4_get rfl rfl rfl (by decide +kernel) ⟨Nat.le_of_ble_eq_true rfl, Nat.le_of_ble_eq_true rfl⟩) (va_recv hK hP (ci := 3) (q0 := 1) rfl rfl) rfl rfl (Nat.le_of_ble_eq_true rfl) dX2_noteWords_21 ⟨show 0 + 0 ≤ 0 by omega, show 0 + 0 ≤ 0 by omega⟩ [1, 2] [0] rfl rfl (by decide) (by decide) (by decide) (fun r_ w_ H locs hp_ hP hD hS => ?_)
          obtain ⟨rfl, rfl⟩ := hp_
          have hP : va_P (gD g) vwCl [(hh, .inr (1, [.int (nI fa), .int (nI me), .int (nI nw), .int (nI tS), .int (nI tE), .int (nI ho), .int (nI en), .int (nI le), .int bo, .int (nI ma), .int (nI mS), .int (nI mE), .int (nI c1), .int (nI k1)])), (kb, .inr (3, [.int (nI 4096), .ref qb, .int (nI sb)])), (qb, .inl (gB g, nb, .inl fb))] H := hP
          have hD : va_D A [(hh, .inr (1, [.int (nI fa), .int (nI me), .int (nI nw), .int (nI tS), .int (nI tE), .int (nI ho), .int (nI en), .int (nI le), .int bo, .int (nI ma), .int (nI mS), .int (nI mE), .int (nI c1), .int (nI k1)])), (kb, .inr (3, [.int (nI 4096), .ref qb, .int (nI sb)])), (qb, .inl (gB g, nb, .inl fb))] := hD
          refine W.eq (g2 := F0 m 24 ls [.int (fb i &&& 255)]) rfl ?_
          refine lv_bipush (v := nI 44) hx hb dX2_noteWords_24 (by decide) ?_
          refine lv_icmp_eq (tgt := 41) hx hb dX2_noteWords_26 (by decide) (fun c26 => ?_) (fun c26 => ?_)
          · skip
            refine lv_aload_n hx hb dX2_noteWords_41 rfl (lv_at hl 0 rfl) ?_
            refine lv_dup hx hb dX2_noteWords_42 rfl ?_
            refine va_get (D := gD g) (ci := 1) (v := .int (nI c1)) (C := RX2) (T := TX2) (N := 14) hx hb hts hinX2 hown hK hP 0 rfl rfl 12 (by decide) hf49 (fun _ h9 => h9) rfl dX2_noteWords_43 ?_
            refine lv_aload_n hx hb dX2_noteWords_46 rfl (lv_at hl 1 rfl) ?_
            refine lv_iload hx hb dX2_noteWords_47 (lv_at hl 4 rfl) ?_
            refine lv_iload hx hb dX2_noteWords_49 (lv_at hl 5 rfl) ?_
            refine va_ldcS hx hb hown ((hG.1 12 (by decide)).2.2.2.2) dX2_noteWords_51 ?_
            refine ct_callV (wr := [(hh, .inr (1, [.int (nI fa), .int (nI me), .int (nI nw), .int (nI tS), .int (nI tE), .int (nI ho), .int (nI en), .int (nI le), .int bo, .int (nI ma), .int (nI mS), .int (nI mE), .int (nI c1), .int (nI k1)]))]) hx hb hml hown hts hK hP hD hS hA hG hl.1 (c_hasWord l g kb qb 4096 nb sb fb w0 i 12 (by omega) (by omega) (by omega) (by omega) (by omega) (by first | assumption | decide)) (cwV 3 hts gX2_noteWords_X4_hasWord rfl rfl rfl (by decide +kernel) ⟨Nat.le_of_ble_eq_true rfl, Nat.le_of_ble_eq_true rfl⟩) (va_recv hK hP (ci := 3) (q0 := 1) rfl rfl) rfl rfl (Nat.le_of_ble_eq_true rfl) dX2_noteWords_53 ⟨show 0 + 0 ≤ 0 by omega, show 0 + 0 ≤ 0 by omega⟩ [1, 2] [0] rfl rfl (by decide) (by decide) (by decide) (fun r_ w_ H locs hp_ hP hD hS => ?_)
            rcases hp_ with ⟨rfl, rfl, hT_53⟩ | ⟨rfl, rfl, hF_53⟩
            · skip
              have hP : va_P (gD g) vwCl [(hh, .inr (1, [.int (nI fa), .int (nI me), .int (nI nw), .int (nI tS), .int (nI tE), .int (nI ho), .int (nI en), .int (nI le), .int bo, .int (nI ma), .int (nI mS), .int (nI mE), .int (nI c1), .int (nI k1)])), (kb, .inr (3, [.int (nI 4096), .ref qb, .int (nI sb)])), (qb, .inl (gB g, nb, .inl fb))] H := hP
              have hD : va_D A [(hh, .inr (1, [.int (nI fa), .int (nI me), .int (nI nw), .int (nI tS), .int (nI tE), .int (nI ho), .int (nI en), .int (nI le), .int bo, .int (nI ma), .int (nI mS), .int (nI mE), .int (nI c1), .int (nI k1)])), (kb, .inr (3, [.int (nI 4096), .ref qb, .int (nI sb)])), (qb, .inl (gB g, nb, .inl fb))] := hD
              have hT_53 : pWord fb w0 i 12 := hT_53
              refine W.eq (g2 := F0 m 56 ls [.int (nI 1), .int (nI c1), .ref hh]) rfl ?_
              refine q_ior (v := nI 1) hx hb dX2_noteWords_56 (or1 (by omega)) ?_
              refine va_put (D := gD g) (ci := 1) (v := .int (nI 1)) (ty := .boolean) (C := RX2) (T := TX2) (N := 14) hx hb hts hinX2 tyX2 tyX2_ok nmX2 hown hK hP hD hS 0 rfl rfl 12 (by decide) hf49 (fun _ h9 => h9) rfl (by decide +kernel) rfl rfl (Nat.le_of_ble_eq_true rfl) dX2_noteWords_57 (fun H locs hP hD hS => ?_)
              have hP : va_P (gD g) vwCl [(hh, .inr (1, [.int (nI fa), .int (nI me), .int (nI nw), .int (nI tS), .int (nI tE), .int (nI ho), .int (nI en), .int (nI le), .int bo, .int (nI ma), .int (nI mS), .int (nI mE), .int (nI 1), .int (nI k1)])), (kb, .inr (3, [.int (nI 4096), .ref qb, .int (nI sb)])), (qb, .inl (gB g, nb, .inl fb))] H := hP
              have hD : va_D A [(hh, .inr (1, [.int (nI fa), .int (nI me), .int (nI nw), .int (nI tS), .int (nI tE), .int (nI ho), .int (nI en), .int (nI le), .int bo, .int (nI ma), .int (nI mS), .int (nI mE), .int (nI 1), .int (nI k1)])), (kb, .inr (3, [.int (nI 4096), .ref qb, .int (nI sb)])), (qb, .inl (gB g, nb, .inl fb))] := hD
              refine lv_aload_n hx hb dX2_noteWords_60 rfl (lv_at hl 0 rfl) ?_
              refine lv_dup hx hb dX2_noteWords_61 rfl ?_
              refine va_get (D := gD g) (ci := 1) (v := .int (nI k1)) (C := RX2) (T := TX2) (N := 14) hx hb hts hinX2 hown hK hP 0 rfl rfl 13 (by decide) hf52 (fun _ h9 => h9) rfl dX2_noteWords_62 ?_
              refine lv_aload_n hx hb dX2_noteWords_65 rfl (lv_at hl 1 rfl) ?_
              refine lv_iload hx hb dX2_noteWords_66 (lv_at hl 4 rfl) ?_
              refine lv_iload hx hb dX2_noteWords_68 (lv_at hl 5 rfl) ?_
              refine va_ldcS hx hb hown ((hG.1 13 (by decide)).2.2.2.2) dX2_noteWords_70 ?_
              refine ct_callV (wr := [(hh, .inr (1, [.int (nI fa), .int (nI me), .int (nI nw), .int (nI tS), .int (nI tE), .int (nI ho), .int (nI en), .int (nI le), .int bo, .int (nI ma), .int (nI mS), .int (nI mE), .int (nI 1), .int (nI k1)]))]) hx hb hml hown hts hK hP hD hS hA hG hl.1 (c_hasWord l g kb qb 4096 nb sb fb w0 i 13 (by omega) (by omega) (by omega) (by omega) (by omega) (by first | assumption | decide)) (cwV 3 hts gX2_noteWords_X4_hasWord rfl rfl rfl (by decide +kernel) ⟨Nat.le_of_ble_eq_true rfl, Nat.le_of_ble_eq_true rfl⟩) (va_recv hK hP (ci := 3) (q0 := 1) rfl rfl) rfl rfl (Nat.le_of_ble_eq_true rfl) dX2_noteWords_72 ⟨show 0 + 0 ≤ 0 by omega, show 0 + 0 ≤ 0 by omega⟩ [1, 2] [0] rfl rfl (by decide) (by decide) (by decide) (fun r_ w_ H locs hp_ hP hD hS => ?_)
              rcases hp_ with ⟨rfl, rfl, hT_72⟩ | ⟨rfl, rfl, hF_72⟩
              · skip
                have hP : va_P (gD g) vwCl [(hh, .inr (1, [.int (nI fa), .int (nI me), .int (nI nw), .int (nI tS), .int (nI tE), .int (nI ho), .int (nI en), .int (nI le), .int bo, .int (nI ma), .int (nI mS), .int (nI mE), .int (nI 1), .int (nI k1)])), (kb, .inr (3, [.int (nI 4096), .ref qb, .int (nI sb)])), (qb, .inl (gB g, nb, .inl fb))] H := hP
                have hD : va_D A [(hh, .inr (1, [.int (nI fa), .int (nI me), .int (nI nw), .int (nI tS), .int (nI tE), .int (nI ho), .int (nI en), .int (nI le), .int bo, .int (nI ma), .int (nI mS), .int (nI mE), .int (nI 1), .int (nI k1)])), (kb, .inr (3, [.int (nI 4096), .ref qb, .int (nI sb)])), (qb, .inl (gB g, nb, .inl fb))] := hD
                have hT_72 : pWord fb w0 i 13 := hT_72
                refine W.eq (g2 := F0 m 75 ls [.int (nI 1), .int (nI k1), .ref hh]) rfl ?_
                refine q_ior (v := nI 1) hx hb dX2_noteWords_75 (or1 (by omega)) ?_
                refine va_put (D := gD g) (ci := 1) (v := .int (nI 1)) (ty := .boolean) (C := RX2) (T := TX2) (N := 14) hx hb hts hinX2 tyX2 tyX2_ok nmX2 hown hK hP hD hS 0 rfl rfl 13 (by decide) hf52 (fun _ h9 => h9) rfl (by decide +kernel) rfl rfl (Nat.le_of_ble_eq_true rfl) dX2_noteWords_76 (fun H locs hP hD hS => ?_)
                have hP : va_P (gD g) vwCl [(hh, .inr (1, [.int (nI fa), .int (nI me), .int (nI nw), .int (nI tS), .int (nI tE), .int (nI ho), .int (nI en), .int (nI le), .int bo, .int (nI ma), .int (nI mS), .int (nI mE), .int (nI 1), .int (nI 1)])), (kb, .inr (3, [.int (nI 4096), .ref qb, .int (nI sb)])), (qb, .inl (gB g, nb, .inl fb))] H := hP
                have hD : va_D A [(hh, .inr (1, [.int (nI fa), .int (nI me), .int (nI nw), .int (nI tS), .int (nI tE), .int (nI ho), .int (nI en), .int (nI le), .int bo, .int (nI ma), .int (nI mS), .int (nI mE), .int (nI 1), .int (nI 1)])), (kb, .inr (3, [.int (nI 4096), .ref qb, .int (nI sb)])), (qb, .inl (gB g, nb, .inl fb))] := hD
                refine lv_iload hx hb dX2_noteWords_79 (lv_at hl 5 rfl) ?_
                refine lv_iconst (v := nI 1) hx hb dX2_noteWords_81 (by decide) ?_
                refine q_iadd (v := nI (i + 1)) hx hb dX2_noteWords_82 (nI_add i 1) ?_
                refine lv_istore (lv' := [(4, .int (nI (i + 1))), (0, .ref hh), (1, .ref kb), (2, .int (nI a0)), (3, .int (nI e0)), (5, .int (nI i))]) hx hb dX2_noteWords_83 hl (by decide) rfl (fun ls hl => ?_)
                refine lv_iinc (v := nI (i + 1)) (lv' := [(5, .int (nI (i + 1))), (4, .int (nI (i + 1))), (0, .ref hh), (1, .ref kb), (2, .int (nI a0)), (3, .int (nI e0))]) hx hb dX2_noteWords_85 hl (k := 5) rfl (nI_inc i 1) (by decide) rfl (fun ls hl => ?_)
                refine lv_goto (tgt := 6) hx hb dX2_noteWords_88 (by decide) ?_
                exact ih_K6 (i + 1) (i + 1) 1 1 (by omega) (by omega) (by omega) (by omega) (by (obtain ⟨m, h1, h2⟩ := hE; obtain ⟨m, rfl⟩ : ∃ k, m = k + 1 := ⟨m - 1, by omega⟩; first | exact ⟨m, by omega, h2.trans (wdL_2 (by omega) (fun z => z.elim c15 (fun z => z.elim c26 hF_35)))⟩ | exact ⟨m, by omega, h2.trans (wdL_1 (by omega) (by first | exact Or.inl c15 | exact Or.inr (Or.inl c26) | exact Or.inr (Or.inr hT_35)) (by first | exact iteC_p hT_53 | exact iteC_n hF_53) (by first | exact iteC_p hT_72 | exact iteC_n hF_72))⟩)) (by omega) _ _ _ (hP.sub [0, 1, 2] rfl) (hD.sub [0, 1, 2] (by decide) rfl) hS (lv_sub hl [2, 3, 4, 5, 1, 0] rfl)
              · skip
                have hP : va_P (gD g) vwCl [(hh, .inr (1, [.int (nI fa), .int (nI me), .int (nI nw), .int (nI tS), .int (nI tE), .int (nI ho), .int (nI en), .int (nI le), .int bo, .int (nI ma), .int (nI mS), .int (nI mE), .int (nI 1), .int (nI k1)])), (kb, .inr (3, [.int (nI 4096), .ref qb, .int (nI sb)])), (qb, .inl (gB g, nb, .inl fb))] H := hP
                have hD : va_D A [(hh, .inr (1, [.int (nI fa), .int (nI me), .int (nI nw), .int (nI tS), .int (nI tE), .int (nI ho), .int (nI en), .int (nI le), .int bo, .int (nI ma), .int (nI mS), .int (nI mE), .int (nI 1), .int (nI k1)])), (kb, .inr (3, [.int (nI 4096), .ref qb, .int (nI sb)])), (qb, .inl (gB g, nb, .inl fb))] := hD
                have hF_72 : ¬ (pWord fb w0 i 13) := hF_72
                refine W.eq (g2 := F0 m 75 ls [.int (nI 0), .int (nI k1), .ref hh]) rfl ?_
                refine q_ior (v := nI k1) hx hb dX2_noteWords_75 (or0 (by omega)) ?_
                refine va_put (D := gD g) (ci := 1) (v := .int (nI k1)) (ty := .boolean) (C := RX2) (T := TX2) (N := 14) hx hb hts hinX2 tyX2 tyX2_ok nmX2 hown hK hP hD hS 0 rfl rfl 13 (by decide) hf52 (fun _ h9 => h9) rfl (by decide +kernel) (narB (by omega)) (fitB (by omega)) (Nat.le_of_ble_eq_true rfl) dX2_noteWords_76 (fun H locs hP hD hS => ?_)
                have hP : va_P (gD g) vwCl [(hh, .inr (1, [.int (nI fa), .int (nI me), .int (nI nw), .int (nI tS), .int (nI tE), .int (nI ho), .int (nI en), .int (nI le), .int bo, .int (nI ma), .int (nI mS), .int (nI mE), .int (nI 1), .int (nI k1)])), (kb, .inr (3, [.int (nI 4096), .ref qb, .int (nI sb)])), (qb, .inl (gB g, nb, .inl fb))] H := hP
                have hD : va_D A [(hh, .inr (1, [.int (nI fa), .int (nI me), .int (nI nw), .int (nI tS), .int (nI tE), .int (nI ho), .int (nI en), .int (nI le), .int bo, .int (nI ma), .int (nI mS), .int (nI mE), .int (nI 1), .int (nI k1)])), (kb, .inr (3, [.int (nI 4096), .ref qb, .int (nI sb)])), (qb, .inl (gB g, nb, .inl fb))] := hD
                refine lv_iload hx hb dX2_noteWords_79 (lv_at hl 5 rfl) ?_
                refine lv_iconst (v := nI 1) hx hb dX2_noteWords_81 (by decide) ?_
                refine q_iadd (v := nI (i + 1)) hx hb dX2_noteWords_82 (nI_add i 1) ?_
                refine lv_istore (lv' := [(4, .int (nI (i + 1))), (0, .ref hh), (1, .ref kb), (2, .int (nI a0)), (3, .int (nI e0)), (5, .int (nI i))]) hx hb dX2_noteWords_83 hl (by decide) rfl (fun ls hl => ?_)
                refine lv_iinc (v := nI (i + 1)) (lv' := [(5, .int (nI (i + 1))), (4, .int (nI (i + 1))), (0, .ref hh), (1, .ref kb), (2, .int (nI a0)), (3, .int (nI e0))]) hx hb dX2_noteWords_85 hl (k := 5) rfl (nI_inc i 1) (by decide) rfl (fun ls hl => ?_)
                refine lv_goto (tgt := 6) hx hb dX2_noteWords_88 (by decide) ?_
                exact ih_K6 (i + 1) (i + 1) 1 k1 (by omega) (by omega) (by omega) (by omega) (by (obtain ⟨m, h1, h2⟩ := hE; obtain ⟨m, rfl⟩ : ∃ k, m = k + 1 := ⟨m - 1, by omega⟩; first | exact ⟨m, by omega, h2.trans (wdL_2 (by omega) (fun z => z.elim c15 (fun z => z.elim c26 hF_35)))⟩ | exact ⟨m, by omega, h2.trans (wdL_1 (by omega) (by first | exact Or.inl c15 | exact Or.inr (Or.inl c26) | exact Or.inr (Or.inr hT_35)) (by first | exact iteC_p hT_53 | exact iteC_n hF_53) (by first | exact iteC_p hT_72 | exact iteC_n hF_72))⟩)) (by omega) _ _ _ (hP.sub [0, 1, 2] rfl) (hD.sub [0, 1, 2] (by decide) rfl) hS (lv_sub hl [2, 3, 4, 5, 1, 0] rfl)
            · skip
              have hP : va_P (gD g) vwCl [(hh, .inr (1, [.int (nI fa), .int (nI me), .int (nI nw), .int (nI tS), .int (nI tE), .int (nI ho), .int (nI en), .int (nI le), .int bo, .int (nI ma), .int (nI mS), .int (nI mE), .int (nI c1), .int (nI k1)])), (kb, .inr (3, [.int (nI 4096), .ref qb, .int (nI sb)])), (qb, .inl (gB g, nb, .inl fb))] H := hP
              have hD : va_D A [(hh, .inr (1, [.int (nI fa), .int (nI me), .int (nI nw), .int (nI tS), .int (nI tE), .int (nI ho), .int (nI en), .int (nI le), .int bo, .int (nI ma), .int (nI mS), .int (nI mE), .int (nI c1), .int (nI k1)])), (kb, .inr (3, [.int (nI 4096), .ref qb, .int (nI sb)])), (qb, .inl (gB g, nb, .inl fb))] := hD
              have hF_53 : ¬ (pWord fb w0 i 12) := hF_53
              refine W.eq (g2 := F0 m 56 ls [.int (nI 0), .int (nI c1), .ref hh]) rfl ?_
              refine q_ior (v := nI c1) hx hb dX2_noteWords_56 (or0 (by omega)) ?_
              refine va_put (D := gD g) (ci := 1) (v := .int (nI c1)) (ty := .boolean) (C := RX2) (T := TX2) (N := 14) hx hb hts hinX2 tyX2 tyX2_ok nmX2 hown hK hP hD hS 0 rfl rfl 12 (by decide) hf49 (fun _ h9 => h9) rfl (by decide +kernel) (narB (by omega)) (fitB (by omega)) (Nat.le_of_ble_eq_true rfl) dX2_noteWords_57 (fun H locs hP hD hS => ?_)
              have hP : va_P (gD g) vwCl [(hh, .inr (1, [.int (nI fa), .int (nI me), .int (nI nw), .int (nI tS), .int (nI tE), .int (nI ho), .int (nI en), .int (nI le), .int bo, .int (nI ma), .int (nI mS), .int (nI mE), .int (nI c1), .int (nI k1)])), (kb, .inr (3, [.int (nI 4096), .ref qb, .int (nI sb)])), (qb, .inl (gB g, nb, .inl fb))] H := hP
              have hD : va_D A [(hh, .inr (1, [.int (nI fa), .int (nI me), .int (nI nw), .int (nI tS), .int (nI tE), .int (nI ho), .int (nI en), .int (nI le), .int bo, .int (nI ma), .int (nI mS), .int (nI mE), .int (nI c1), .int (nI k1)])), (kb, .inr (3, [.int (nI 4096), .ref qb, .int (nI sb)])), (qb, .inl (gB g, nb, .inl fb))] := hD
              refine lv_aload_n hx hb dX2_noteWords_60 rfl (lv_at hl 0 rfl) ?_
              refine lv_dup hx hb dX2_noteWords_61 rfl ?_
              refine va_get (D := gD g) (ci := 1) (v := .int (nI k1)) (C := RX2) (T := TX2) (N := 14) hx hb hts hinX2 hown hK hP 0 rfl rfl 13 (by decide) hf52 (fun _ h9 => h9) rfl dX2_noteWords_62 ?_
              refine lv_aload_n hx hb dX2_noteWords_65 rfl (lv_at hl 1 rfl) ?_
              refine lv_iload hx hb dX2_noteWords_66 (lv_at hl 4 rfl) ?_
              refine lv_iload hx hb dX2_noteWords_68 (lv_at hl 5 rfl) ?_
              refine va_ldcS hx hb hown ((hG.1 13 (by decide)).2.2.2.2) dX2_noteWords_70 ?_
              refine ct_callV (wr := [(hh, .inr (1, [.int (nI fa), .int (nI me), .int (nI nw), .int (nI tS), .int (nI tE), .int (nI ho), .int (nI en), .int (nI le), .int bo, .int (nI ma), .int (nI mS), .int (nI mE), .int (nI c1), .int (nI k1)]))]) hx hb hml hown hts hK hP hD hS hA hG hl.1 (c_hasWord l g kb qb 4096 nb sb fb w0 i 13 (by omega) (by omega) (by omega) (by omega) (by omega) (by first | assumption | decide)) (cwV 3 hts gX2_noteWords_X4_hasWord rfl rfl rfl (by decide +kernel) ⟨Nat.le_of_ble_eq_true rfl, Nat.le_of_ble_eq_true rfl⟩) (va_recv hK hP (ci := 3) (q0 := 1) rfl rfl) rfl rfl (Nat.le_of_ble_eq_true rfl) dX2_noteWords_72 ⟨show 0 + 0 ≤ 0 by omega, show 0 + 0 ≤ 0 by omega⟩ [1, 2] [0] rfl rfl (by decide) (by decide) (by decide) (fun r_ w_ H locs hp_ hP hD hS => ?_)
              rcases hp_ with ⟨rfl, rfl, hT_72⟩ | ⟨rfl, rfl, hF_72⟩
              · skip
                have hP : va_P (gD g) vwCl [(hh, .inr (1, [.int (nI fa), .int (nI me), .int (nI nw), .int (nI tS), .int (nI tE), .int (nI ho), .int (nI en), .int (nI le), .int bo, .int (nI ma), .int (nI mS), .int (nI mE), .int (nI c1), .int (nI k1)])), (kb, .inr (3, [.int (nI 4096), .ref qb, .int (nI sb)])), (qb, .inl (gB g, nb, .inl fb))] H := hP
                have hD : va_D A [(hh, .inr (1, [.int (nI fa), .int (nI me), .int (nI nw), .int (nI tS), .int (nI tE), .int (nI ho), .int (nI en), .int (nI le), .int bo, .int (nI ma), .int (nI mS), .int (nI mE), .int (nI c1), .int (nI k1)])), (kb, .inr (3, [.int (nI 4096), .ref qb, .int (nI sb)])), (qb, .inl (gB g, nb, .inl fb))] := hD
                have hT_72 : pWord fb w0 i 13 := hT_72
                refine W.eq (g2 := F0 m 75 ls [.int (nI 1), .int (nI k1), .ref hh]) rfl ?_
                refine q_ior (v := nI 1) hx hb dX2_noteWords_75 (or1 (by omega)) ?_
                refine va_put (D := gD g) (ci := 1) (v := .int (nI 1)) (ty := .boolean) (C := RX2) (T := TX2) (N := 14) hx hb hts hinX2 tyX2 tyX2_ok nmX2 hown hK hP hD hS 0 rfl rfl 13 (by decide) hf52 (fun _ h9 => h9) rfl (by decide +kernel) rfl rfl (Nat.le_of_ble_eq_true rfl) dX2_noteWords_76 (fun H locs hP hD hS => ?_)
                have hP : va_P (gD g) vwCl [(hh, .inr (1, [.int (nI fa), .int (nI me), .int (nI nw), .int (nI tS), .int (nI tE), .int (nI ho), .int (nI en), .int (nI le), .int bo, .int (nI ma), .int (nI mS), .int (nI mE), .int (nI c1), .int (nI 1)])), (kb, .inr (3, [.int (nI 4096), .ref qb, .int (nI sb)])), (qb, .inl (gB g, nb, .inl fb))] H := hP
                have hD : va_D A [(hh, .inr (1, [.int (nI fa), .int (nI me), .int (nI nw), .int (nI tS), .int (nI tE), .int (nI ho), .int (nI en), .int (nI le), .int bo, .int (nI ma), .int (nI mS), .int (nI mE), .int (nI c1), .int (nI 1)])), (kb, .inr (3, [.int (nI 4096), .ref qb, .int (nI sb)])), (qb, .inl (gB g, nb, .inl fb))] := hD
                refine lv_iload hx hb dX2_noteWords_79 (lv_at hl 5 rfl) ?_
                refine lv_iconst (v := nI 1) hx hb dX2_noteWords_81 (by decide) ?_
                refine q_iadd (v := nI (i + 1)) hx hb dX2_noteWords_82 (nI_add i 1) ?_
                refine lv_istore (lv' := [(4, .int (nI (i + 1))), (0, .ref hh), (1, .ref kb), (2, .int (nI a0)), (3, .int (nI e0)), (5, .int (nI i))]) hx hb dX2_noteWords_83 hl (by decide) rfl (fun ls hl => ?_)
                refine lv_iinc (v := nI (i + 1)) (lv' := [(5, .int (nI (i + 1))), (4, .int (nI (i + 1))), (0, .ref hh), (1, .ref kb), (2, .int (nI a0)), (3, .int (nI e0))]) hx hb dX2_noteWords_85 hl (k := 5) rfl (nI_inc i 1) (by decide) rfl (fun ls hl => ?_)
                refine lv_goto (tgt := 6) hx hb dX2_noteWords_88 (by decide) ?_
                exact ih_K6 (i + 1) (i + 1) c1 1 (by omega) (by omega) (by omega) (by omega) (by (obtain ⟨m, h1, h2⟩ := hE; obtain ⟨m, rfl⟩ : ∃ k, m = k + 1 := ⟨m - 1, by omega⟩; first | exact ⟨m, by omega, h2.trans (wdL_2 (by omega) (fun z => z.elim c15 (fun z => z.elim c26 hF_35)))⟩ | exact ⟨m, by omega, h2.trans (wdL_1 (by omega) (by first | exact Or.inl c15 | exact Or.inr (Or.inl c26) | exact Or.inr (Or.inr hT_35)) (by first | exact iteC_p hT_53 | exact iteC_n hF_53) (by first | exact iteC_p hT_72 | exact iteC_n hF_72))⟩)) (by omega) _ _ _ (hP.sub [0, 1, 2] rfl) (hD.sub [0, 1, 2] (by decide) rfl) hS (lv_sub hl [2, 3, 4, 5, 1, 0] rfl)
              · skip
                have hP : va_P (gD g) vwCl [(hh, .inr (1, [.int (nI fa), .int (nI me), .int (nI nw), .int (nI tS), .int (nI tE), .int (nI ho), .int (nI en), .int (nI le), .int bo, .int (nI ma), .int (nI mS), .int (nI mE), .int (nI c1), .int (nI k1)])), (kb, .inr (3, [.int (nI 4096), .ref qb, .int (nI sb)])), (qb, .inl (gB g, nb, .inl fb))] H := hP
                have hD : va_D A [(hh, .inr (1, [.int (nI fa), .int (nI me), .int (nI nw), .int (nI tS), .int (nI tE), .int (nI ho), .int (nI en), .int (nI le), .int bo, .int (nI ma), .int (nI mS), .int (nI mE), .int (nI c1), .int (nI k1)])), (kb, .inr (3, [.int (nI 4096), .ref qb, .int (nI sb)])), (qb, .inl (gB g, nb, .inl fb))] := hD
                have hF_72 : ¬ (pWord fb w0 i 13) := hF_72
                refine W.eq (g2 := F0 m 75 ls [.int (nI 0), .int (nI k1), .ref hh]) rfl ?_
                refine q_ior (v := nI k1) hx hb dX2_noteWords_75 (or0 (by omega)) ?_
                refine va_put (D := gD g) (ci := 1) (v := .int (nI k1)) (ty := .boolean) (C := RX2) (T := TX2) (N := 14) hx hb hts hinX2 tyX2 tyX2_ok nmX2 hown hK hP hD hS 0 rfl rfl 13 (by decide) hf52 (fun _ h9 => h9) rfl (by decide +kernel) (narB (by omega)) (fitB (by omega)) (Nat.le_of_ble_eq_true rfl) dX2_noteWords_76 (fun H locs hP hD hS => ?_)
                have hP : va_P (gD g) vwCl [(hh, .inr (1, [.int (nI fa), .int (nI me), .int (nI nw), .int (nI tS), .int (nI tE), .int (nI ho), .int (nI en), .int (nI le), .int bo, .int (nI ma), .int (nI mS), .int (nI mE), .int (nI c1), .int (nI k1)])), (kb, .inr (3, [.int (nI 4096), .ref qb, .int (nI sb)])), (qb, .inl (gB g, nb, .inl fb))] H := hP
                have hD : va_D A [(hh, .inr (1, [.int (nI fa), .int (nI me), .int (nI nw), .int (nI tS), .int (nI tE), .int (nI ho), .int (nI en), .int (nI le), .int bo, .int (nI ma), .int (nI mS), .int (nI mE), .int (nI c1), .int (nI k1)])), (kb, .inr (3, [.int (nI 4096), .ref qb, .int (nI sb)])), (qb, .inl (gB g, nb, .inl fb))] := hD
                refine lv_iload hx hb dX2_noteWords_79 (lv_at hl 5 rfl) ?_
                refine lv_iconst (v := nI 1) hx hb dX2_noteWords_81 (by decide) ?_
                refine q_iadd (v := nI (i + 1)) hx hb dX2_noteWords_82 (nI_add i 1) ?_
                refine lv_istore (lv' := [(4, .int (nI (i + 1))), (0, .ref hh), (1, .ref kb), (2, .int (nI a0)), (3, .int (nI e0)), (5, .int (nI i))]) hx hb dX2_noteWords_83 hl (by decide) rfl (fun ls hl => ?_)
                refine lv_iinc (v := nI (i + 1)) (lv' := [(5, .int (nI (i + 1))), (4, .int (nI (i + 1))), (0, .ref hh), (1, .ref kb), (2, .int (nI a0)), (3, .int (nI e0))]) hx hb dX2_noteWords_85 hl (k := 5) rfl (nI_inc i 1) (by decide) rfl (fun ls hl => ?_)
                refine lv_goto (tgt := 6) hx hb dX2_noteWords_88 (by decide) ?_
                exact ih_K6 (i + 1) (i + 1) c1 k1 (by omega) (by omega) (by omega) (by omega) (by (obtain ⟨m, h1, h2⟩ := hE; obtain ⟨m, rfl⟩ : ∃ k, m = k + 1 := ⟨m - 1, by omega⟩; first | exact ⟨m, by omega, h2.trans (wdL_2 (by omega) (fun z => z.elim c15 (fun z => z.elim c26 hF_35)))⟩ | exact ⟨m, by omega, h2.trans (wdL_1 (by omega) (by first | exact Or.inl c15 | exact Or.inr (Or.inl c26) | exact Or.inr (Or.inr hT_35)) (by first | exact iteC_p hT_53 | exact iteC_n hF_53) (by first | exact iteC_p hT_72 | exact iteC_n hF_72))⟩)) (by omega) _ _ _ (hP.sub [0, 1, 2] rfl) (hD.sub [0, 1, 2] (by decide) rfl) hS (lv_sub hl [2, 3, 4, 5, 1, 0] rfl)
          · skip
            refine lv_aload_n hx hb dX2_noteWords_29 rfl (lv_at hl 1 rfl) ?_
            refine lv_iload hx hb dX2_noteWords_30 (lv_at hl 5 rfl) ?_
            refine ct_callV (wr := [(hh, .inr (1, [.int (nI fa), .int (nI me), .int (nI nw), .int (nI tS), .int (nI tE), .int (nI ho), .int (nI en), .int (nI le), .int bo, .int (nI ma), .int (nI mS), .int (nI mE), .int (nI c1), .int (nI k1)]))]) hx hb hml hown hts hK hP hD hS hA hG hl.1 (c_getIn l g kb qb 4096 nb sb fb i (by omega) (by omega) (by omega)) (cwV 1 hts gX2_noteWords_X4_get rfl rfl rfl (by decide +kernel) ⟨Nat.le_of_ble_eq_true rfl, Nat.le_of_ble_eq_true rfl⟩) (va_recv hK hP (ci := 3) (q0 := 1) rfl rfl) rfl rfl (Nat.le_of_ble_eq_true rfl) dX2_noteWords_32 ⟨show 0 + 0 ≤ 0 by omega, show 0 + 0 ≤ 0 by omega⟩ [1, 2] [0] rfl rfl (by decide) (by decide) (by decide) (fun r_ w_ H locs hp_ hP hD hS => ?_)
            obtain ⟨rfl, rfl⟩ := hp_
            have hP : va_P (gD g) vwCl [(hh, .inr (1, [.int (nI fa), .int (nI me), .int (nI nw), .int (nI tS), .int (nI tE), .int (nI ho), .int (nI en), .int (nI le), .int bo, .int (nI ma), .int (nI mS), .int (nI mE), .int (nI c1), .int (nI k1)])), (kb, .inr (3, [.int (nI 4096), .ref qb, .int (nI sb)])), (qb, .inl (gB g, nb, .inl fb))] H := hP
            have hD : va_D A [(hh, .inr (1, [.int (nI fa), .int (nI me), .int (nI nw), .int (nI tS), .int (nI tE), .int (nI ho), .int (nI en), .int (nI le), .int bo, .int (nI ma), .int (nI mS), .int (nI mE), .int (nI c1), .int (nI k1)])), (kb, .inr (3, [.int (nI 4096), .ref qb, .int (nI sb)])), (qb, .inl (gB g, nb, .inl fb))] := hD
            refine W.eq (g2 := F0 m 35 ls [.int (fb i &&& 255)]) rfl ?_
            refine ct_callS (wr := [(hh, .inr (1, [.int (nI fa), .int (nI me), .int (nI nw), .int (nI tS), .int (nI tE), .int (nI ho), .int (nI en), .int (nI le), .int bo, .int (nI ma), .int (nI mS), .int (nI mE), .int (nI c1), .int (nI k1)])), (kb, .inr (3, [.int (nI 4096), .ref qb, .int (nI sb)])), (qb, .inl (gB g, nb, .inl fb))]) hx hb hml hown hts hK hP hD hS hA hG hl.1 (c_isSpace l g (fb i &&& 255) ) (va_cwS 1 hts gX2_noteWords_X1_isSpace rfl rfl rfl (by decide +kernel) ⟨Nat.le_of_ble_eq_true rfl, Nat.le_of_ble_eq_true rfl⟩) rfl rfl (Nat.le_of_ble_eq_true rfl) dX2_noteWords_35 ⟨show 0 + 0 ≤ 0 by omega, show 0 + 0 ≤ 0 by omega⟩ [] [0, 1, 2] rfl rfl (by decide) (by decide) (by decide) (fun r_ w_ H locs hp_ hP hD hS => ?_)
            rcases hp_ with ⟨rfl, rfl, hT_35⟩ | ⟨rfl, rfl, hF_35⟩
            · skip
              have hP : va_P (gD g) vwCl [(hh, .inr (1, [.int (nI fa), .int (nI me), .int (nI nw), .int (nI tS), .int (nI tE), .int (nI ho), .int (nI en), .int (nI le), .int bo, .int (nI ma), .int (nI mS), .int (nI mE), .int (nI c1), .int (nI k1)])), (kb, .inr (3, [.int (nI 4096), .ref qb, .int (nI sb)])), (qb, .inl (gB g, nb, .inl fb))] H := hP
              have hD : va_D A [(hh, .inr (1, [.int (nI fa), .int (nI me), .int (nI nw), .int (nI tS), .int (nI tE), .int (nI ho), .int (nI en), .int (nI le), .int bo, .int (nI ma), .int (nI mS), .int (nI mE), .int (nI c1), .int (nI k1)])), (kb, .inr (3, [.int (nI 4096), .ref qb, .int (nI sb)])), (qb, .inl (gB g, nb, .inl fb))] := hD
              have hT_35 : pSpace (fb i &&& 255) := hT_35
              refine W.eq (g2 := F0 m 38 ls [.int (nI 1)]) rfl ?_
              refine lv_if_eq (tgt := 85) hx hb dX2_noteWords_38 (by decide) (fun c38 => absurd c38 (by decide)) (fun _ => ?_)
              refine lv_aload_n hx hb dX2_noteWords_41 rfl (lv_at hl 0 rfl) ?_
              refine lv_dup hx hb dX2_noteWords_42 rfl ?_
              refine va_get (D := gD g) (ci := 1) (v := .int (nI c1)) (C := RX2) (T := TX2) (N := 14) hx hb hts hinX2 hown hK hP 0 rfl rfl 12 (by decide) hf49 (fun _ h9 => h9) rfl dX2_noteWords_43 ?_
              refine lv_aload_n hx hb dX2_noteWords_46 rfl (lv_at hl 1 rfl) ?_
              refine lv_iload hx hb dX2_noteWords_47 (lv_at hl 4 rfl) ?_
              refine lv_iload hx hb dX2_noteWords_49 (lv_at hl 5 rfl) ?_
              refine va_ldcS hx hb hown ((hG.1 12 (by decide)).2.2.2.2) dX2_noteWords_51 ?_
              refine ct_callV (wr := [(hh, .inr (1, [.int (nI fa), .int (nI me), .int (nI nw), .int (nI tS), .int (nI tE), .int (nI ho), .int (nI en), .int (nI le), .int bo, .int (nI ma), .int (nI mS), .int (nI mE), .int (nI c1), .int (nI k1)]))]) hx hb hml hown hts hK hP hD hS hA hG hl.1 (c_hasWord l g kb qb 4096 nb sb fb w0 i 12 (by omega) (by omega) (by omega) (by omega) (by omega) (by first | assumption | decide)) (cwV 3 hts gX2_noteWords_X4_hasWord rfl rfl rfl (by decide +kernel) ⟨Nat.le_of_ble_eq_true rfl, Nat.le_of_ble_eq_true rfl⟩) (va_recv hK hP (ci := 3) (q0 := 1) rfl rfl) rfl rfl (Nat.le_of_ble_eq_true rfl) dX2_noteWords_53 ⟨show 0 + 0 ≤ 0 by omega, show 0 + 0 ≤ 0 by omega⟩ [1, 2] [0] rfl rfl (by decide) (by decide) (by decide) (fun r_ w_ H locs hp_ hP hD hS => ?_)
              rcases hp_ with ⟨rfl, rfl, hT_53⟩ | ⟨rfl, rfl, hF_53⟩
              · skip
                have hP : va_P (gD g) vwCl [(hh, .inr (1, [.int (nI fa), .int (nI me), .int (nI nw), .int (nI tS), .int (nI tE), .int (nI ho), .int (nI en), .int (nI le), .int bo, .int (nI ma), .int (nI mS), .int (nI mE), .int (nI c1), .int (nI k1)])), (kb, .inr (3, [.int (nI 4096), .ref qb, .int (nI sb)])), (qb, .inl (gB g, nb, .inl fb))] H := hP
                have hD : va_D A [(hh, .inr (1, [.int (nI fa), .int (nI me), .int (nI nw), .int (nI tS), .int (nI tE), .int (nI ho), .int (nI en), .int (nI le), .int bo, .int (nI ma), .int (nI mS), .int (nI mE), .int (nI c1), .int (nI k1)])), (kb, .inr (3, [.int (nI 4096), .ref qb, .int (nI sb)])), (qb, .inl (gB g, nb, .inl fb))] := hD
                have hT_53 : pWord fb w0 i 12 := hT_53
                refine W.eq (g2 := F0 m 56 ls [.int (nI 1), .int (nI c1), .ref hh]) rfl ?_
                refine q_ior (v := nI 1) hx hb dX2_noteWords_56 (or1 (by omega)) ?_
                refine va_put (D := gD g) (ci := 1) (v := .int (nI 1)) (ty := .boolean) (C := RX2) (T := TX2) (N := 14) hx hb hts hinX2 tyX2 tyX2_ok nmX2 hown hK hP hD hS 0 rfl rfl 12 (by decide) hf49 (fun _ h9 => h9) rfl (by decide +kernel) rfl rfl (Nat.le_of_ble_eq_true rfl) dX2_noteWords_57 (fun H locs hP hD hS => ?_)
                have hP : va_P (gD g) vwCl [(hh, .inr (1, [.int (nI fa), .int (nI me), .int (nI nw), .int (nI tS), .int (nI tE), .int (nI ho), .int (nI en), .int (nI le), .int bo, .int (nI ma), .int (nI mS), .int (nI mE), .int (nI 1), .int (nI k1)])), (kb, .inr (3, [.int (nI 4096), .ref qb, .int (nI sb)])), (qb, .inl (gB g, nb, .inl fb))] H := hP
                have hD : va_D A [(hh, .inr (1, [.int (nI fa), .int (nI me), .int (nI nw), .int (nI tS), .int (nI tE), .int (nI ho), .int (nI en), .int (nI le), .int bo, .int (nI ma), .int (nI mS), .int (nI mE), .int (nI 1), .int (nI k1)])), (kb, .inr (3, [.int (nI 4096), .ref qb, .int (nI sb)])), (qb, .inl (gB g, nb, .inl fb))] := hD
                refine lv_aload_n hx hb dX2_noteWords_60 rfl (lv_at hl 0 rfl) ?_
                refine lv_dup hx hb dX2_noteWords_61 rfl ?_
                refine va_get (D := gD g) (ci := 1) (v := .int (nI k1)) (C := RX2) (T := TX2) (N := 14) hx hb hts hinX2 hown hK hP 0 rfl rfl 13 (by decide) hf52 (fun _ h9 => h9) rfl dX2_noteWords_62 ?_
                refine lv_aload_n hx hb dX2_noteWords_65 rfl (lv_at hl 1 rfl) ?_
                refine lv_iload hx hb dX2_noteWords_66 (lv_at hl 4 rfl) ?_
                refine lv_iload hx hb dX2_noteWords_68 (lv_at hl 5 rfl) ?_
                refine va_ldcS hx hb hown ((hG.1 13 (by decide)).2.2.2.2) dX2_noteWords_70 ?_
                refine ct_callV (wr := [(hh, .inr (1, [.int (nI fa), .int (nI me), .int (nI nw), .int (nI tS), .int (nI tE), .int (nI ho), .int (nI en), .int (nI le), .int bo, .int (nI ma), .int (nI mS), .int (nI mE), .int (nI 1), .int (nI k1)]))]) hx hb hml hown hts hK hP hD hS hA hG hl.1 (c_hasWord l g kb qb 4096 nb sb fb w0 i 13 (by omega) (by omega) (by omega) (by omega) (by omega) (by first | assumption | decide)) (cwV 3 hts gX2_noteWords_X4_hasWord rfl rfl rfl (by decide +kernel) ⟨Nat.le_of_ble_eq_true rfl, Nat.le_of_ble_eq_true rfl⟩) (va_recv hK hP (ci := 3) (q0 := 1) rfl rfl) rfl rfl (Nat.le_of_ble_eq_true rfl) dX2_noteWords_72 ⟨show 0 + 0 ≤ 0 by omega, show 0 + 0 ≤ 0 by omega⟩ [1, 2] [0] rfl rfl (by decide) (by decide) (by decide) (fun r_ w_ H locs hp_ hP hD hS => ?_)
                rcases hp_ with ⟨rfl, rfl, hT_72⟩ | ⟨rfl, rfl, hF_72⟩
                · skip
                  have hP : va_P (gD g) vwCl [(hh, .inr (1, [.int (nI fa), .int (nI me), .int (nI nw), .int (nI tS), .int (nI tE), .int (nI ho), .int (nI en), .int (nI le), .int bo, .int (nI ma), .int (nI mS), .int (nI mE), .int (nI 1), .int (nI k1)])), (kb, .inr (3, [.int (nI 4096), .ref qb, .int (nI sb)])), (qb, .inl (gB g, nb, .inl fb))] H := hP
                  have hD : va_D A [(hh, .inr (1, [.int (nI fa), .int (nI me), .int (nI nw), .int (nI tS), .int (nI tE), .int (nI ho), .int (nI en), .int (nI le), .int bo, .int (nI ma), .int (nI mS), .int (nI mE), .int (nI 1), .int (nI k1)])), (kb, .inr (3, [.int (nI 4096), .ref qb, .int (nI sb)])), (qb, .inl (gB g, nb, .inl fb))] := hD
                  have hT_72 : pWord fb w0 i 13 := hT_72
                  refine W.eq (g2 := F0 m 75 ls [.int (nI 1), .int (nI k1), .ref hh]) rfl ?_
                  refine q_ior (v := nI 1) hx hb dX2_noteWords_75 (or1 (by omega)) ?_
                  refine va_put (D := gD g) (ci := 1) (v := .int (nI 1)) (ty := .boolean) (C := RX2) (T := TX2) (N := 14) hx hb hts hinX2 tyX2 tyX2_ok nmX2 hown hK hP hD hS 0 rfl rfl 13 (by decide) hf52 (fun _ h9 => h9) rfl (by decide +kernel) rfl rfl (Nat.le_of_ble_eq_true rfl) dX2_noteWords_76 (fun H locs hP hD hS => ?_)
                  have hP : va_P (gD g) vwCl [(hh, .inr (1, [.int (nI fa), .int (nI me), .int (nI nw), .int (nI tS), .int (nI tE), .int (nI ho), .int (nI en), .int (nI le), .int bo, .int (nI ma), .int (nI mS), .int (nI mE), .int (nI 1), .int (nI 1)])), (kb, .inr (3, [.int (nI 4096), .ref qb, .int (nI sb)])), (qb, .inl (gB g, nb, .inl fb))] H := hP
                  have hD : va_D A [(hh, .inr (1, [.int (nI fa), .int (nI me), .int (nI nw), .int (nI tS), .int (nI tE), .int (nI ho), .int (nI en), .int (nI le), .int bo, .int (nI ma), .int (nI mS), .int (nI mE), .int (nI 1), .int (nI 1)])), (kb, .inr (3, [.int (nI 4096), .ref qb, .int (nI sb)])), (qb, .inl (gB g, nb, .inl fb))] := hD
                  refine lv_iload hx hb dX2_noteWords_79 (lv_at hl 5 rfl) ?_
                  refine lv_iconst (v := nI 1) hx hb dX2_noteWords_81 (by decide) ?_
                  refine q_iadd (v := nI (i + 1)) hx hb dX2_noteWords_82 (nI_add i 1) ?_
                  refine lv_istore (lv' := [(4, .int (nI (i + 1))), (0, .ref hh), (1, .ref kb), (2, .int (nI a0)), (3, .int (nI e0)), (5, .int (nI i))]) hx hb dX2_noteWords_83 hl (by decide) rfl (fun ls hl => ?_)
                  refine lv_iinc (v := nI (i + 1)) (lv' := [(5, .int (nI (i + 1))), (4, .int (nI (i + 1))), (0, .ref hh), (1, .ref kb), (2, .int (nI a0)), (3, .int (nI e0))]) hx hb dX2_noteWords_85 hl (k := 5) rfl (nI_inc i 1) (by decide) rfl (fun ls hl => ?_)
                  refine lv_goto (tgt := 6) hx hb dX2_noteWords_88 (by decide) ?_
                  exact ih_K6 (i + 1) (i + 1) 1 1 (by omega) (by omega) (by omega) (by omega) (by (obtain ⟨m, h1, h2⟩ := hE; obtain ⟨m, rfl⟩ : ∃ k, m = k + 1 := ⟨m - 1, by omega⟩; first | exact ⟨m, by omega, h2.trans (wdL_2 (by omega) (fun z => z.elim c15 (fun z => z.elim c26 hF_35)))⟩ | exact ⟨m, by omega, h2.trans (wdL_1 (by omega) (by first | exact Or.inl c15 | exact Or.inr (Or.inl c26) | exact Or.inr (Or.inr hT_35)) (by first | exact iteC_p hT_53 | exact iteC_n hF_53) (by first | exact iteC_p hT_72 | exact iteC_n hF_72))⟩)) (by omega) _ _ _ (hP.sub [0, 1, 2] rfl) (hD.sub [0, 1, 2] (by decide) rfl) hS (lv_sub hl [2, 3, 4, 5, 1, 0] rfl)
                · skip
                  have hP : va_P (gD g) vwCl [(hh, .inr (1, [.int (nI fa), .int (nI me), .int (nI nw), .int (nI tS), .int (nI tE), .int (nI ho), .int (nI en), .int (nI le), .int bo, .int (nI ma), .int (nI mS), .int (nI mE), .int (nI 1), .int (nI k1)])), (kb, .inr (3, [.int (nI 4096), .ref qb, .int (nI sb)])), (qb, .inl (gB g, nb, .inl fb))] H := hP
                  have hD : va_D A [(hh, .inr (1, [.int (nI fa), .int (nI me), .int (nI nw), .int (nI tS), .int (nI tE), .int (nI ho), .int (nI en), .int (nI le), .int bo, .int (nI ma), .int (nI mS), .int (nI mE), .int (nI 1), .int (nI k1)])), (kb, .inr (3, [.int (nI 4096), .ref qb, .int (nI sb)])), (qb, .inl (gB g, nb, .inl fb))] := hD
                  have hF_72 : ¬ (pWord fb w0 i 13) := hF_72
                  refine W.eq (g2 := F0 m 75 ls [.int (nI 0), .int (nI k1), .ref hh]) rfl ?_
                  refine q_ior (v := nI k1) hx hb dX2_noteWords_75 (or0 (by omega)) ?_
                  refine va_put (D := gD g) (ci := 1) (v := .int (nI k1)) (ty := .boolean) (C := RX2) (T := TX2) (N := 14) hx hb hts hinX2 tyX2 tyX2_ok nmX2 hown hK hP hD hS 0 rfl rfl 13 (by decide) hf52 (fun _ h9 => h9) rfl (by decide +kernel) (narB (by omega)) (fitB (by omega)) (Nat.le_of_ble_eq_true rfl) dX2_noteWords_76 (fun H locs hP hD hS => ?_)
                  have hP : va_P (gD g) vwCl [(hh, .inr (1, [.int (nI fa), .int (nI me), .int (nI nw), .int (nI tS), .int (nI tE), .int (nI ho), .int (nI en), .int (nI le), .int bo, .int (nI ma), .int (nI mS), .int (nI mE), .int (nI 1), .int (nI k1)])), (kb, .inr (3, [.int (nI 4096), .ref qb, .int (nI sb)])), (qb, .inl (gB g, nb, .inl fb))] H := hP
                  have hD : va_D A [(hh, .inr (1, [.int (nI fa), .int (nI me), .int (nI nw), .int (nI tS), .int (nI tE), .int (nI ho), .int (nI en), .int (nI le), .int bo, .int (nI ma), .int (nI mS), .int (nI mE), .int (nI 1), .int (nI k1)])), (kb, .inr (3, [.int (nI 4096), .ref qb, .int (nI sb)])), (qb, .inl (gB g, nb, .inl fb))] := hD
                  refine lv_iload hx hb dX2_noteWords_79 (lv_at hl 5 rfl) ?_
                  refine lv_iconst (v := nI 1) hx hb dX2_noteWords_81 (by decide) ?_
                  refine q_iadd (v := nI (i + 1)) hx hb dX2_noteWords_82 (nI_add i 1) ?_
                  refine lv_istore (lv' := [(4, .int (nI (i + 1))), (0, .ref hh), (1, .ref kb), (2, .int (nI a0)), (3, .int (nI e0)), (5, .int (nI i))]) hx hb dX2_noteWords_83 hl (by decide) rfl (fun ls hl => ?_)
                  refine lv_iinc (v := nI (i + 1)) (lv' := [(5, .int (nI (i + 1))), (4, .int (nI (i + 1))), (0, .ref hh), (1, .ref kb), (2, .int (nI a0)), (3, .int (nI e0))]) hx hb dX2_noteWords_85 hl (k := 5) rfl (nI_inc i 1) (by decide) rfl (fun ls hl => ?_)
                  refine lv_goto (tgt := 6) hx hb dX2_noteWords_88 (by decide) ?_
                  exact ih_K6 (i + 1) (i + 1) 1 k1 (by omega) (by omega) (by omega) (by omega) (by (obtain ⟨m, h1, h2⟩ := hE; obtain ⟨m, rfl⟩ : ∃ k, m = k + 1 := ⟨m - 1, by omega⟩; first | exact ⟨m, by omega, h2.trans (wdL_2 (by omega) (fun z => z.elim c15 (fun z => z.elim c26 hF_35)))⟩ | exact ⟨m, by omega, h2.trans (wdL_1 (by omega) (by first | exact Or.inl c15 | exact Or.inr (Or.inl c26) | exact Or.inr (Or.inr hT_35)) (by first | exact iteC_p hT_53 | exact iteC_n hF_53) (by first | exact iteC_p hT_72 | exact iteC_n hF_72))⟩)) (by omega) _ _ _ (hP.sub [0, 1, 2] rfl) (hD.sub [0, 1, 2] (by decide) rfl) hS (lv_sub hl [2, 3, 4, 5, 1, 0] rfl)
              · skip
                have hP : va_P (gD g) vwCl [(hh, .inr (1, [.int (nI fa), .int (nI me), .int (nI nw), .int (nI tS), .int (nI tE), .int (nI ho), .int (nI en), .int (nI le), .int bo, .int (nI ma), .int (nI mS), .int (nI mE), .int (nI c1), .int (nI k1)])), (kb, .inr (3, [.int (nI 4096), .ref qb, .int (nI sb)])), (qb, .inl (gB g, nb, .inl fb))] H := hP
                have hD : va_D A [(hh, .inr (1, [.int (nI fa), .int (nI me), .int (nI nw), .int (nI tS), .int (nI tE), .int (nI ho), .int (nI en), .int (nI le), .int bo, .int (nI ma), .int (nI mS), .int (nI mE), .int (nI c1), .int (nI k1)])), (kb, .inr (3, [.int (nI 4096), .ref qb, .int (nI sb)])), (qb, .inl (gB g, nb, .inl fb))] := hD
                have hF_53 : ¬ (pWord fb w0 i 12) := hF_53
                refine W.eq (g2 := F0 m 56 ls [.int (nI 0), .int (nI c1), .ref hh]) rfl ?_
                refine q_ior (v := nI c1) hx hb dX2_noteWords_56 (or0 (by omega)) ?_
                refine va_put (D := gD g) (ci := 1) (v := .int (nI c1)) (ty := .boolean) (C := RX2) (T := TX2) (N := 14) hx hb hts hinX2 tyX2 tyX2_ok nmX2 hown hK hP hD hS 0 rfl rfl 12 (by decide) hf49 (fun _ h9 => h9) rfl (by decide +kernel) (narB (by omega)) (fitB (by omega)) (Nat.le_of_ble_eq_true rfl) dX2_noteWords_57 (fun H locs hP hD hS => ?_)
                have hP : va_P (gD g) vwCl [(hh, .inr (1, [.int (nI fa), .int (nI me), .int (nI nw), .int (nI tS), .int (nI tE), .int (nI ho), .int (nI en), .int (nI le), .int bo, .int (nI ma), .int (nI mS), .int (nI mE), .int (nI c1), .int (nI k1)])), (kb, .inr (3, [.int (nI 4096), .ref qb, .int (nI sb)])), (qb, .inl (gB g, nb, .inl fb))] H := hP
                have hD : va_D A [(hh, .inr (1, [.int (nI fa), .int (nI me), .int (nI nw), .int (nI tS), .int (nI tE), .int (nI ho), .int (nI en), .int (nI le), .int bo, .int (nI ma), .int (nI mS), .int (nI mE), .int (nI c1), .int (nI k1)])), (kb, .inr (3, [.int (nI 4096), .ref qb, .int (nI sb)])), (qb, .inl (gB g, nb, .inl fb))] := hD
                refine lv_aload_n hx hb dX2_noteWords_60 rfl (lv_at hl 0 rfl) ?_
                refine lv_dup hx hb dX2_noteWords_61 rfl ?_
                refine va_get (D := gD g) (ci := 1) (v := .int (nI k1)) (C := RX2) (T := TX2) (N := 14) hx hb hts hinX2 hown hK hP 0 rfl rfl 13 (by decide) hf52 (fun _ h9 => h9) rfl dX2_noteWords_62 ?_
                refine lv_aload_n hx hb dX2_noteWords_65 rfl (lv_at hl 1 rfl) ?_
                refine lv_iload hx hb dX2_noteWords_66 (lv_at hl 4 rfl) ?_
                refine lv_iload hx hb dX2_noteWords_68 (lv_at hl 5 rfl) ?_
                refine va_ldcS hx hb hown ((hG.1 13 (by decide)).2.2.2.2) dX2_noteWords_70 ?_
                refine ct_callV (wr := [(hh, .inr (1, [.int (nI fa), .int (nI me), .int (nI nw), .int (nI tS), .int (nI tE), .int (nI ho), .int (nI en), .int (nI le), .int bo, .int (nI ma), .int (nI mS), .int (nI mE), .int (nI c1), .int (nI k1)]))]) hx hb hml hown hts hK hP hD hS hA hG hl.1 (c_hasWord l g kb qb 4096 nb sb fb w0 i 13 (by omega) (by omega) (by omega) (by omega) (by omega) (by first | assumption | decide)) (cwV 3 hts gX2_noteWords_X4_hasWord rfl rfl rfl (by decide +kernel) ⟨Nat.le_of_ble_eq_true rfl, Nat.le_of_ble_eq_true rfl⟩) (va_recv hK hP (ci := 3) (q0 := 1) rfl rfl) rfl rfl (Nat.le_of_ble_eq_true rfl) dX2_noteWords_72 ⟨show 0 + 0 ≤ 0 by omega, show 0 + 0 ≤ 0 by omega⟩ [1, 2] [0] rfl rfl (by decide) (by decide) (by decide) (fun r_ w_ H locs hp_ hP hD hS => ?_)
                rcases hp_ with ⟨rfl, rfl, hT_72⟩ | ⟨rfl, rfl, hF_72⟩
                · skip
                  have hP : va_P (gD g) vwCl [(hh, .inr (1, [.int (nI fa), .int (nI me), .int (nI nw), .int (nI tS), .int (nI tE), .int (nI ho), .int (nI en), .int (nI le), .int bo, .int (nI ma), .int (nI mS), .int (nI mE), .int (nI c1), .int (nI k1)])), (kb, .inr (3, [.int (nI 4096), .ref qb, .int (nI sb)])), (qb, .inl (gB g, nb, .inl fb))] H := hP
                  have hD : va_D A [(hh, .inr (1, [.int (nI fa), .int (nI me), .int (nI nw), .int (nI tS), .int (nI tE), .int (nI ho), .int (nI en), .int (nI le), .int bo, .int (nI ma), .int (nI mS), .int (nI mE), .int (nI c1), .int (nI k1)])), (kb, .inr (3, [.int (nI 4096), .ref qb, .int (nI sb)])), (qb, .inl (gB g, nb, .inl fb))] := hD
                  have hT_72 : pWord fb w0 i 13 := hT_72
                  refine W.eq (g2 := F0 m 75 ls [.int (nI 1), .int (nI k1), .ref hh]) rfl ?_
                  refine q_ior (v := nI 1) hx hb dX2_noteWords_75 (or1 (by omega)) ?_
                  refine va_put (D := gD g) (ci := 1) (v := .int (nI 1)) (ty := .boolean) (C := RX2) (T := TX2) (N := 14) hx hb hts hinX2 tyX2 tyX2_ok nmX2 hown hK hP hD hS 0 rfl rfl 13 (by decide) hf52 (fun _ h9 => h9) rfl (by decide +kernel) rfl rfl (Nat.le_of_ble_eq_true rfl) dX2_noteWords_76 (fun H locs hP hD hS => ?_)
                  have hP : va_P (gD g) vwCl [(hh, .inr (1, [.int (nI fa), .int (nI me), .int (nI nw), .int (nI tS), .int (nI tE), .int (nI ho), .int (nI en), .int (nI le), .int bo, .int (nI ma), .int (nI mS), .int (nI mE), .int (nI c1), .int (nI 1)])), (kb, .inr (3, [.int (nI 4096), .ref qb, .int (nI sb)])), (qb, .inl (gB g, nb, .inl fb))] H := hP
                  have hD : va_D A [(hh, .inr (1, [.int (nI fa), .int (nI me), .int (nI nw), .int (nI tS), .int (nI tE), .int (nI ho), .int (nI en), .int (nI le), .int bo, .int (nI ma), .int (nI mS), .int (nI mE), .int (nI c1), .int (nI 1)])), (kb, .inr (3, [.int (nI 4096), .ref qb, .int (nI sb)])), (qb, .inl (gB g, nb, .inl fb))] := hD
                  refine lv_iload hx hb dX2_noteWords_79 (lv_at hl 5 rfl) ?_
                  refine lv_iconst (v := nI 1) hx hb dX2_noteWords_81 (by decide) ?_
                  refine q_iadd (v := nI (i + 1)) hx hb dX2_noteWords_82 (nI_add i 1) ?_
                  refine lv_istore (lv' := [(4, .int (nI (i + 1))), (0, .ref hh), (1, .ref kb), (2, .int (nI a0)), (3, .int (nI e0)), (5, .int (nI i))]) hx hb dX2_noteWords_83 hl (by decide) rfl (fun ls hl => ?_)
                  refine lv_iinc (v := nI (i + 1)) (lv' := [(5, .int (nI (i + 1))), (4, .int (nI (i + 1))), (0, .ref hh), (1, .ref kb), (2, .int (nI a0)), (3, .int (nI e0))]) hx hb dX2_noteWords_85 hl (k := 5) rfl (nI_inc i 1) (by decide) rfl (fun ls hl => ?_)
                  refine lv_goto (tgt := 6) hx hb dX2_noteWords_88 (by decide) ?_
                  exact ih_K6 (i + 1) (i + 1) c1 1 (by omega) (by omega) (by omega) (by omega) (by (obtain ⟨m, h1, h2⟩ := hE; obtain ⟨m, rfl⟩ : ∃ k, m = k + 1 := ⟨m - 1, by omega⟩; first | exact ⟨m, by omega, h2.trans (wdL_2 (by omega) (fun z => z.elim c15 (fun z => z.elim c26 hF_35)))⟩ | exact ⟨m, by omega, h2.trans (wdL_1 (by omega) (by first | exact Or.inl c15 | exact Or.inr (Or.inl c26) | exact Or.inr (Or.inr hT_35)) (by first | exact iteC_p hT_53 | exact iteC_n hF_53) (by first | exact iteC_p hT_72 | exact iteC_n hF_72))⟩)) (by omega) _ _ _ (hP.sub [0, 1, 2] rfl) (hD.sub [0, 1, 2] (by decide) rfl) hS (lv_sub hl [2, 3, 4, 5, 1, 0] rfl)
                · skip
                  have hP : va_P (gD g) vwCl [(hh, .inr (1, [.int (nI fa), .int (nI me), .int (nI nw), .int (nI tS), .int (nI tE), .int (nI ho), .int (nI en), .int (nI le), .int bo, .int (nI ma), .int (nI mS), .int (nI mE), .int (nI c1), .int (nI k1)])), (kb, .inr (3, [.int (nI 4096), .ref qb, .int (nI sb)])), (qb, .inl (gB g, nb, .inl fb))] H := hP
                  have hD : va_D A [(hh, .inr (1, [.int (nI fa), .int (nI me), .int (nI nw), .int (nI tS), .int (nI tE), .int (nI ho), .int (nI en), .int (nI le), .int bo, .int (nI ma), .int (nI mS), .int (nI mE), .int (nI c1), .int (nI k1)])), (kb, .inr (3, [.int (nI 4096), .ref qb, .int (nI sb)])), (qb, .inl (gB g, nb, .inl fb))] := hD
                  have hF_72 : ¬ (pWord fb w0 i 13) := hF_72
                  refine W.eq (g2 := F0 m 75 ls [.int (nI 0), .int (nI k1), .ref hh]) rfl ?_
                  refine q_ior (v := nI k1) hx hb dX2_noteWords_75 (or0 (by omega)) ?_
                  refine va_put (D := gD g) (ci := 1) (v := .int (nI k1)) (ty := .boolean) (C := RX2) (T := TX2) (N := 14) hx hb hts hinX2 tyX2 tyX2_ok nmX2 hown hK hP hD hS 0 rfl rfl 13 (by decide) hf52 (fun _ h9 => h9) rfl (by decide +kernel) (narB (by omega)) (fitB (by omega)) (Nat.le_of_ble_eq_true rfl) dX2_noteWords_76 (fun H locs hP hD hS => ?_)
                  have hP : va_P (gD g) vwCl [(hh, .inr (1, [.int (nI fa), .int (nI me), .int (nI nw), .int (nI tS), .int (nI tE), .int (nI ho), .int (nI en), .int (nI le), .int bo, .int (nI ma), .int (nI mS), .int (nI mE), .int (nI c1), .int (nI k1)])), (kb, .inr (3, [.int (nI 4096), .ref qb, .int (nI sb)])), (qb, .inl (gB g, nb, .inl fb))] H := hP
                  have hD : va_D A [(hh, .inr (1, [.int (nI fa), .int (nI me), .int (nI nw), .int (nI tS), .int (nI tE), .int (nI ho), .int (nI en), .int (nI le), .int bo, .int (nI ma), .int (nI mS), .int (nI mE), .int (nI c1), .int (nI k1)])), (kb, .inr (3, [.int (nI 4096), .ref qb, .int (nI sb)])), (qb, .inl (gB g, nb, .inl fb))] := hD
                  refine lv_iload hx hb dX2_noteWords_79 (lv_at hl 5 rfl) ?_
                  refine lv_iconst (v := nI 1) hx hb dX2_noteWords_81 (by decide) ?_
                  refine q_iadd (v := nI (i + 1)) hx hb dX2_noteWords_82 (nI_add i 1) ?_
                  refine lv_istore (lv' := [(4, .int (nI (i + 1))), (0, .ref hh), (1, .ref kb), (2, .int (nI a0)), (3, .int (nI e0)), (5, .int (nI i))]) hx hb dX2_noteWords_83 hl (by decide) rfl (fun ls hl => ?_)
                  refine lv_iinc (v := nI (i + 1)) (lv' := [(5, .int (nI (i + 1))), (4, .int (nI (i + 1))), (0, .ref hh), (1, .ref kb), (2, .int (nI a0)), (3, .int (nI e0))]) hx hb dX2_noteWords_85 hl (k := 5) rfl (nI_inc i 1) (by decide) rfl (fun ls hl => ?_)
                  refine lv_goto (tgt := 6) hx hb dX2_noteWords_88 (by decide) ?_
                  exact ih_K6 (i + 1) (i + 1) c1 k1 (by omega) (by omega) (by omega) (by omega) (by (obtain ⟨m, h1, h2⟩ := hE; obtain ⟨m, rfl⟩ : ∃ k, m = k + 1 := ⟨m - 1, by omega⟩; first | exact ⟨m, by omega, h2.trans (wdL_2 (by omega) (fun z => z.elim c15 (fun z => z.elim c26 hF_35)))⟩ | exact ⟨m, by omega, h2.trans (wdL_1 (by omega) (by first | exact Or.inl c15 | exact Or.inr (Or.inl c26) | exact Or.inr (Or.inr hT_35)) (by first | exact iteC_p hT_53 | exact iteC_n hF_53) (by first | exact iteC_p hT_72 | exact iteC_n hF_72))⟩)) (by omega) _ _ _ (hP.sub [0, 1, 2] rfl) (hD.sub [0, 1, 2] (by decide) rfl) hS (lv_sub hl [2, 3, 4, 5, 1, 0] rfl)
            · skip
              have hP : va_P (gD g) vwCl [(hh, .inr (1, [.int (nI fa), .int (nI me), .int (nI nw), .int (nI tS), .int (nI tE), .int (nI ho), .int (nI en), .int (nI le), .int bo, .int (nI ma), .int (nI mS), .int (nI mE), .int (nI c1), .int (nI k1)])), (kb, .inr (3, [.int (nI 4096), .ref qb, .int (nI sb)])), (qb, .inl (gB g, nb, .inl fb))] H := hP
              have hD : va_D A [(hh, .inr (1, [.int (nI fa), .int (nI me), .int (nI nw), .int (nI tS), .int (nI tE), .int (nI ho), .int (nI en), .int (nI le), .int bo, .int (nI ma), .int (nI mS), .int (nI mE), .int (nI c1), .int (nI k1)])), (kb, .inr (3, [.int (nI 4096), .ref qb, .int (nI sb)])), (qb, .inl (gB g, nb, .inl fb))] := hD
              have hF_35 : ¬ (pSpace (fb i &&& 255)) := hF_35
              refine W.eq (g2 := F0 m 38 ls [.int (nI 0)]) rfl ?_
              refine lv_if_eq (tgt := 85) hx hb dX2_noteWords_38 (by decide) (fun _ => ?_) (fun c38 => absurd (by decide) c38)
              refine lv_iinc (v := nI (i + 1)) (lv' := [(5, .int (nI (i + 1))), (0, .ref hh), (1, .ref kb), (2, .int (nI a0)), (3, .int (nI e0)), (4, .int (nI w0))]) hx hb dX2_noteWords_85 hl (k := 5) rfl (nI_inc i 1) (by decide) rfl (fun ls hl => ?_)
              refine lv_goto (tgt := 6) hx hb dX2_noteWords_88 (by decide) ?_
              exact ih_K6 (i + 1) w0 c1 k1 (by omega) (by omega) (by omega) (by omega) (by (obtain ⟨m, h1, h2⟩ := hE; obtain ⟨m, rfl⟩ : ∃ k, m = k + 1 := ⟨m - 1, by omega⟩; first | exact ⟨m, by omega, h2.trans (wdL_2 (by omega) (fun z => z.elim c15 (fun z => z.elim c26 hF_35)))⟩ | exact ⟨m, by omega, h2.trans (wdL_1 (by omega) (by first | exact Or.inl c15 | exact Or.inr (Or.inl c26) | exact Or.inr (Or.inr hT_35)) (by first | exact iteC_p hT_53 | exact iteC_n hF_53) (by first | exact iteC_p hT_72 | exact iteC_n hF_72))⟩)) (by omega) _ _ _ (hP.sub [0, 1, 2] rfl) (hD.sub [0, 1, 2] (by decide) rfl) hS (lv_sub hl [1, 2, 3, 4, 5, 0] rfl)
  exact K6 ((e0 + 1 - a0) + 1) a0 a0 cl ke (by omega) (by omega) (by omega) (by omega) (by exact ⟨e0 + 2, by omega, rfl⟩) (Nat.lt_succ_self _) _ _ _ (hP.sub [0, 1, 2] rfl) (hD.sub [0, 1, 2] (by decide) rfl) hS (lv_sub hl [2, 3, 4, 5, 1, 0] rfl)
