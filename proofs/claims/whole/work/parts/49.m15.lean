theorem hsz_nl {f : Nat → Int32} {n : Nat} : ∀ (m b k r : Nat), hsz f n m b k = r → 0 < r → f (r - 1) &&& 255 = nI 10 := by
  intro m
  induction m with
  | zero => intro b k r h hr; rw [hsz] at h; omega
  | succ m ih =>
    intro b k r h hr
    rw [hsz] at h
    by_cases h1 : n ≤ k
    · rw [if_pos h1] at h; omega
    rw [if_neg h1] at h
    by_cases h2 : f k &&& 255 = nI 10
    · rw [if_pos h2] at h
      by_cases h3 : k = b ∨ (k = b + 1 ∧ f b &&& 255 = nI 13)
      · rw [if_pos h3] at h
        rw [← h, Nat.add_sub_cancel]
        exact h2
      · rw [if_neg h3] at h
        exact ih _ _ _ h hr
    · rw [if_neg h2] at h
      exact ih _ _ _ h hr
theorem hdF_run {f : Nat → Int32} {n b r : Nat} {s s2 : HS} (hrn : r < n) (hnl : f r &&& 255 = nI 10) (hs : stS f b (lnE f b r) s = s2) : ∀ (d k m : Nat), r = k + d → (∀ j, k ≤ j → j < r → ¬ f j &&& 255 = nI 10) → n < k + m → ∃ m', n < r + 1 + m' ∧ hdF f n m b k s = hdF f n m' (r + 1) (r + 1) s2 := by
  intro d
  induction d with
  | zero =>
    intro k m h1 h2 h3
    obtain ⟨m, rfl⟩ : ∃ q, m = q + 1 := ⟨m - 1, by omega⟩
    rw [Nat.add_zero] at h1
    subst h1
    exact ⟨m, by omega, hdF_1 hrn hnl hs⟩
  | succ d ih =>
    intro k m h1 h2 h3
    obtain ⟨m, rfl⟩ : ∃ q, m = q + 1 := ⟨m - 1, by omega⟩
    obtain ⟨m', h4, h5⟩ := ih (k + 1) m (by omega) (fun j g1 g2 => h2 j (by omega) g2) (by omega)
    exact ⟨m', h4, (hdF_2 (by omega) (h2 k (Nat.le_refl _) (by omega))).trans h5⟩
theorem hdF_line {f : Nat → Int32} {n b r m : Nat} {s s2 : HS} {X : HS} (hX : X = hdF f n m b b s) (hm : n < b + m) (hbr : b ≤ r) (hrn : r < n) (hnl : f r &&& 255 = nI 10) (hno : ∀ j, b ≤ j → j < r → ¬ f j &&& 255 = nI 10) (hs : stS f b (lnE f b r) s = s2) : ∃ m', n < r + 1 + m' ∧ X = hdF f n m' (r + 1) (r + 1) s2 := by
  obtain ⟨m', h1, h2⟩ := hdF_run hrn hnl hs (r - b) b m (by omega) hno hm
  exact ⟨m', h1, hX.trans h2⟩
theorem stS_0 {f : Nat → Int32} {e : Nat} {s : HS} : stS f 0 e s = reqS f e s := if_pos rfl
theorem stS_1 {f : Nat → Int32} {b e : Nat} {s : HS} (h : ¬ b = 0) (h2 : b < e) : stS f b e s = lineS f b e s := by rw [stS, if_neg h, if_pos h2]
theorem stS_2 {f : Nat → Int32} {b e : Nat} {s : HS} (h : ¬ b = 0) (h2 : ¬ b < e) : stS f b e s = s := by rw [stS, if_neg h, if_neg h2]
theorem note_fa {f : Nat → Int32} {b c va ve : Nat} {s : HS} : (noteF f b c va ve s).1 = s.1 ∧ (noteF f b c va ve s).2.1 = s.2.1 := by
  obtain ⟨fa, me, nw, tS, tE, ho, en, le, bo, ma, mS, mE, cl, ke⟩ := s
  unfold noteF
  dsimp only
  by_cases h1 : pWord f b c 7
  · rw [iteC_p h1]; exact ⟨rfl, rfl⟩
  rw [iteC_n h1]
  by_cases h2 : pWord f b c 8
  · rw [iteC_p h2]; exact ⟨rfl, rfl⟩
  rw [iteC_n h2]
  by_cases h3 : pWord f b c 9
  · rw [iteC_p h3]; exact ⟨rfl, rfl⟩
  rw [iteC_n h3]
  by_cases h4 : pWord f b c 10
  · rw [iteC_p h4]; exact ⟨rfl, rfl⟩
  rw [iteC_n h4]
  by_cases h5 : pWord f b c 11
  · rw [iteC_p h5]; exact ⟨rfl, rfl⟩
  rw [iteC_n h5]; exact ⟨rfl, rfl⟩
theorem line_fa {f : Nat → Int32} {b e : Nat} {s : HS} (h : s.1 = 1) : (lineS f b e s).1 = 1 ∧ (lineS f b e s).2.1 = s.2.1 := by
  unfold lineS
  by_cases h1 : pLine f b (fnd f (nI 58) b e) e
  · rw [iteC_p h1, note_fa.1, note_fa.2]; exact ⟨h, rfl⟩
  · rw [iteC_n h1]; exact ⟨rfl, rfl⟩
theorem hdF_fa {f : Nat → Int32} {n : Nat} : ∀ (m b k : Nat) (s : HS), 0 < b → b ≤ k → s.1 = 1 → (hdF f n m b k s).1 = 1 ∧ (hdF f n m b k s).2.1 = s.2.1 := by
  intro m
  induction m with
  | zero => intro b k s hb hk h; exact ⟨h, rfl⟩
  | succ m ih =>
    intro b k s hb hk h
    by_cases h1 : n ≤ k
    · rw [hdF_0 h1]; exact ⟨h, rfl⟩
    by_cases h2 : f k &&& 255 = nI 10
    · have h3 : (stS f b (lnE f b k) s).1 = 1 ∧ (stS f b (lnE f b k) s).2.1 = s.2.1 := by
        by_cases h4 : b < lnE f b k
        · rw [stS_1 (by omega) h4]; exact line_fa h
        · rw [stS_2 (by omega) h4]; exact ⟨h, rfl⟩
      rw [hdF_1 (by omega) h2 rfl]
      have h5 := ih (k + 1) (k + 1) _ (by omega) (Nat.le_refl _) h3.1
      exact ⟨h5.1, h5.2.trans h3.2⟩
    · rw [hdF_2 (by omega) h2]
      exact ih b (k + 1) s hb (by omega) h
theorem fa_fin {f : Nat → Int32} {n b m : Nat} {X s : HS} (hX : X = hdF f n m b b s) (hb : 0 < b) (h : s.1 = 1) : X.1 = 1 ∧ X.2.1 = s.2.1 := by
  rw [hX]; exact hdF_fa m b b s hb (Nat.le_refl _) h
theorem sk_lt : ∀ k, k < 9 → stN k < 600 := by decide
def H5d (k : Nat) (bo : Int32) (lb : Nat) : Prop := (stV k = 1 → bo = nI lb) ∧ (stV k = 0 → lb = 0)
def HJd (k xl lb : Nat) : Prop := stV k = 1 → xl = lb
theorem shB {r1 a b : Nat} {f : Nat → Int32} (h : (r1 = b ∧ ¬ (a < b ∧ f (b - 1) &&& 255 = nI 13)) ∨ (r1 + 1 = b ∧ a < b ∧ f (b - 1) &&& 255 = nI 13)) : r1 ≤ b := by
  rcases h with z | z <;> omega
theorem sk400 : ∀ k, k < 9 → (stN k = 400 ↔ k = 2) := by decide
theorem sk413 : ∀ k, k < 9 → (stN k = 413 ↔ k = 5) := by decide
theorem sk500 : ∀ k, k < 9 → (stN k = 500 ↔ k = 7) := by decide
theorem sk501 : ∀ k, k < 9 → (stN k = 501 ↔ k = 8) := by decide
theorem sc0 : ∀ k, k < 9 → ¬ (k = 2 ∨ k = 5 ∨ k = 7 ∨ k = 8 ∨ k = 6) → stC k = 0 := by decide
theorem sc1 : ∀ k, k < 9 → (k = 2 ∨ k = 5 ∨ k = 7 ∨ k = 8) → stC k = 1 := by decide
theorem sv0 : ∀ k, k < 9 → (k = 2 ∨ k = 5 ∨ k = 8) → stV k = 0 := by decide
theorem sv1 : ∀ k, k < 9 → ¬ (k = 2 ∨ k = 5 ∨ k = 8 ∨ k = 6) → stV k = 1 := by decide
theorem jdK_ok {fa me nw ho en le : Nat} {bo : Int32} (h : jdK fa me nw ho en le bo = 0 ∨ jdK fa me nw ho en le bo = 4) : ¬ 1 < le ∧ ¬ bo < 0 ∧ ¬ nI 65536 < bo := by
  by_cases h1 : fa = 1 ∨ (nw = 1 ∧ ¬ ho = 1) ∨ (nw = 0 ∧ 1 < ho)
  · rw [jdK_1 h1] at h; omega
  by_cases h2 : 0 < en
  · rw [jdK_2 h1 h2] at h; omega
  by_cases h3 : 1 < le ∨ bo < 0
  · rw [jdK_3 h1 h2 h3] at h; omega
  by_cases h4 : nI 65536 < bo
  · rw [jdK_4 h1 h2 (fun z => h3 (Or.inl z)) (fun z => h3 (Or.inr z)) h4] at h; omega
  exact ⟨fun z => h3 (Or.inl z), fun z => h3 (Or.inr z), h4⟩
theorem pJ_ok {fb : Nat → Int32} {fa me nw tS tE ho en le ma mS mE cl ke c0 k e0 tk : Nat} {bo : Int32} {fe fi : Nat → Int32} (h : pJ fb (fa, me, nw, tS, tE, ho, en, le, bo, ma, mS, mE, cl, ke) c0 fe fi k e0 tk) (hv : stV k = 1) : ¬ 1 < le ∧ ¬ bo < 0 ∧ ¬ nI 65536 < bo := by
  rcases h with ⟨h1, h2⟩ | ⟨h1, -⟩
  · rcases jdK_mem (fa := fa) (me := me) (nw := nw) (ho := ho) (en := en) (le := le) (bo := bo) with z | z | z | z | z
    · exact jdK_ok (Or.inl z)
    · rw [← h1] at z; rw [z] at hv; exact absurd hv (by decide)
    · exact jdK_ok (Or.inr z)
    · rw [← h1] at z; rw [z] at hv; exact absurd hv (by decide)
    · rw [← h1] at z; rw [z] at hv; exact absurd hv (by decide)
  · exact jdK_ok (Or.inl h1)
theorem RB_lb {le : Nat} {bo : Int32} {xb xg xl lb : Nat} (h : RB le bo xb xg xl) (hk : ¬ 1 < le ∧ ¬ bo < 0 ∧ ¬ nI 65536 < bo) (hb : bo = nI lb) (hl : lb ≤ 65536) (hx : xl ≤ 65536) : xl = lb := by
  rcases (show le = 0 ∨ le = 1 by omega) with z | z
  · obtain ⟨-, -, h3, h4⟩ := h.1 z
    rw [hb] at h4
    rw [h3]
    exact ((nI_eq (by omega) (by omega)).mp h4).symm
  · rcases h.2 z with w | w | w
    · exact absurd w.2 hk.2.1
    · exact absurd w.2.2.2 hk.2.2
    · rw [hb] at w
      exact ((nI_eq (by omega) (by omega)).mp w.2.2).symm
theorem pJ_k6 {fb : Nat → Int32} {fa me nw tS tE ho en le ma mS mE cl ke c0 k e0 tk : Nat} {bo : Int32} {fe fi : Nat → Int32} (h : pJ fb (fa, me, nw, tS, tE, ho, en, le, bo, ma, mS, mE, cl, ke) c0 fe fi k e0 tk) : k < 9 ∧ ¬ k = 6 := by
  rcases h with ⟨h1, -⟩ | ⟨-, e1, -, h2⟩
  · rcases jdK_mem (fa := fa) (me := me) (nw := nw) (ho := ho) (en := en) (le := le) (bo := bo) with z | z | z | z | z <;> rw [← h1] at z <;> omega
  · rcases h2 with h2 | ⟨L, N, -, -, h2⟩
    · omega
    rcases h2 with h2 | ⟨-, -, -, h2⟩
    · omega
    rcases h2 with h2 | ⟨-, h2⟩
    · omega
    rcases h2 with h2 | h2 <;> omega
/-- the answer that the model has made -/
def ANS (k e0 tk me cz c0 : Nat) (fe fq fa fy : Nat → Int32) (al bl : Nat) : Prop := (¬ (k = 0 ∧ ¬ me = 1) ∧ bl = 0 ∧ al = (aL k e0 tk me cz fe).length ∧ hasL fa 0 (aL k e0 tk me cz fe)) ∨ (k = 0 ∧ ¬ me = 1 ∧ e0 < c0 ∧ bl = lnF fe e0 ∧ al = (hdL k (lnF fe e0) tk (be4 fe (e0 * 64 + 56)) cz).length ∧ hasL fa 0 (hdL k (lnF fe e0) tk (be4 fe (e0 * 64 + 56)) cz) ∧ ∀ j, j < lnF fe e0 → fy j = fq (u32 (be4 fe (e0 * 64 + 48)) + j))
def STd (sc kn ov nw clx cl kex ke : Nat) : Prop := sc = 1 ∨ (kn = 1 ∧ ov + nw = 1 ∧ clx = cl ∧ kex = ke)
def SYd (la sy cl nw ke : Nat) : Prop := sy ≤ 1 ∧ (la = 0 → (sy = 1 ↔ (cl = 0 ∧ (nw = 1 ∨ ke = 1))))
def HDd (hd me : Nat) : Prop := (hd = 1 ∧ me = 1) ∨ (hd = 0 ∧ ¬ me = 1)
theorem rel3 {me hd ot : Nat} (h : (me = 1 ∧ hd = 1 ∧ ot = 0) ∨ (me = 0 ∧ hd = 0 ∧ ot = 0) ∨ (me = 2 ∧ hd = 0 ∧ ot = 1)) : HDd hd me ∧ OTd ot me ∧ hd ≤ 1 ∧ ot ≤ 1 ∧ me ≤ 2 := by
  unfold HDd OTd
  rcases h with z | z | z <;> refine ⟨?_, ?_, ?_, ?_, ?_⟩ <;> omega

