def CZq (sc cl nw ke cz : Nat) : Prop := (cz = 1 ↔ (sc = 1 ∨ ¬ (cl = 0 ∧ (nw = 1 ∨ ke = 1))))
def stC (k : Nat) : Nat := [0, 0, 1, 0, 0, 1, 1, 1, 1].getD k 0
def stV (k : Nat) : Nat := [1, 1, 0, 1, 1, 0, 0, 1, 0].getD k 0
theorem stC_eq : ∀ k, k < 9 → (stF.getD 1 ("", "", "", [])).2.2.2.getD k 0 = nI (stC k) := by decide
theorem stV_eq : ∀ k, k < 9 → (stF.getD 2 ("", "", "", [])).2.2.2.getD k 0 = nI (stV k) := by decide
theorem stC_le : ∀ k, k < 9 → stC k ≤ 1 := by decide
theorem stV_le : ∀ k, k < 9 → stV k ≤ 1 := by decide
def lnF (fe : Nat → Int32) (e0 : Nat) : Nat := min 65535 (u32 (be4 fe (e0 * 64 + 52)))
theorem lnF_eq {fe : Nat → Int32} {e0 : Nat} (h : u32 (be4 fe (e0 * 64 + 52)) ≤ 65535) : be4 fe (e0 * 64 + 52) = nI (lnF fe e0) := by
  rw [lnF, Nat.min_eq_right h, nI_u32]
theorem lnF_le (fe : Nat → Int32) (e0 : Nat) : lnF fe e0 ≤ 65535 := Nat.min_le_left _ _
theorem lnF_u {fe : Nat → Int32} {e0 : Nat} (h : u32 (be4 fe (e0 * 64 + 52)) ≤ 65535) : lnF fe e0 = u32 (be4 fe (e0 * 64 + 52)) := Nat.min_eq_right h
theorem hdL_t {k ln t t' cz : Nat} {v : Int32} (h : ¬ k = 0) : hdL k ln t v cz = hdL k ln t' v cz := by
  unfold hdL
  rw [if_neg h, if_neg h]
theorem bo_nat {bo : Int32} (h1 : ¬ bo < 0) (h2 : ¬ nI 65536 < bo) : ∃ lb, lb ≤ 65536 ∧ bo = nI lb := by
  obtain ⟨j, hj, rfl⟩ := nI_of h1
  refine ⟨j, ?_, rfl⟩
  rcases Nat.lt_or_ge 65536 j with z | z
  · exact absurd (nI_lt z hj) h2
  · exact z
theorem jdK_bo {fa me nw ho en le : Nat} {bo : Int32} (h : jdK fa me nw ho en le bo = 0 ∨ jdK fa me nw ho en le bo = 4) : ∃ lb, lb ≤ 65536 ∧ bo = nI lb := by
  by_cases h1 : fa = 1 ∨ (nw = 1 ∧ ¬ ho = 1) ∨ (nw = 0 ∧ 1 < ho)
  · rw [jdK_1 h1] at h; omega
  by_cases h2 : 0 < en
  · rw [jdK_2 h1 h2] at h; omega
  by_cases h3 : 1 < le ∨ bo < 0
  · rw [jdK_3 h1 h2 h3] at h; omega
  by_cases h4 : nI 65536 < bo
  · rw [jdK_4 h1 h2 (fun z => h3 (Or.inl z)) (fun z => h3 (Or.inr z)) h4] at h; omega
  exact bo_nat (fun z => h3 (Or.inr z)) h4
theorem jdK_mem {fa me nw ho en le : Nat} {bo : Int32} : jdK fa me nw ho en le bo = 0 ∨ jdK fa me nw ho en le bo = 2 ∨ jdK fa me nw ho en le bo = 4 ∨ jdK fa me nw ho en le bo = 5 ∨ jdK fa me nw ho en le bo = 8 := by
  unfold jdK
  repeat' split
  all_goals simp
theorem pJ_bo {fb : Nat → Int32} {fa me nw tS tE ho en le ma mS mE cl ke c0 k e0 tk : Nat} {bo : Int32} {fe fi : Nat → Int32} (h : pJ fb (fa, me, nw, tS, tE, ho, en, le, bo, ma, mS, mE, cl, ke) c0 fe fi k e0 tk) (hv : stV k = 1) : ∃ lb, lb ≤ 65536 ∧ bo = nI lb := by
  rcases h with ⟨h1, h2⟩ | ⟨h1, -⟩
  · rcases jdK_mem (fa := fa) (me := me) (nw := nw) (ho := ho) (en := en) (le := le) (bo := bo) with z | z | z | z | z
    · exact jdK_bo (Or.inl z)
    · rw [← h1] at z; rw [z] at hv; exact absurd hv (by decide)
    · exact jdK_bo (Or.inr z)
    · rw [← h1] at z; rw [z] at hv; exact absurd hv (by decide)
    · rw [← h1] at z; rw [z] at hv; exact absurd hv (by decide)
  · exact jdK_bo (Or.inl h1)
noncomputable def aL (k e0 tk me cz : Nat) (fe : Nat → Int32) : List Int32 := hdL k (lnF fe e0) tk (be4 fe (e0 * 64 + 56)) cz ++ (if me = 1 ∨ k = 1 then [] else stL k ++ [nI 10])
theorem aL_1 {k e0 tk me cz : Nat} {fe : Nat → Int32} (h : me = 1 ∨ k = 1) : aL k e0 tk me cz fe = hdL k (lnF fe e0) tk (be4 fe (e0 * 64 + 56)) cz := by rw [aL, if_pos h, List.append_nil]
theorem aL_2 {k e0 tk me cz : Nat} {fe : Nat → Int32} (h : ¬ me = 1) (hk : ¬ k = 0) : (if k = 1 then hdL k (lnF fe e0) tk (be4 fe (e0 * 64 + 56)) cz else hdL k (lnF fe e0) tk (be4 fe (e0 * 64 + 56)) cz ++ stL k ++ [nI 10]) = aL k e0 tk me cz fe := by
  by_cases h1 : k = 1
  · rw [if_pos h1, aL_1 (Or.inr h1)]
  · rw [if_neg h1, aL, if_neg (fun z => z.elim h h1), List.append_assoc]

theorem pJ_tk {fb : Nat → Int32} {s : HS} {c0 k e0 tk tk' : Nat} {fe fi : Nat → Int32} (hk : ¬ k = 0) (h : pJ fb s c0 fe fi k e0 tk) : pJ fb s c0 fe fi k e0 tk' := by
  obtain ⟨fa, me, nw, tS, tE, ho, en, le, bo, ma, mS, mE, cl, ke⟩ := s
  rcases h with h | ⟨h1, e1, h2, h3⟩
  · exact Or.inl h
  · refine Or.inr ⟨h1, e1, h2, ?_⟩
    rcases h3 with h3 | ⟨L, N, g1, g2, g3⟩
    · exact Or.inl h3
    · refine Or.inr ⟨L, N, g1, g2, ?_⟩
      rcases g3 with g3 | ⟨g3, g4, g5, g6⟩
      · exact Or.inl g3
      · refine Or.inr ⟨g3, g4, g5, ?_⟩
        rcases g6 with g6 | ⟨g6, g7⟩
        · exact Or.inl g6
        · refine Or.inr ⟨g6, ?_⟩
          rcases g7 with g7 | ⟨-, g7, -⟩
          · exact Or.inl g7
          · exact absurd g7 hk

