def posT : List Nat := [116, 130, 138, 150, 162, 170, 177, 196, 204, 225, 243, 260, 274, 283, 297, 302, 322, 327, 336, 349, 357, 369, 376, 395, 403, 417, 425, 438, 466, 479, 485, 505, 525, 540, 550, 572, 595, 608, 621, 630, 638, 647, 669, 688, 703, 713, 728, 746, 761, 767, 781, 787, 803, 818, 831, 853, 874, 909, 934, 953, 974, 992, 1001, 1017, 1027, 1041, 1050, 1063, 1071, 1091, 1100, 1114, 1143, 1154, 1174, 1195, 1231, 1247, 1267, 1289, 1312, 1319, 1333, 1359]
abbrev sTm (k : Nat) : Term := .string (sown k) (sidx k)
abbrev sVal (k : Nat) : Term := .field (sTm k) "java/lang/String" "value" "[B"
abbrev SKq (k : Nat) : Prop := (flatC narrow_1)[posT.getD k 0]? = some (Cond.exactly (sTm k) "java/lang/String") ∧ (flatC narrow_1)[posT.getD k 0 + 1]? = some (Cond.eq (.field (sTm k) "java/lang/String" "coder" "B") (.int 0)) ∧ (flatC narrow_1)[posT.getD k 0 + 2]? = some (Cond.arrayOf (sVal k) .byte) ∧ (flatC narrow_1)[posT.getD k 0 + 3]? = some (Cond.eq (.length (sVal k)) (.int (Int32.ofNat (slen k)))) ∧ ∀ j, j < slen k → (flatC narrow_1)[posT.getD k 0 + 4 + j]? = some (Cond.eq (.elem (sVal k) (.int (Int32.ofNat j))) (.int (sbyt k j)))
set_option maxRecDepth 100000 in
theorem skq_0 : ∀ k, k < 12 → SKq (0 + k) := by decide +kernel
set_option maxRecDepth 100000 in
theorem skq_12 : ∀ k, k < 12 → SKq (12 + k) := by decide +kernel
set_option maxRecDepth 100000 in
theorem skq_24 : ∀ k, k < 12 → SKq (24 + k) := by decide +kernel
set_option maxRecDepth 100000 in
theorem skq_36 : ∀ k, k < 12 → SKq (36 + k) := by decide +kernel
set_option maxRecDepth 100000 in
theorem skq_48 : ∀ k, k < 12 → SKq (48 + k) := by decide +kernel
set_option maxRecDepth 100000 in
theorem skq_60 : ∀ k, k < 12 → SKq (60 + k) := by decide +kernel
set_option maxRecDepth 100000 in
theorem skq_72 : ∀ k, k < 12 → SKq (72 + k) := by decide +kernel
theorem skq (k : Nat) (hk : k < 84) : SKq k := by
  rcases (show (0 ≤ k ∧ k < 12) ∨ (12 ≤ k ∧ k < 24) ∨ (24 ≤ k ∧ k < 36) ∨ (36 ≤ k ∧ k < 48) ∨ (48 ≤ k ∧ k < 60) ∨ (60 ≤ k ∧ k < 72) ∨ (72 ≤ k ∧ k < 84) by omega) with h | h | h | h | h | h | h
  · have e : 0 + (k - 0) = k := by omega
    have q := skq_0 (k - 0) (by omega)
    rw [e] at q
    exact q
  · have e : 12 + (k - 12) = k := by omega
    have q := skq_12 (k - 12) (by omega)
    rw [e] at q
    exact q
  · have e : 24 + (k - 24) = k := by omega
    have q := skq_24 (k - 24) (by omega)
    rw [e] at q
    exact q
  · have e : 36 + (k - 36) = k := by omega
    have q := skq_36 (k - 36) (by omega)
    rw [e] at q
    exact q
  · have e : 48 + (k - 48) = k := by omega
    have q := skq_48 (k - 48) (by omega)
    rw [e] at q
    exact q
  · have e : 60 + (k - 60) = k := by omega
    have q := skq_60 (k - 60) (by omega)
    rw [e] at q
    exact q
  · have e : 72 + (k - 72) = k := by omega
    have q := skq_72 (k - 72) (by omega)
    rw [e] at q
    exact q
theorem hsN {args : Array Value} {s : State} (hgv : (Jvm.Cond.and given_1 narrow_1).before args s = true) : ∀ w ∈ flatC narrow_1, w.before args s = true := fun w h => flat_of_before _ hgv w (List.mem_append_right _ h)
theorem slenB : ∀ k, k < 84 → slen k < 2 ^ 31 := by decide
set_option maxRecDepth 100000 in
theorem strR : ∀ k, k < 84 → Cond.stringRef (sown k) (sidx k) (stxt k) ∈ tables_1 := by decide +kernel
set_option maxRecDepth 100000 in
theorem enL : ∀ i, i < stNm.length → Cond.laysStatic "RequestReader$Status" (stNm.getD i "") "LRequestReader$Status;" ∈ tables_1 := by decide +kernel
abbrev enT (i : Nat) : Term := .static "RequestReader$Status" (stNm.getD i "") "LRequestReader$Status;"
set_option maxRecDepth 100000 in
theorem enX : ∀ i, i < stNm.length → Cond.exactly (enT i) "RequestReader$Status" ∈ flatC narrow_1 := by decide +kernel
set_option maxRecDepth 100000 in
theorem enF : ∀ q ∈ stF, ∀ i, i < stNm.length → Cond.eq (.field (enT i) q.1 q.2.1 q.2.2.1) (.int (q.2.2.2.getD i 0)) ∈ flatC narrow_1 := by decide +kernel
set_option maxRecDepth 100000 in
theorem enN : ∀ i, i < stNm.length → ∀ j, j < stNm.length → i ≠ j → Cond.not (.eq (enT i) (enT j)) ∈ flatC narrow_1 ∨ Cond.not (.eq (enT j) (enT i)) ∈ flatC narrow_1 := by decide +kernel
set_option maxRecDepth 100000 in
theorem ckE : ∀ j, j < 16 → Cond.eq (.elem (.static "RequestReader$Row" "CHECK_STEPS" "[I") (.int (Int32.ofNat j))) (.int (cTab.getD j 0)) ∈ flatC narrow_1 := by decide +kernel
set_option maxRecDepth 100000 in
theorem phE : ∀ i, i < 9 → Cond.eq (.field (enT i) "RequestReader$Status" "phrase" "Ljava/lang/String;") (sTm (stPh.getD i 0)) ∈ flatC narrow_1 := by decide +kernel
theorem phL : ∀ i, i < 9 → stPh.getD i 0 < 84 := by decide
set_option maxRecDepth 100000 in
theorem nsIn : ∀ q ∈ nsT, Cond.fieldLinkNest q.1 q.2.1 q.2.2.1 q.2.2.2.1 q.2.2.2.2.1 q.2.2.2.2.2 ∈ tables_1 := by decide +kernel

