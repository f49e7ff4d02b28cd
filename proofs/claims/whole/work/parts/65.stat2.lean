set_option maxRecDepth 100000 in
set_option maxHeartbeats 4000000 in
theorem gs_of {args : Array Value} {s : State} (hts : ∀ w ∈ tables_1, w.before args s = true) (hgv : (Jvm.Cond.and given_1 narrow_1).before args s = true) (D : va_G) (cB cI : ClassId) : ∃ (K V E : Nat → Nat) (T : Nat), GS (D, (cB, cI), K, V, E, T) (fun q => s.heap.size ≤ q) s s.heap := by
  have hA : ∀ a : Nat, a < s.heap.size → ¬ (fun q => s.heap.size ≤ q) a := fun a h => Nat.not_le.mpr h
  have hq := hsN hgv
  have h0 : ∀ k : Nat, ∃ q : Nat × Nat, k < 84 → (sTm k).eval args s none [] s = some (.ref q.1) ∧ va_O "java/lang/String" q.1 (fun q => s.heap.size ≤ q) s s.heap ∧ va_OF "java/lang/String" "coder" "B" (.int 0) q.1 (fun q => s.heap.size ≤ q) s s.heap ∧ va_OF "java/lang/String" "value" "[B" (.ref q.2) q.1 (fun q => s.heap.size ≤ q) s s.heap ∧ va_T .byte q.2 (slen k) (fun j => .int (sbyt k j)) (fun q => s.heap.size ≤ q) s s.heap := by
    intro k
    by_cases hk : k < 84
    · obtain ⟨e1, e2, e3, e4, e5⟩ := skq k hk
      have e1 := hq _ (List.mem_of_getElem? e1)
      have e2 := hq _ (List.mem_of_getElem? e2)
      have e3 := hq _ (List.mem_of_getElem? e3)
      have e4 := hq _ (List.mem_of_getElem? e4)
      obtain ⟨a, c, cA, kA, q1, q2, q3, q4, q5, q6, -⟩ := Cond.exactly_spec (args := args) (first := s) (o := none) (s := s) (idx := []) (t := sTm k) (cls := "java/lang/String") e1
      obtain ⟨t, ht, hT⟩ := va_Tof (f := fun j => .int (sbyt k j)) (slenB k hk) e3 (va_eqt e4) (fun j hj => va_eqt (hq _ (List.mem_of_getElem? (e5 j hj)))) hA
      exact ⟨(a, t), fun _ => ⟨q1, ⟨cA, q3, q5, by rw [q6]; exact q2, hA a (Array.getElem?_eq_some_iff.mp q3).1⟩, vk_OFof q1 (va_eqt e2) hA, vk_OFof q1 ht hA, hT⟩⟩
    · exact ⟨(0, 0), fun h => absurd h hk⟩
  obtain ⟨ad, had⟩ := Classical.axiomOfChoice h0
  obtain ⟨E, hE, hEe⟩ := va_Enof2 (E := "RequestReader$Status") (d := "LRequestReader$Status;") (nm := stNm) (F := stF) (A := fun q => s.heap.size ≤ q) (fun i hi => hts _ (enL i hi)) (hts (.initialized "RequestReader$Status") (by decide +kernel)) (fun i hi => hq _ (enX i hi)) (fun q hm i hi => hq _ (enF q hm i hi)) (fun i j hi hj hn => (enN i hi j hj hn).imp (hq _) (hq _)) hA
  obtain ⟨T, hT1, hT2⟩ := va_Tof (tm := .static "RequestReader$Row" "CHECK_STEPS" "[I") (ty := .int) (N := 16) (f := fun j => .int (cTab.getD j 0)) (by decide) (hq _ (by decide +kernel)) (va_eqt (hq _ (by decide +kernel))) (fun j hj => va_eqt (hq _ (ckE j hj))) hA
  refine ⟨fun k => (ad k).1, fun k => (ad k).2, E, T, fun k hk => ⟨(had k hk).2.1, (had k hk).2.2.1, (had k hk).2.2.2.1, (had k hk).2.2.2.2, vk_R.of (hts _ (strR k hk)) (had k hk).1⟩, ?_, ?_, ?_, hT2, hE, fun i hi => vk_OFof (hEe i hi) (va_eqv (hq _ (phE i hi)) (had _ (phL i hi)).1) hA, fun q hm => va_Nw.of rfl (hts _ (nsIn q hm))⟩
  · exact va_Zof (hts (.laysStatic "java/lang/String" "COMPACT_STRINGS" "Z") (by decide +kernel)) (hts (.initialized "java/lang/String") (by decide +kernel)) (va_eqt (hq _ (by decide +kernel))) hA
  · exact va_Zqof (hts (.laysStatic "jdk/internal/util/Preconditions" "SIOOBE_FORMATTER" "Ljava/util/function/BiFunction;") (by decide +kernel)) (hts (.initialized "jdk/internal/util/Preconditions") (by decide +kernel)) (hq _ (by decide +kernel)) hA
  · exact va_Zref (hts (.laysStatic "RequestReader$Row" "CHECK_STEPS" "[I") (by decide +kernel)) (hts (.initialized "RequestReader$Row") (by decide +kernel)) hT1 hA
set_option maxRecDepth 100000 in
theorem inTX0 : ∀ w ∈ u_ws RX0 TX0 1, w ∈ tables_1 := by decide +kernel
set_option maxRecDepth 100000 in
theorem inTX2 : ∀ w ∈ u_ws RX2 TX2 14, w ∈ tables_1 := by decide +kernel
set_option maxRecDepth 100000 in
theorem inTX3 : ∀ w ∈ u_ws RX3 TX3 1, w ∈ tables_1 := by decide +kernel
set_option maxRecDepth 100000 in
theorem inTX4 : ∀ w ∈ u_ws RX4 TX4 3, w ∈ tables_1 := by decide +kernel
set_option maxRecDepth 100000 in
theorem inTX6 : ∀ w ∈ u_ws RX6 TX6 3, w ∈ tables_1 := by decide +kernel
set_option maxRecDepth 100000 in
theorem inTX7 : ∀ w ∈ u_ws RX7 TX7 2, w ∈ tables_1 := by decide +kernel
set_option maxRecDepth 100000 in
theorem inTX8 : ∀ w ∈ u_ws RX8 TX8 7, w ∈ tables_1 := by decide +kernel
set_option maxRecDepth 100000 in
theorem inTX9 : ∀ w ∈ u_ws RX9 TX9 39, w ∈ tables_1 := by decide +kernel
set_option maxRecDepth 100000 in
set_option maxHeartbeats 4000000 in
theorem ka_of {args : Array Value} {s : State} (hts : ∀ w ∈ tables_1, w.before args s = true) : ∃ (D : va_G) (cB cI : ClassId), ∀ (K V E : Nat → Nat) (T : Nat), va_K (gD (D, (cB, cI), K, V, E, T)) vwCl (gty (D, (cB, cI), K, V, E, T)) s := by
  obtain ⟨c0, i0, hk0⟩ := u_known (C := RX0) (T := TX0) (N := 1) (n := 1) hts inTX0 (hts (.instantiable RX0 1) (by decide +kernel))
  obtain ⟨c1, i1, hk1⟩ := u_known (C := RX2) (T := TX2) (N := 14) (n := 14) hts inTX2 (hts (.instantiable RX2 14) (by decide +kernel))
  obtain ⟨c2, i2, hk2⟩ := u_known (C := RX3) (T := TX3) (N := 1) (n := 1) hts inTX3 (hts (.instantiable RX3 1) (by decide +kernel))
  obtain ⟨c3, i3, hk3⟩ := u_known (C := RX4) (T := TX4) (N := 3) (n := 3) hts inTX4 (hts (.instantiable RX4 3) (by decide +kernel))
  obtain ⟨c4, i4, hk4⟩ := u_known (C := RX6) (T := TX6) (N := 3) (n := 3) hts inTX6 (hts (.instantiable RX6 3) (by decide +kernel))
  obtain ⟨c5, i5, hk5⟩ := u_known (C := RX7) (T := TX7) (N := 2) (n := 2) hts inTX7 (hts (.instantiable RX7 2) (by decide +kernel))
  obtain ⟨c6, i6, hk6⟩ := u_known (C := RX8) (T := TX8) (N := 7) (n := 7) hts inTX8 (hts (.instantiable RX8 7) (by decide +kernel))
  obtain ⟨c7, i7, hk7⟩ := u_known (C := RX9) (T := TX9) (N := 39) (n := 39) hts inTX9 (hts (.instantiable RX9 39) (by decide +kernel))
  obtain ⟨cB, kB, pB, b1, b2, b3⟩ := Cond.arrayClass_spec (hts (.arrayClass .byte) (by decide +kernel))
  obtain ⟨cI, kI, pI, d1, d2, d3⟩ := Cond.arrayClass_spec (hts (.arrayClass .int) (by decide +kernel))
  refine ⟨(fun k => [c0, c1, c2, c3, c4, c5, c6, c7].getD k c0, fun k => [i0, i1, i2, i3, i4, i5, i6, i7].getD k i0), cB, cI, fun K V E T => ⟨?_, ?_⟩⟩
  · intro k q hq
    match k, hq with
    | 0, hq => cases hq; exact hk0
    | 1, hq => cases hq; exact hk1
    | 2, hq => cases hq; exact hk2
    | 3, hq => cases hq; exact hk3
    | 4, hq => cases hq; exact hk4
    | 5, hq => cases hq; exact hk5
    | 6, hq => cases hq; exact hk6
    | 7, hq => cases hq; exact hk7
    | k + 8, hq => exact absurd hq (by simp [vwCl])
  · intro k q hq
    match k, hq with
    | 0, hq => cases hq; exact ⟨fun n z => ⟨fun k h => (by cases h), kB, b2, pB, b3⟩, b1⟩
    | 1, hq => cases hq; exact ⟨fun n z => ⟨fun k h => (by cases h), kI, d2, pI, d3⟩, d1⟩
    | k + 2, hq => exact absurd hq (by simp [gty])

