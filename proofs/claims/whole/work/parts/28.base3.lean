/-- what a heap has grown by: cells, and their slots; the old cells keep their sizes -/
def Grow (H0 H : Heap) (dc ds : Nat) : Prop := H0.size ≤ H.size ∧ H.size ≤ H0.size + dc ∧ ((H.toList.drop H0.size).map (·.slots.size)).sum ≤ ds ∧ ∀ (a : Nat) (c : Cell), H0[a]? = some c → ∃ c' : Cell, H[a]? = some c' ∧ c'.slots.size = c.slots.size
theorem Grow.of {p : Program} {l : Launch} {e : Env} {R : Room} {s : State} {m : MethodId} {args : Array Value} {below : List Frame} {meth : Method} {c : Code} {T : State} {locs : List Loc} {cells slots : Nat} (X : Stand p l e R s m args below meth c T locs cells slots) : Grow s.heap T.heap cells slots := by
  obtain ⟨-, h1, h2, -, h4, h5⟩ := X.same
  refine ⟨h1, h2, h4, fun a c ha => ?_⟩
  obtain ⟨c', g1, -, g3, -⟩ := h5 a c ha
  exact ⟨c', g1, g3⟩
def CPost2 (g : GT) (ws0 : va_W) (sz : Nat) (post : Option Value → va_W → Nat → Nat → Prop) : Array Value → State → Outcome → State → Prop := fun _ st oc t => (∃ (r : Option Value) (w : va_W) (dc ds : Nat), oc = .returned r ∧ post r w dc ds ∧ Grow st.heap t.heap dc ds ∧ va_P (gD g) vwCl w t.heap ∧ va_K (gD g) vwCl (gty g) t ∧ va_D (va_A ws0 sz) w) ∧ va_F (va_A ws0 sz) st t
def CT2 (l : Launch) (g : GT) (y : MethodName) (wsM : List Cond) (rm : Room) (av : List Value) (ws0 : va_W) (post : Option Value → va_W → Nat → Nat → Prop) (mc ms : Nat) : Prop := ∀ sz : Nat, Met l y wsM rm (CPre g av ws0 sz) (CPost2 g ws0 sz post) mc ms (va_A ws0 sz)
def QM2 (g : GT) (ws0 : va_W) (post : Option Value → va_W → Nat → Nat → Prop) (args : Array Value) (below : List Frame) (s : State) (mc ms : Nat) : State → Prop := MQ below (CPost2 g ws0 s.heap.size post) args s mc ms (va_A ws0 s.heap.size)
theorem ct_of2 {l : Launch} {g : GT} {y : MethodName} {wsM ws' : List Cond} {rm : Room} {av : List Value} {ws0 : va_W} {post : Option Value → va_W → Nat → Nat → Prop} {mc ms : Nat} {cc : ByteArray} {maxL : Nat} {ret : Option FieldType} (hy : plainName y.cls = true) (hw : wsM = Cond.code y cc maxL ret :: ws') (hmax : (lg_sl av).length ≤ maxL)
    (body : ∀ (p : Program) (e : Env) (s : State) (m : MethodId) (args : Array Value) (below : List Frame) (meth : Method) (c : Code) (A : Nat → Prop) (Q : State → Prop), p.tables.exec = Jvm.exec → c.code = cc → meth.sig.returnType = ret → c.maxLocals = maxL → s.vm.findClass y.cls = some m.cls → (∀ w ∈ wsM, w.before args s = true) → meth.locks = false → meth.name = y.name → va_A ws0 s.heap.size = A → Q = QM2 g ws0 post args below s mc ms → (∀ q : Nat, s.heap.size ≤ q → A q) → GS g A s s.heap → va_K (gD g) vwCl (gty g) s → va_P (gD g) vwCl ws0 s.heap → va_D A ws0 → va_S A s.heap s.heap [] → ∀ ls : Array Slot, lv_has ls maxL (lv_args 0 av) → W p l e rm s m args below meth c s.heap [] 0 0 Q (F0 m 0 ls [])) : CT2 l g y wsM rm av ws0 post mc ms := by
  intro sz
  refine Met.ofW (cc := cc) (maxL := maxL) (ret := ret) hy hw ?_
  intro p e s m args below meth c s₁ B hml hv
  obtain ⟨rfl, hsz, hP, hK, hD0, hG⟩ := hv
  subst hsz
  have hl := lv_entry av (n := maxL) hmax
  rw [lg_entry_eq]
  exact body p e s m av.toArray below meth c _ _ B.exec B.bytes B.returns hml (findClass_of_methodNamed B.named) (atoms_spec (ws := wsM) B.pre) B.notSynchronized (name_of_methodNamed B.named B.method).1 rfl rfl (fun q h => Or.inr h) hG hK hP hD0.self va_S.rf _ hl
theorem ct2_iret {p : Program} {l : Launch} {e : Env} {R : Room} {s : State} {m : MethodId} {args : Array Value} {below : List Frame} {meth : Method} {c : Code} {H : Heap} {locs : List Loc} {cells slots : Nat} {Q : State → Prop} {cc : ByteArray} {pc : Nat} {ls : Array Slot} {g : GT} {A : Nat → Prop} {ws0 w : va_W} {post : Option Value → va_W → Nat → Nat → Prop} {mc ms : Nat} {v : Int32} {ty : FieldType} (dc ds : Nat) (hx : p.tables.exec = Jvm.exec) (hb : c.code = cc) (hr : meth.sig.returnType = some ty) (hn : narrow ty (.int v) = .int v) (hlocks : meth.locks = false) (hQ : Q = QM2 g ws0 post args below s mc ms) (hAe : va_A ws0 s.heap.size = A) (hK : va_K (gD g) vwCl (gty g) s) (hP : va_P (gD g) vwCl w H) (hD : va_D A w) (hS : va_S A s.heap H locs) (hdc : cells ≤ dc) (hds : slots ≤ ds) (hc : dc ≤ mc) (hs : ds ≤ ms) (hdg : decode cc pc = .ok (.ireturn, 1)) (hp : post (some (.int v)) w dc ds) : W p l e R s m args below meth c H locs cells slots Q (F0 m pc ls [.int v]) := by
  subst hQ; subst hAe
  refine W.widen hdc hds ?_
  intro T hT X
  have hG := Grow.of X
  rw [hT] at hG
  exact (W.widen hc hs (W.zret hx hb hr hn (fun t ht hW => ⟨⟨some (.int v), w, dc, ds, rfl, hp, by rw [ht]; exact hG, by rw [ht]; exact hP, va_K.moved hW.alike hK, hD⟩, hS.F ht⟩) hS.2.2 hdg hlocks)) T hT X
theorem Grow.sum {H0 H H1 : Heap} {n dc ds : Nat} (hn : n ≤ H.size) (h : Grow H H1 dc ds) : ((H1.toList.drop n).map (·.slots.size)).sum ≤ ((H.toList.drop n).map (·.slots.size)).sum + ds := by
  obtain ⟨h1, h2, h3, h4⟩ := h
  have e : H1.toList.map (·.slots.size) = H.toList.map (·.slots.size) ++ (H1.toList.drop H.size).map (·.slots.size) := by
    apply List.ext_getElem?
    intro i
    rcases Nat.lt_or_ge i H.size with z | z
    · rw [List.getElem?_append_left (by simpa using z), List.getElem?_map, List.getElem?_map]
      obtain ⟨c', g1, g2⟩ := h4 i H[i] (Array.getElem?_eq_getElem z)
      rw [Array.getElem?_toList, Array.getElem?_toList, g1, Array.getElem?_eq_getElem z]
      simp [g2]
    · rw [List.getElem?_append_right (by simpa using z), List.getElem?_map, List.getElem?_map, List.getElem?_drop]
      congr 2
      simp
      omega
  have e2 : (H1.toList.drop n).map (·.slots.size) = (H.toList.drop n).map (·.slots.size) ++ (H1.toList.drop H.size).map (·.slots.size) := by
    rw [List.map_drop, e, List.drop_append_of_le_length (by simpa using hn), ← List.map_drop]
  rw [e2, List.sum_append]
  omega
section CAL2
variable {p : Program} {l : Launch} {e : Env} {R : Room} {s : State} {m : MethodId} {args : Array Value} {below : List Frame} {meth : Method} {c : Code} {H : Heap} {locs : List Loc} {cells slots : Nat} {Q : State → Prop}
variable {cc bytes : ByteArray} {pc nL maxL index n mc ms : Nat} {ls : Array Slot} {g : GT} {A : Nat → Prop} {ws wc wr : va_W} {post : Option Value → va_W → Nat → Nat → Prop} {Ts wsM : List Cond} {own C : String} {y : MethodName} {rm : Room} {ret : Option FieldType} {As rest st0 : List Value} {b : Nat} {a : Array Value}
theorem ct2_callV (hx : p.tables.exec = Jvm.exec) (hb : c.code = cc) (hml : c.maxLocals = nL) (hown : s.vm.findClass own = some m.cls) (hts : ∀ w ∈ Ts, w.before args s = true) (hK : va_K (gD g) vwCl (gty g) s) (hP : va_P (gD g) vwCl ws H) (hD : va_D A ws) (hS : va_S A s.heap H locs) (hA : ∀ q : Nat, s.heap.size ≤ q → A q) (hG : GS g A s s.heap) (hsize : ls.size = nL)
    (hC : CT2 l g y wsM rm (.ref b :: As) wc post mc ms) (cw : CallW R s args own C index y bytes maxL ret wsM rm mc ms n) (hrecv : ∃ cell : Cell, H[b]? = some cell ∧ cell.vm.isStatics = false ∧ s.vm.findClass C = some cell.cls) (hnA : As.length = n) (hst : st0 = As.reverse ++ .ref b :: rest) (hroom : (rest.map fun v => v.category).sum ≤ 8) (hdg : decode cc pc = .ok (.invokevirtual index, 3)) (hf : cells + mc ≤ R.cells ∧ slots + ms ≤ R.slots) (isC isR : List Nat) (hCe : isC.map (fun i => ws[i]?) = wc.map some) (hRe : isR.map (fun i => ws[i]?) = wr.map some) (hn1 : va_nd isC = true) (hn : va_nd isR = true) (hdis : ∀ i ∈ isR, i ∉ isC)
    (kk : ∀ (r : Option Value) (w : va_W) (dc ds : Nat) (H1 : Heap) (locs1 : List Loc), post r w dc ds → va_P (gD g) vwCl (wr ++ w) H1 → va_D A (wr ++ w) → va_S A s.heap H1 locs1 → W p l e R s m args below meth c H1 locs1 (cells + dc) (slots + ds) Q (F0 m (pc + 3) ls (r.toList ++ rest))) : W p l e R s m args below meth c H locs cells slots Q (F0 m pc ls st0) := by
  have hF := va_free hD hS hA isC hCe
  have hr := va_runV (H := H) (locs := locs) (cells := cells) (slots := slots) (below := below) (meth := meth) (e := e) (g := F0 m pc ls st0) ⟨hx, hb, hml, hown, hts⟩ (hC H.size) cw ⟨CPre.blind, hrecv, ct_pre hK hP hD hS hA hG isC hCe hn1 _⟩ rfl hnA hsize hst (lv_room hroom) hdg hf
  intro T hT X
  obtain ⟨v, st₀, t, T', L, h0, X', hL, e1, e2, ⟨⟨r, w, dc, ds, hv, hp, hGr, hP1, hK1, hD1⟩, hz, hk⟩, st⟩ := hr T hT X
  cases hv
  rw [h0] at hz hk hGr
  rw [← e1] at hP1 hz hGr
  have hk1 : ∀ q : Nat, q < H.size → ¬ va_A wc H.size q → T'.heap[q]? = H[q]? := fun q h1 h2 => by rw [e1]; exact hk q h1 h2
  obtain ⟨hP2, hD2⟩ := va_join (wr := wr) hP hD isC isR hCe hRe hn hdis hk1 hF hP1 hD1
  have hs1 := X.same
  have X2 : Stand p l e R s m args below meth c T' (locs ++ L) (cells + dc) (slots + ds) := by
    refine { X' with same := ?_ }
    obtain ⟨a1, a2, a3, a4, a5, a6⟩ := X'.same
    obtain ⟨b1, b2, b3, b4, b5, b6⟩ := hs1
    have hTH : T.heap = H := hT
    refine ⟨a1, a2, ?_, a4, ?_, a6⟩
    · have b3' : H.size ≤ s.heap.size + cells := by rw [← hTH]; exact b3
      have q2 := hGr.2.1
      show T'.heap.size ≤ _
      omega
    · have b5' : ((H.toList.drop s.heap.size).map (·.slots.size)).sum ≤ slots := by rw [← hTH]; exact b5
      have q := Grow.sum (H0 := H) (n := s.heap.size) hS.1 hGr
      show ((T'.heap.toList.drop s.heap.size).map (·.slots.size)).sum ≤ _
      omega
  obtain ⟨t2, a1, b1⟩ := kk v w dc ds T'.heap (locs ++ L) hp hP2 hD2
    ⟨Nat.le_trans hS.1 hz, fun q h1 h2 => (hk1 q (Nat.lt_of_lt_of_le h1 hS.1) (fun z => h2 (hF q z))).trans (hS.2.1 q h1 h2), fun q hq => by
      rcases List.mem_append.mp hq with h | h
      · exact hS.2.2 q h
      · exact hF _ (hL q h)⟩ T' rfl X2
  exact ⟨t2, st t2 a1, b1⟩
end CAL2
