def sTab : List (String × Nat × String × List Int32) := [
  ("RequestReader$Path", 13, "index.html", [105, 110, 100, 101, 120, 46, 104, 116, 109, 108]),
  ("RequestReader$Store", 47, "STOR", [83, 84, 79, 82]),
  ("RequestReader$Head", 80, "HTTP/1.1", [72, 84, 84, 80, 47, 49, 46, 49]),
  ("RequestReader$Head", 86, "HTTP/1.0", [72, 84, 84, 80, 47, 49, 46, 48]),
  ("RequestReader$Head", 96, "HEAD", [72, 69, 65, 68]),
  ("RequestReader$Head", 98, "GET", [71, 69, 84]),
  ("RequestReader$Codes", 21, "-_.!#$%&'*+^`|~", [45, 95, 46, 33, 35, 36, 37, 38, 39, 42, 43, 94, 96, 124, 126]),
  ("RequestReader$Head", 122, "host", [104, 111, 115, 116]),
  ("RequestReader$Head", 127, "transfer-encoding", [116, 114, 97, 110, 115, 102, 101, 114, 45, 101, 110, 99, 111, 100, 105, 110, 103]),
  ("RequestReader$Head", 129, "content-length", [99, 111, 110, 116, 101, 110, 116, 45, 108, 101, 110, 103, 116, 104]),
  ("RequestReader$Head", 135, "if-none-match", [105, 102, 45, 110, 111, 110, 101, 45, 109, 97, 116, 99, 104]),
  ("RequestReader$Head", 137, "connection", [99, 111, 110, 110, 101, 99, 116, 105, 111, 110]),
  ("RequestReader$Head", 145, "close", [99, 108, 111, 115, 101]),
  ("RequestReader$Head", 147, "keep-alive", [107, 101, 101, 112, 45, 97, 108, 105, 118, 101]),
  ("RequestReader$Path", 52, "/", [47]),
  ("RequestReader$Codes", 29, "0123456789abcdef", [48, 49, 50, 51, 52, 53, 54, 55, 56, 57, 97, 98, 99, 100, 101, 102]),
  ("RequestReader$Head", 171, "*", [42]),
  ("RequestReader$Path", 65, ".html", [46, 104, 116, 109, 108]),
  ("RequestReader$Path", 67, "text/html", [116, 101, 120, 116, 47, 104, 116, 109, 108]),
  ("RequestReader$Path", 69, ".css", [46, 99, 115, 115]),
  ("RequestReader$Path", 71, "text/css", [116, 101, 120, 116, 47, 99, 115, 115]),
  ("RequestReader$Path", 73, ".js", [46, 106, 115]),
  ("RequestReader$Path", 75, "text/javascript", [116, 101, 120, 116, 47, 106, 97, 118, 97, 115, 99, 114, 105, 112, 116]),
  ("RequestReader$Path", 77, ".txt", [46, 116, 120, 116]),
  ("RequestReader$Path", 79, "text/plain", [116, 101, 120, 116, 47, 112, 108, 97, 105, 110]),
  ("RequestReader$Path", 81, ".png", [46, 112, 110, 103]),
  ("RequestReader$Path", 83, "image/png", [105, 109, 97, 103, 101, 47, 112, 110, 103]),
  ("RequestReader$Path", 85, "application/octet-stream", [97, 112, 112, 108, 105, 99, 97, 116, 105, 111, 110, 47, 111, 99, 116, 101, 116, 45, 115, 116, 114, 101, 97, 109]),
  ("RequestReader$Answer", 24, "HTTP/1.1 ", [72, 84, 84, 80, 47, 49, 46, 49, 32]),
  ("RequestReader$Answer", 34, "\r\n", [13, 10]),
  ("RequestReader$Answer", 100, "Content-Length: ", [67, 111, 110, 116, 101, 110, 116, 45, 76, 101, 110, 103, 116, 104, 58, 32]),
  ("RequestReader$Answer", 102, "\r\nContent-Type: ", [13, 10, 67, 111, 110, 116, 101, 110, 116, 45, 84, 121, 112, 101, 58, 32]),
  ("RequestReader$Answer", 65, "text/plain", [116, 101, 120, 116, 47, 112, 108, 97, 105, 110]),
  ("RequestReader$Answer", 104, "ETag: ", [69, 84, 97, 103, 58, 32]),
  ("RequestReader$Answer", 76, "Allow: GET, HEAD\r\n", [65, 108, 108, 111, 119, 58, 32, 71, 69, 84, 44, 32, 72, 69, 65, 68, 13, 10]),
  ("RequestReader$Answer", 78, "Connection: close\r\n", [67, 111, 110, 110, 101, 99, 116, 105, 111, 110, 58, 32, 99, 108, 111, 115, 101, 13, 10]),
  ("RequestReaderModel", 173, "HTTP/1.0", [72, 84, 84, 80, 47, 49, 46, 48]),
  ("RequestReaderModel", 179, "HTTP/1.1", [72, 84, 84, 80, 47, 49, 46, 49]),
  ("RequestReaderModel", 181, "HEAD", [72, 69, 65, 68]),
  ("RequestReaderModel", 183, "GET", [71, 69, 84]),
  ("RequestReaderModel", 215, "host", [104, 111, 115, 116]),
  ("RequestReaderModel", 220, "transfer-encoding", [116, 114, 97, 110, 115, 102, 101, 114, 45, 101, 110, 99, 111, 100, 105, 110, 103]),
  ("RequestReaderModel", 222, "content-length", [99, 111, 110, 116, 101, 110, 116, 45, 108, 101, 110, 103, 116, 104]),
  ("RequestReaderModel", 228, "connection", [99, 111, 110, 110, 101, 99, 116, 105, 111, 110]),
  ("RequestReaderModel", 242, "close", [99, 108, 111, 115, 101]),
  ("RequestReaderModel", 243, "keep-alive", [107, 101, 101, 112, 45, 97, 108, 105, 118, 101]),
  ("RequestReaderModel", 233, "if-none-match", [105, 102, 45, 110, 111, 110, 101, 45, 109, 97, 116, 99, 104]),
  ("RequestReaderModel", 261, "index.html", [105, 110, 100, 101, 120, 46, 104, 116, 109, 108]),
  ("RequestReaderModel", 263, "*", [42]),
  ("RequestReaderModel", 315, "HTTP/1.1 ", [72, 84, 84, 80, 47, 49, 46, 49, 32]),
  ("RequestReaderModel", 271, "OK", [79, 75]),
  ("RequestReaderModel", 273, "Not Modified", [78, 111, 116, 32, 77, 111, 100, 105, 102, 105, 101, 100]),
  ("RequestReaderModel", 275, "Bad Request", [66, 97, 100, 32, 82, 101, 113, 117, 101, 115, 116]),
  ("RequestReaderModel", 277, "Not Found", [78, 111, 116, 32, 70, 111, 117, 110, 100]),
  ("RequestReaderModel", 279, "Method Not Allowed", [77, 101, 116, 104, 111, 100, 32, 78, 111, 116, 32, 65, 108, 108, 111, 119, 101, 100]),
  ("RequestReaderModel", 281, "Content Too Large", [67, 111, 110, 116, 101, 110, 116, 32, 84, 111, 111, 32, 76, 97, 114, 103, 101]),
  ("RequestReaderModel", 283, "Request Header Fields Too Large", [82, 101, 113, 117, 101, 115, 116, 32, 72, 101, 97, 100, 101, 114, 32, 70, 105, 101, 108, 100, 115, 32, 84, 111, 111, 32, 76, 97, 114, 103, 101]),
  ("RequestReaderModel", 285, "Internal Server Error", [73, 110, 116, 101, 114, 110, 97, 108, 32, 83, 101, 114, 118, 101, 114, 32, 69, 114, 114, 111, 114]),
  ("RequestReaderModel", 287, "Not Implemented", [78, 111, 116, 32, 73, 109, 112, 108, 101, 109, 101, 110, 116, 101, 100]),
  ("RequestReaderModel", 331, "Content-Length: ", [67, 111, 110, 116, 101, 110, 116, 45, 76, 101, 110, 103, 116, 104, 58, 32]),
  ("RequestReaderModel", 333, "Content-Type: ", [67, 111, 110, 116, 101, 110, 116, 45, 84, 121, 112, 101, 58, 32]),
  ("RequestReaderModel", 289, ".txt", [46, 116, 120, 116]),
  ("RequestReaderModel", 295, "text/plain", [116, 101, 120, 116, 47, 112, 108, 97, 105, 110]),
  ("RequestReaderModel", 297, ".html", [46, 104, 116, 109, 108]),
  ("RequestReaderModel", 299, "text/html", [116, 101, 120, 116, 47, 104, 116, 109, 108]),
  ("RequestReaderModel", 301, ".css", [46, 99, 115, 115]),
  ("RequestReaderModel", 303, "text/css", [116, 101, 120, 116, 47, 99, 115, 115]),
  ("RequestReaderModel", 305, ".js", [46, 106, 115]),
  ("RequestReaderModel", 307, "text/javascript", [116, 101, 120, 116, 47, 106, 97, 118, 97, 115, 99, 114, 105, 112, 116]),
  ("RequestReaderModel", 309, ".png", [46, 112, 110, 103]),
  ("RequestReaderModel", 311, "image/png", [105, 109, 97, 103, 101, 47, 112, 110, 103]),
  ("RequestReaderModel", 313, "application/octet-stream", [97, 112, 112, 108, 105, 99, 97, 116, 105, 111, 110, 47, 111, 99, 116, 101, 116, 45, 115, 116, 114, 101, 97, 109]),
  ("RequestReaderModel", 338, "ETag: \"", [69, 84, 97, 103, 58, 32, 34]),
  ("RequestReaderModel", 340, "Allow: GET, HEAD", [65, 108, 108, 111, 119, 58, 32, 71, 69, 84, 44, 32, 72, 69, 65, 68]),
  ("RequestReaderModel", 342, "Connection: close", [67, 111, 110, 110, 101, 99, 116, 105, 111, 110, 58, 32, 99, 108, 111, 115, 101]),
  ("RequestReader$Status", 85, "Request Header Fields Too Large", [82, 101, 113, 117, 101, 115, 116, 32, 72, 101, 97, 100, 101, 114, 32, 70, 105, 101, 108, 100, 115, 32, 84, 111, 111, 32, 76, 97, 114, 103, 101]),
  ("RequestReader$Status", 73, "Bad Request", [66, 97, 100, 32, 82, 101, 113, 117, 101, 115, 116]),
  ("RequestReader$Status", 91, "Not Implemented", [78, 111, 116, 32, 73, 109, 112, 108, 101, 109, 101, 110, 116, 101, 100]),
  ("RequestReader$Status", 82, "Content Too Large", [67, 111, 110, 116, 101, 110, 116, 32, 84, 111, 111, 32, 76, 97, 114, 103, 101]),
  ("RequestReader$Status", 79, "Method Not Allowed", [77, 101, 116, 104, 111, 100, 32, 78, 111, 116, 32, 65, 108, 108, 111, 119, 101, 100]),
  ("RequestReader$Status", 65, "OK", [79, 75]),
  ("RequestReader$Status", 76, "Not Found", [78, 111, 116, 32, 70, 111, 117, 110, 100]),
  ("RequestReader$Status", 88, "Internal Server Error", [73, 110, 116, 101, 114, 110, 97, 108, 32, 83, 101, 114, 118, 101, 114, 32, 69, 114, 114, 111, 114]),
  ("RequestReader$Status", 70, "Not Modified", [78, 111, 116, 32, 77, 111, 100, 105, 102, 105, 101, 100])]
def nsT : List (String × Nat × String × String × String × String) := [("RequestReader$Answer", 80, "RequestReader$Store", "image", "LRequestReader$Row;", "RequestReader"), ("RequestReader", 78, "RequestReader$Store", "image", "LRequestReader$Row;", "RequestReader"), ("RequestReader", 84, "RequestReader$Store", "isOpen", "Z", "RequestReader"), ("RequestReader", 88, "RequestReader$Stream", "bytes", "LRequestReader$Row;", "RequestReader"), ("RequestReader", 149, "RequestReader$Stream", "toLeaveOut", "I", "RequestReader"), ("RequestReader", 133, "RequestReader$Head", "method", "I", "RequestReader"), ("RequestReader", 165, "RequestReader$Head", "targetStart", "I", "RequestReader"), ("RequestReader", 168, "RequestReader$Head", "targetEnd", "I", "RequestReader"), ("RequestReader", 146, "RequestReader$Head", "bodySize", "I", "RequestReader"), ("RequestReader", 177, "RequestReader$Path", "name", "LRequestReader$Row;", "RequestReader"), ("RequestReader", 152, "RequestReader$Answer", "bytes", "LRequestReader$Row;", "RequestReader"), ("RequestReader", 118, "RequestReader$Status", "closes", "Z", "RequestReader"), ("RequestReader$Answer", 93, "RequestReader$Status", "number", "I", "RequestReader"), ("RequestReader$Answer", 55, "RequestReader$Status", "phrase", "Ljava/lang/String;", "RequestReader"), ("RequestReader", 143, "RequestReader$Status", "leavesBodyOut", "Z", "RequestReader")]
def cTab : List Int32 := [0, 498536548, 997073096, 651767980, 1994146192, 1802195444, 1303535960, 1342533948, -306674912, -267414716, -690576408, -882789492, -1687895376, -2032938284, -1609899400, -1111625188]

def slen (k : Nat) : Nat := (sTab.getD k ("", 0, "", [])).2.2.2.length
def sbyt (k j : Nat) : Int32 := (sTab.getD k ("", 0, "", [])).2.2.2.getD j 0
def sown (k : Nat) : String := (sTab.getD k ("", 0, "", [])).1
def sidx (k : Nat) : Nat := (sTab.getD k ("", 0, "", [])).2.1
def stxt (k : Nat) : String := (sTab.getD k ("", 0, "", [])).2.2.1
def stNm : List String := ["OK", "NOT_MODIFIED", "BAD_REQUEST", "NOT_FOUND", "METHOD_NOT_ALLOWED", "BODY_TOO_LARGE", "HEAD_TOO_LARGE", "BROKEN_FILE", "NOT_IMPLEMENTED"]
def stF : List (String × String × String × List Int32) := [("RequestReader$Status", "number", "I", [200, 304, 400, 404, 405, 413, 431, 500, 501]), ("RequestReader$Status", "closes", "Z", [0, 0, 1, 0, 0, 1, 1, 1, 1]), ("RequestReader$Status", "leavesBodyOut", "Z", [1, 1, 0, 1, 1, 0, 0, 1, 0])]
def stPh : List Nat := [80, 83, 76, 81, 79, 78, 75, 82, 77]
/-- what the whole system is given: classes, array classes, strings, enum constants, the check table -/
abbrev GT : Type := va_G × (ClassId × ClassId) × (Nat → Nat) × (Nat → Nat) × (Nat → Nat) × Nat
def gD (g : GT) : va_G := g.1
def gB (g : GT) : ClassId := g.2.1.1
def gI (g : GT) : ClassId := g.2.1.2
def gK (g : GT) : Nat → Nat := g.2.2.1
def gV (g : GT) : Nat → Nat := g.2.2.2.1
def gE (g : GT) : Nat → Nat := g.2.2.2.2.1
def gT (g : GT) : Nat := g.2.2.2.2.2
def gty (g : GT) : List (ClassId × FieldType) := [(gB g, .byte), (gI g, .int)]
/-- string constant k -/
def SKat (g : GT) (A : Nat → Prop) (U : State) (H : Heap) (k : Nat) : Prop := va_O "java/lang/String" (gK g k) A U H ∧ va_OF "java/lang/String" "coder" "B" (.int 0) (gK g k) A U H ∧ va_OF "java/lang/String" "value" "[B" (.ref (gV g k)) (gK g k) A U H ∧ va_T .byte (gV g k) (slen k) (fun j => .int (sbyt k j)) A U H ∧ vk_R (sown k) (sidx k) (stxt k) (gK g k) U
/-- all that is static -/
def GS (g : GT) (A : Nat → Prop) (U : State) (H : Heap) : Prop :=
  (∀ k, k < 84 → SKat g A U H k) ∧ va_Z "java/lang/String" "COMPACT_STRINGS" "Z" (.int 1) A U H ∧ va_Zq "jdk/internal/util/Preconditions" "SIOOBE_FORMATTER" "Ljava/util/function/BiFunction;" A U H ∧ va_Z "RequestReader$Row" "CHECK_STEPS" "[I" (.ref (gT g)) A U H ∧ va_T .int (gT g) 16 (fun j => .int (cTab.getD j 0)) A U H ∧ va_En "RequestReader$Status" "LRequestReader$Status;" stNm stF (gE g) A U H ∧ (∀ i, i < 9 → va_OF "RequestReader$Status" "phrase" "Ljava/lang/String;" (.ref (gK g (stPh.getD i 0))) (gE g i) A U H) ∧ (∀ q ∈ nsT, va_Nw (.fieldLinkNest q.1 q.2.1 q.2.2.1 q.2.2.2.1 q.2.2.2.2.1 q.2.2.2.2.2) U)
theorem GS.step {g : GT} {A B : Nat → Prop} {u U : State} {H H1 : Heap} (hW : u.WarmedH U.vm) (hq : ∀ a : Nat, a < H.size → ¬ A a → H1[a]? = H[a]?) (hAB : ∀ q, B q → A q) (h : GS g A u H) : GS g B U H1 := by
  obtain ⟨h1, h2, h3, h4, h5, h6, h7, h8⟩ := h
  refine ⟨fun k hk => ?_, ((h2.moved hW.alike).kept hq).narrow hAB, ((h3.moved hW.alike).kept hq).narrow hAB, ((h4.moved hW.alike).kept hq).narrow hAB, ((h5.moved hW.alike).kept hq).narrow hAB, ((h6.moved hW.alike).kept hq).narrow hAB, fun i hi => (((h7 i hi).moved hW.alike).kept hq).narrow hAB, fun q hq => va_Nw.warmF hW (h8 q hq)⟩
  obtain ⟨a1, a2, a3, a4, a5⟩ := h1 k hk
  exact ⟨((a1.moved hW.alike).kept hq).narrow hAB, ((a2.moved hW.alike).kept hq).narrow hAB, ((a3.moved hW.alike).kept hq).narrow hAB, ((a4.moved hW.alike).kept hq).narrow hAB, a5.warm hW⟩
theorem GS.same {g : GT} {A : Nat → Prop} {u U : State} (hv : U.vm = u.vm) (hh : U.heap = u.heap) (h : GS g A u u.heap) : GS g A U U.heap := by
  rw [hh]
  have hvm : u.vm.Alike U.vm := by rw [hv]; exact Vm.Alike.refl _
  obtain ⟨h1, h2, h3, h4, h5, h6, h7, h8⟩ := h
  refine ⟨fun k hk => ?_, h2.moved hvm, h3.moved hvm, h4.moved hvm, h5.moved hvm, h6.moved hvm, fun i hi => (h7 i hi).moved hvm, fun q hq => va_Nw.same rfl hv.symm (h8 q hq)⟩
  obtain ⟨a1, a2, a3, a4, a5⟩ := h1 k hk
  exact ⟨a1.moved hvm, a2.moved hvm, a3.moved hvm, a4.moved hvm, a5.same hv⟩
/-- a contract's start: the arguments, the world, the static things -/
def CPre (g : GT) (av : List Value) (ws0 : va_W) (sz : Nat) : Array Value → State → Prop := va_Pc av (fun U => U.heap.size = sz ∧ va_P (gD g) vwCl ws0 U.heap ∧ va_K (gD g) vwCl (gty g) U ∧ va_D (fun _ => True) ws0 ∧ GS g (va_A ws0 sz) U U.heap)
def CPost (g : GT) (ws0 : va_W) (sz : Nat) (post : Option Value → va_W → Prop) : Array Value → State → Outcome → State → Prop := fun _ st oc t => (∃ (r : Option Value) (w : va_W), oc = .returned r ∧ post r w ∧ va_P (gD g) vwCl w t.heap ∧ va_K (gD g) vwCl (gty g) t ∧ va_D (va_A ws0 sz) w) ∧ va_F (va_A ws0 sz) st t
/-- THE CONTRACT: from the world ws0 with the arguments av the method returns; its answer and the world behind it are as post says -/
def CT (l : Launch) (g : GT) (y : MethodName) (wsM : List Cond) (rm : Room) (av : List Value) (ws0 : va_W) (post : Option Value → va_W → Prop) (mc ms : Nat) : Prop := ∀ sz : Nat, Met l y wsM rm (CPre g av ws0 sz) (CPost g ws0 sz post) mc ms (va_A ws0 sz)
def QM (g : GT) (ws0 : va_W) (post : Option Value → va_W → Prop) (args : Array Value) (below : List Frame) (s : State) (mc ms : Nat) : State → Prop := MQ below (CPost g ws0 s.heap.size post) args s mc ms (va_A ws0 s.heap.size)
theorem CPre.blind {g : GT} {av : List Value} {ws0 : va_W} {sz : Nat} : FrameBlind (CPre g av ws0 sz) := by
  intro a U f mk q
  obtain ⟨q0, q1, qP, qK, qD, qG⟩ := q
  exact ⟨q0, q1, qP, va_K.moved (u := U) (U := U.calling f mk a) (Vm.Alike.refl U.vm) qK, qD, qG.same rfl rfl⟩
theorem ct_of {l : Launch} {g : GT} {y : MethodName} {wsM ws' : List Cond} {rm : Room} {av : List Value} {ws0 : va_W} {post : Option Value → va_W → Prop} {mc ms : Nat} {cc : ByteArray} {maxL : Nat} {ret : Option FieldType} (hy : plainName y.cls = true) (hw : wsM = Cond.code y cc maxL ret :: ws') (hmax : (lg_sl av).length ≤ maxL)
    (body : ∀ (p : Program) (e : Env) (s : State) (m : MethodId) (args : Array Value) (below : List Frame) (meth : Method) (c : Code) (A : Nat → Prop) (Q : State → Prop), p.tables.exec = Jvm.exec → c.code = cc → meth.sig.returnType = ret → c.maxLocals = maxL → s.vm.findClass y.cls = some m.cls → (∀ w ∈ wsM, w.before args s = true) → meth.locks = false → meth.name = y.name → va_A ws0 s.heap.size = A → Q = QM g ws0 post args below s mc ms → (∀ q : Nat, s.heap.size ≤ q → A q) → GS g A s s.heap → va_K (gD g) vwCl (gty g) s → va_P (gD g) vwCl ws0 s.heap → va_D A ws0 → va_S A s.heap s.heap [] → ∀ ls : Array Slot, lv_has ls maxL (lv_args 0 av) → W p l e rm s m args below meth c s.heap [] 0 0 Q (F0 m 0 ls [])) : CT l g y wsM rm av ws0 post mc ms := by
  intro sz
  refine Met.ofW (cc := cc) (maxL := maxL) (ret := ret) hy hw ?_
  intro p e s m args below meth c s₁ B hml hv
  obtain ⟨rfl, hsz, hP, hK, hD0, hG⟩ := hv
  subst hsz
  have hl := lv_entry av (n := maxL) hmax
  rw [lg_entry_eq]
  exact body p e s m av.toArray below meth c _ _ B.exec B.bytes B.returns hml (findClass_of_methodNamed B.named) (atoms_spec (ws := wsM) B.pre) B.notSynchronized (name_of_methodNamed B.named B.method).1 rfl rfl (fun q h => Or.inr h) hG hK hP hD0.self va_S.rf _ hl
section RET
variable {p : Program} {l : Launch} {e : Env} {R : Room} {s : State} {m : MethodId} {args : Array Value} {below : List Frame} {meth : Method} {c : Code} {H : Heap} {locs : List Loc} {cells slots : Nat} {Q : State → Prop}
variable {cc : ByteArray} {pc : Nat} {ls : Array Slot} {g : GT} {A : Nat → Prop} {ws0 w : va_W} {post : Option Value → va_W → Prop} {mc ms : Nat}
theorem ct_iret {v : Int32} {ty : FieldType} (hx : p.tables.exec = Jvm.exec) (hb : c.code = cc) (hr : meth.sig.returnType = some ty) (hn : narrow ty (.int v) = .int v) (hlocks : meth.locks = false) (hQ : Q = QM g ws0 post args below s mc ms) (hAe : va_A ws0 s.heap.size = A) (hK : va_K (gD g) vwCl (gty g) s) (hP : va_P (gD g) vwCl w H) (hD : va_D A w) (hS : va_S A s.heap H locs) (hc : cells ≤ mc) (hs : slots ≤ ms) (hdg : decode cc pc = .ok (.ireturn, 1)) (hp : post (some (.int v)) w) : W p l e R s m args below meth c H locs cells slots Q (F0 m pc ls [.int v]) := by
  subst hQ; subst hAe
  exact W.widen hc hs (W.zret hx hb hr hn (fun t ht hW => ⟨⟨some (.int v), w, rfl, hp, by rw [ht]; exact hP, va_K.moved hW.alike hK, hD⟩, hS.F ht⟩) hS.2.2 hdg hlocks)
theorem ct_vret (hx : p.tables.exec = Jvm.exec) (hb : c.code = cc) (hr : meth.sig.returnType = none) (hlocks : meth.locks = false) (hQ : Q = QM g ws0 post args below s mc ms) (hAe : va_A ws0 s.heap.size = A) (hK : va_K (gD g) vwCl (gty g) s) (hP : va_P (gD g) vwCl w H) (hD : va_D A w) (hS : va_S A s.heap H locs) (hc : cells ≤ mc) (hs : slots ≤ ms) (hdg : decode cc pc = .ok (.return_, 1)) (hp : post none w) : W p l e R s m args below meth c H locs cells slots Q (F0 m pc ls []) := by
  subst hQ; subst hAe
  exact W.widen hc hs (W.vret hx hb hr (fun t ht hW => ⟨⟨none, w, rfl, hp, by rw [ht]; exact hP, va_K.moved hW.alike hK, hD⟩, hS.F ht⟩) hS.2.2 hdg hlocks)
theorem ct_aret {q : Nat} {rt : FieldType} (hx : p.tables.exec = Jvm.exec) (hb : c.code = cc) (hr : meth.sig.returnType = some rt) (hrt : (∃ n, rt = .object n) ∨ ∃ t, rt = .array t) (hlocks : meth.locks = false) (hQ : Q = QM g ws0 post args below s mc ms) (hAe : va_A ws0 s.heap.size = A) (hK : va_K (gD g) vwCl (gty g) s) (hP : va_P (gD g) vwCl w H) (hD : va_D A w) (hS : va_S A s.heap H locs) (hc : cells ≤ mc) (hs : slots ≤ ms) (hdg : decode cc pc = .ok (.areturn, 1)) (hp : post (some (.ref q)) w) : W p l e R s m args below meth c H locs cells slots Q (F0 m pc ls [.ref q]) := by
  subst hQ; subst hAe
  exact W.widen hc hs (W.aret hx hb hr hrt (Or.inr ⟨q, rfl⟩) (fun t ht hW => ⟨⟨some (.ref q), w, rfl, hp, by rw [ht]; exact hP, va_K.moved hW.alike hK, hD⟩, hS.F ht⟩) hS.2.2 hdg hlocks)
theorem ct_lret {v : Int64} (hx : p.tables.exec = Jvm.exec) (hb : c.code = cc) (hr : meth.sig.returnType = some .long) (hlocks : meth.locks = false) (hQ : Q = QM g ws0 post args below s mc ms) (hAe : va_A ws0 s.heap.size = A) (hK : va_K (gD g) vwCl (gty g) s) (hP : va_P (gD g) vwCl w H) (hD : va_D A w) (hS : va_S A s.heap H locs) (hc : cells ≤ mc) (hs : slots ≤ ms) (hdg : decode cc pc = .ok (.lreturn, 1)) (hp : post (some (.long v)) w) : W p l e R s m args below meth c H locs cells slots Q (F0 m pc ls [.long v]) := by
  subst hQ; subst hAe
  exact W.widen hc hs (W.lret hx hb hr (fun t ht hW => ⟨⟨some (.long v), w, rfl, hp, by rw [ht]; exact hP, va_K.moved hW.alike hK, hD⟩, hS.F ht⟩) hS.2.2 hdg hlocks)
end RET
section CAL
variable {p : Program} {l : Launch} {e : Env} {R : Room} {s : State} {m : MethodId} {args : Array Value} {below : List Frame} {meth : Method} {c : Code} {H : Heap} {locs : List Loc} {cells slots : Nat} {Q : State → Prop}
variable {cc bytes : ByteArray} {pc nL maxL index n mc ms : Nat} {ls : Array Slot} {g : GT} {A : Nat → Prop} {ws wc wr : va_W} {post : Option Value → va_W → Prop} {Ts wsM : List Cond} {own C : String} {y : MethodName} {rm : Room} {ret : Option FieldType} {As rest st0 : List Value} {b : Nat} {a : Array Value}
theorem ct_back (hr : va_Run p l e R s m args below meth c H locs cells slots mc ms (F0 m pc ls st0) rest (CPost g wc H.size post a) (va_A wc H.size)) (hP : va_P (gD g) vwCl ws H) (hD : va_D A ws) (hS : va_S A s.heap H locs) (hA : ∀ q : Nat, s.heap.size ≤ q → A q) (isC isR : List Nat) (hCe : isC.map (fun i => ws[i]?) = wc.map some) (hRe : isR.map (fun i => ws[i]?) = wr.map some) (hn : va_nd isR = true) (hdis : ∀ i ∈ isR, i ∉ isC)
    (kk : ∀ (r : Option Value) (w : va_W) (H1 : Heap) (locs1 : List Loc), post r w → va_P (gD g) vwCl (wr ++ w) H1 → va_D A (wr ++ w) → va_S A s.heap H1 locs1 → W p l e R s m args below meth c H1 locs1 (cells + mc) (slots + ms) Q (F0 m (pc + 3) ls (r.toList ++ rest))) : W p l e R s m args below meth c H locs cells slots Q (F0 m pc ls st0) := by
  have hF := va_free hD hS hA isC hCe
  intro T hT X
  obtain ⟨v, st₀, t, T', L, h0, X', hL, e1, e2, ⟨⟨r, w, hv, hp, hP1, hK1, hD1⟩, hz, hk⟩, st⟩ := hr T hT X
  cases hv
  rw [h0] at hz hk
  rw [← e1] at hP1 hz
  have hk1 : ∀ q : Nat, q < H.size → ¬ va_A wc H.size q → T'.heap[q]? = H[q]? := fun q h1 h2 => by rw [e1]; exact hk q h1 h2
  obtain ⟨hP2, hD2⟩ := va_join (wr := wr) hP hD isC isR hCe hRe hn hdis hk1 hF hP1 hD1
  obtain ⟨t2, a1, b1⟩ := kk v w T'.heap (locs ++ L) hp hP2 hD2
    ⟨Nat.le_trans hS.1 hz, fun q h1 h2 => (hk1 q (Nat.lt_of_lt_of_le h1 hS.1) (fun z => h2 (hF q z))).trans (hS.2.1 q h1 h2), fun q hq => by
      rcases List.mem_append.mp hq with h | h
      · exact hS.2.2 q h
      · exact hF _ (hL q h)⟩ T' rfl X'
  exact ⟨t2, st t2 a1, b1⟩
theorem ct_pre (hK : va_K (gD g) vwCl (gty g) s) (hP : va_P (gD g) vwCl ws H) (hD : va_D A ws) (hS : va_S A s.heap H locs) (hA : ∀ q : Nat, s.heap.size ≤ q → A q) (hG : GS g A s s.heap) (isC : List Nat) (hCe : isC.map (fun i => ws[i]?) = wc.map some) (hn : va_nd isC = true) (av : List Value) : ∀ U : State, U.heap = H → s.WarmedH U.vm → CPre g av wc H.size av.toArray U := by
  intro U hU hW
  have hF := va_free hD hS hA isC hCe
  have hPc : va_P (gD g) vwCl wc H := by
    intro k q hk
    have h1 : (isC.map (fun i => ws[i]?))[k]? = some (some q) := by rw [hCe, List.getElem?_map, hk]; rfl
    rw [List.getElem?_map] at h1
    cases hi : isC[k]? with
    | none => rw [hi] at h1; cases h1
    | some i => rw [hi] at h1; exact hP i q (Option.some.inj h1)
  exact ⟨rfl, by rw [hU], by rw [hU]; exact hPc, va_K.moved hW.alike hK, (hD.sub isC hn hCe).weaken (fun _ _ _ _ => trivial), by rw [hU]; exact hG.step hW (fun q h1 h2 => hS.2.1 q h1 h2) hF⟩
/-- a virtual call -/
theorem ct_callV (hx : p.tables.exec = Jvm.exec) (hb : c.code = cc) (hml : c.maxLocals = nL) (hown : s.vm.findClass own = some m.cls) (hts : ∀ w ∈ Ts, w.before args s = true) (hK : va_K (gD g) vwCl (gty g) s) (hP : va_P (gD g) vwCl ws H) (hD : va_D A ws) (hS : va_S A s.heap H locs) (hA : ∀ q : Nat, s.heap.size ≤ q → A q) (hG : GS g A s s.heap) (hsize : ls.size = nL)
    (hC : CT l g y wsM rm (.ref b :: As) wc post mc ms) (cw : CallW R s args own C index y bytes maxL ret wsM rm mc ms n) (hrecv : ∃ cell : Cell, H[b]? = some cell ∧ cell.vm.isStatics = false ∧ s.vm.findClass C = some cell.cls) (hnA : As.length = n) (hst : st0 = As.reverse ++ .ref b :: rest) (hroom : (rest.map fun v => v.category).sum ≤ 8) (hdg : decode cc pc = .ok (.invokevirtual index, 3)) (hf : cells + mc ≤ R.cells ∧ slots + ms ≤ R.slots) (isC isR : List Nat) (hCe : isC.map (fun i => ws[i]?) = wc.map some) (hRe : isR.map (fun i => ws[i]?) = wr.map some) (hn1 : va_nd isC = true) (hn : va_nd isR = true) (hdis : ∀ i ∈ isR, i ∉ isC)
    (kk : ∀ (r : Option Value) (w : va_W) (H1 : Heap) (locs1 : List Loc), post r w → va_P (gD g) vwCl (wr ++ w) H1 → va_D A (wr ++ w) → va_S A s.heap H1 locs1 → W p l e R s m args below meth c H1 locs1 (cells + mc) (slots + ms) Q (F0 m (pc + 3) ls (r.toList ++ rest))) : W p l e R s m args below meth c H locs cells slots Q (F0 m pc ls st0) :=
  ct_back (va_runV ⟨hx, hb, hml, hown, hts⟩ (hC H.size) cw ⟨CPre.blind, hrecv, ct_pre hK hP hD hS hA hG isC hCe hn1 _⟩ rfl hnA hsize hst (lv_room hroom) hdg hf) hP hD hS hA isC isR hCe hRe hn hdis kk
/-- a static call -/
theorem ct_callS (hx : p.tables.exec = Jvm.exec) (hb : c.code = cc) (hml : c.maxLocals = nL) (hown : s.vm.findClass own = some m.cls) (hts : ∀ w ∈ Ts, w.before args s = true) (hK : va_K (gD g) vwCl (gty g) s) (hP : va_P (gD g) vwCl ws H) (hD : va_D A ws) (hS : va_S A s.heap H locs) (hA : ∀ q : Nat, s.heap.size ≤ q → A q) (hG : GS g A s s.heap) (hsize : ls.size = nL)
    (hC : CT l g y wsM rm As wc post mc ms) (cw : CallB R s args own index y bytes maxL ret wsM rm mc ms n ∧ (Cond.static y).before args s = true) (hnA : As.length = n) (hst : st0 = As.reverse ++ rest) (hroom : (rest.map fun v => v.category).sum ≤ 8) (hdg : decode cc pc = .ok (.invokestatic index, 3)) (hf : cells + mc ≤ R.cells ∧ slots + ms ≤ R.slots) (isC isR : List Nat) (hCe : isC.map (fun i => ws[i]?) = wc.map some) (hRe : isR.map (fun i => ws[i]?) = wr.map some) (hn1 : va_nd isC = true) (hn : va_nd isR = true) (hdis : ∀ i ∈ isR, i ∉ isC)
    (kk : ∀ (r : Option Value) (w : va_W) (H1 : Heap) (locs1 : List Loc), post r w → va_P (gD g) vwCl (wr ++ w) H1 → va_D A (wr ++ w) → va_S A s.heap H1 locs1 → W p l e R s m args below meth c H1 locs1 (cells + mc) (slots + ms) Q (F0 m (pc + 3) ls (r.toList ++ rest))) : W p l e R s m args below meth c H locs cells slots Q (F0 m pc ls st0) :=
  ct_back (va_runS ⟨hx, hb, hml, hown, hts⟩ (hC H.size) cw ⟨CPre.blind, ct_pre hK hP hD hS hA hG isC hCe hn1 _⟩ rfl hnA hsize hst (lv_room hroom) hdg hf) hP hD hS hA isC isR hCe hRe hn hdis kk
/-- a constructor's call -/
theorem ct_callI (hx : p.tables.exec = Jvm.exec) (hb : c.code = cc) (hml : c.maxLocals = nL) (hown : s.vm.findClass own = some m.cls) (hts : ∀ w ∈ Ts, w.before args s = true) (hK : va_K (gD g) vwCl (gty g) s) (hP : va_P (gD g) vwCl ws H) (hD : va_D A ws) (hS : va_S A s.heap H locs) (hA : ∀ q : Nat, s.heap.size ≤ q → A q) (hG : GS g A s s.heap) (hsize : ls.size = nL)
    (hC : CT l g y wsM rm (.ref b :: As) wc post mc ms) (cw : CallB R s args own index y bytes maxL none wsM rm mc ms n ∧ y.name = "<init>" ∧ (Cond.instanceMethod y).before args s = true) (hnA : As.length = n) (hst : st0 = As.reverse ++ .ref b :: rest) (hroom : (rest.map fun v => v.category).sum ≤ 8) (hdg : decode cc pc = .ok (.invokespecial index, 3)) (hf : cells + mc ≤ R.cells ∧ slots + ms ≤ R.slots) (isC isR : List Nat) (hCe : isC.map (fun i => ws[i]?) = wc.map some) (hRe : isR.map (fun i => ws[i]?) = wr.map some) (hn1 : va_nd isC = true) (hn : va_nd isR = true) (hdis : ∀ i ∈ isR, i ∉ isC)
    (kk : ∀ (r : Option Value) (w : va_W) (H1 : Heap) (locs1 : List Loc), post r w → va_P (gD g) vwCl (wr ++ w) H1 → va_D A (wr ++ w) → va_S A s.heap H1 locs1 → W p l e R s m args below meth c H1 locs1 (cells + mc) (slots + ms) Q (F0 m (pc + 3) ls (r.toList ++ rest))) : W p l e R s m args below meth c H locs cells slots Q (F0 m pc ls st0) :=
  ct_back (va_runI ⟨hx, hb, hml, hown, hts⟩ (hC H.size) cw ⟨CPre.blind, ct_pre hK hP hD hS hA hG isC hCe hn1 _⟩ rfl hnA hsize hst (lv_room hroom) hdg hf) hP hD hS hA isC isR hCe hRe hn hdis kk
/-- arithmetic with a name for the result -/
theorem q_iadd {x y v : Int32} (hx : p.tables.exec = Jvm.exec) (hb : c.code = cc) (hdg : decode cc pc = .ok (.iadd, 1)) (h : x + y = v) (k : W p l e R s m args below meth c H locs cells slots Q (F0 m (pc + 1) ls (.int v :: rest))) : W p l e R s m args below meth c H locs cells slots Q (F0 m pc ls (.int y :: .int x :: rest)) := lv_iadd hx hb hdg (h ▸ k)
theorem q_isub {x y v : Int32} (hx : p.tables.exec = Jvm.exec) (hb : c.code = cc) (hdg : decode cc pc = .ok (.isub, 1)) (h : x - y = v) (k : W p l e R s m args below meth c H locs cells slots Q (F0 m (pc + 1) ls (.int v :: rest))) : W p l e R s m args below meth c H locs cells slots Q (F0 m pc ls (.int y :: .int x :: rest)) := lv_isub hx hb hdg (h ▸ k)
theorem q_imul {x y v : Int32} (hx : p.tables.exec = Jvm.exec) (hb : c.code = cc) (hdg : decode cc pc = .ok (.imul, 1)) (h : x * y = v) (k : W p l e R s m args below meth c H locs cells slots Q (F0 m (pc + 1) ls (.int v :: rest))) : W p l e R s m args below meth c H locs cells slots Q (F0 m pc ls (.int y :: .int x :: rest)) := lv_imul hx hb hdg (h ▸ k)
theorem q_idiv {x y v : Int32} (hx : p.tables.exec = Jvm.exec) (hb : c.code = cc) (hdg : decode cc pc = .ok (.idiv, 1)) (hne : ¬ y = 0) (h : x / y = v) (k : W p l e R s m args below meth c H locs cells slots Q (F0 m (pc + 1) ls (.int v :: rest))) : W p l e R s m args below meth c H locs cells slots Q (F0 m pc ls (.int y :: .int x :: rest)) := lv_idiv hx hb hdg hne (h ▸ k)
theorem q_irem {x y v : Int32} (hx : p.tables.exec = Jvm.exec) (hb : c.code = cc) (hdg : decode cc pc = .ok (.irem, 1)) (hne : ¬ y = 0) (h : x - x / y * y = v) (k : W p l e R s m args below meth c H locs cells slots Q (F0 m (pc + 1) ls (.int v :: rest))) : W p l e R s m args below meth c H locs cells slots Q (F0 m pc ls (.int y :: .int x :: rest)) := lv_irem hx hb hdg hne (h ▸ k)
theorem q_iand {x y v : Int32} (hx : p.tables.exec = Jvm.exec) (hb : c.code = cc) (hdg : decode cc pc = .ok (.iand, 1)) (h : x &&& y = v) (k : W p l e R s m args below meth c H locs cells slots Q (F0 m (pc + 1) ls (.int v :: rest))) : W p l e R s m args below meth c H locs cells slots Q (F0 m pc ls (.int y :: .int x :: rest)) := lv_iand hx hb hdg (h ▸ k)
theorem q_ior {x y v : Int32} (hx : p.tables.exec = Jvm.exec) (hb : c.code = cc) (hdg : decode cc pc = .ok (.ior, 1)) (h : x ||| y = v) (k : W p l e R s m args below meth c H locs cells slots Q (F0 m (pc + 1) ls (.int v :: rest))) : W p l e R s m args below meth c H locs cells slots Q (F0 m pc ls (.int y :: .int x :: rest)) := lv_ior hx hb hdg (h ▸ k)
theorem q_ixor {x y v : Int32} (hx : p.tables.exec = Jvm.exec) (hb : c.code = cc) (hdg : decode cc pc = .ok (.ixor, 1)) (h : x ^^^ y = v) (k : W p l e R s m args below meth c H locs cells slots Q (F0 m (pc + 1) ls (.int v :: rest))) : W p l e R s m args below meth c H locs cells slots Q (F0 m pc ls (.int y :: .int x :: rest)) := lv_ixor hx hb hdg (h ▸ k)
theorem q_ishl {x y v : Int32} (hx : p.tables.exec = Jvm.exec) (hb : c.code = cc) (hdg : decode cc pc = .ok (.ishl, 1)) (h : x <<< (y &&& 31) = v) (k : W p l e R s m args below meth c H locs cells slots Q (F0 m (pc + 1) ls (.int v :: rest))) : W p l e R s m args below meth c H locs cells slots Q (F0 m pc ls (.int y :: .int x :: rest)) := lv_ishl hx hb hdg (h ▸ k)
theorem q_ishr {x y v : Int32} (hx : p.tables.exec = Jvm.exec) (hb : c.code = cc) (hdg : decode cc pc = .ok (.ishr, 1)) (h : x >>> (y &&& 31) = v) (k : W p l e R s m args below meth c H locs cells slots Q (F0 m (pc + 1) ls (.int v :: rest))) : W p l e R s m args below meth c H locs cells slots Q (F0 m pc ls (.int y :: .int x :: rest)) := lv_ishr hx hb hdg (h ▸ k)
/-- a byte is read, a byte is written, by a place that is a number -/
theorem q_bald {N : Nat} {f : Nat → Int32} {x : Int32} (hx : p.tables.exec = Jvm.exec) (hb : c.code = cc) (hK : va_K (gD g) vwCl (gty g) s) (hP : va_P (gD g) vwCl ws H) (q0 : Nat) (ha : ws[q0]? = some (b, .inl (gB g, N, .inl f))) (i : Nat) (hi : x = nI i) (hN : i < N) (hM : N < 2 ^ 31) (hdg : decode cc pc = .ok (.baload, 1)) (k : W p l e R s m args below meth c H locs cells slots Q (F0 m (pc + 1) ls (.int (f i) :: rest))) : W p l e R s m args below meth c H locs cells slots Q (F0 m pc ls (.int x :: .ref b :: rest)) := by
  subst hi
  refine va_bald hx hb hK hP q0 0 ha rfl (vp_in_nI hN hM) hdg ?_
  rw [nI_clamp (by omega)]
  exact k
theorem q_iald {N : Nat} {f : Nat → Int32} {x : Int32} (hx : p.tables.exec = Jvm.exec) (hb : c.code = cc) (hK : va_K (gD g) vwCl (gty g) s) (hP : va_P (gD g) vwCl ws H) (q0 : Nat) (ha : ws[q0]? = some (b, .inl (gI g, N, .inl f))) (i : Nat) (hi : x = nI i) (hN : i < N) (hM : N < 2 ^ 31) (hdg : decode cc pc = .ok (.iaload, 1)) (k : W p l e R s m args below meth c H locs cells slots Q (F0 m (pc + 1) ls (.int (f i) :: rest))) : W p l e R s m args below meth c H locs cells slots Q (F0 m pc ls (.int x :: .ref b :: rest)) := by
  subst hi
  refine va_iald hx hb hK hP q0 1 ha rfl (vp_in_nI hN hM) hdg ?_
  rw [nI_clamp (by omega)]
  exact k
theorem q_bast {N : Nat} {f : Nat → Int32} {x v : Int32} (hx : p.tables.exec = Jvm.exec) (hb : c.code = cc) (hK : va_K (gD g) vwCl (gty g) s) (hP : va_P (gD g) vwCl ws H) (hD : va_D A ws) (hS : va_S A s.heap H locs) (q0 : Nat) (ha : ws[q0]? = some (b, .inl (gB g, N, .inl f))) (i : Nat) (hi : x = nI i) (hN : i < N) (hM : N < 2 ^ 31) (hdg : decode cc pc = .ok (.bastore, 1)) (k : ∀ (H1 : Heap) (locs1 : List Loc), va_P (gD g) vwCl (ws.set q0 (b, .inl (gB g, N, .inl (upd f i v.toInt8.toInt32)))) H1 → va_D A (ws.set q0 (b, .inl (gB g, N, .inl (upd f i v.toInt8.toInt32)))) → va_S A s.heap H1 locs1 → W p l e R s m args below meth c H1 locs1 cells slots Q (F0 m (pc + 1) ls rest)) : W p l e R s m args below meth c H locs cells slots Q (F0 m pc ls (.int v :: .int x :: .ref b :: rest)) := by
  subst hi
  refine va_bast hx hb hK hP hD hS q0 0 ha rfl (vp_in_nI hN hM) hdg ?_
  rw [nI_clamp (by omega), vp_nar_byte]
  exact k
theorem q_iast {N : Nat} {f : Nat → Int32} {x v : Int32} (hx : p.tables.exec = Jvm.exec) (hb : c.code = cc) (hK : va_K (gD g) vwCl (gty g) s) (hP : va_P (gD g) vwCl ws H) (hD : va_D A ws) (hS : va_S A s.heap H locs) (q0 : Nat) (ha : ws[q0]? = some (b, .inl (gI g, N, .inl f))) (i : Nat) (hi : x = nI i) (hN : i < N) (hM : N < 2 ^ 31) (hdg : decode cc pc = .ok (.iastore, 1)) (k : ∀ (H1 : Heap) (locs1 : List Loc), va_P (gD g) vwCl (ws.set q0 (b, .inl (gI g, N, .inl (upd f i v)))) H1 → va_D A (ws.set q0 (b, .inl (gI g, N, .inl (upd f i v)))) → va_S A s.heap H1 locs1 → W p l e R s m args below meth c H1 locs1 cells slots Q (F0 m (pc + 1) ls rest)) : W p l e R s m args below meth c H locs cells slots Q (F0 m pc ls (.int v :: .int x :: .ref b :: rest)) := by
  subst hi
  refine va_iast hx hb hK hP hD hS q0 1 ha rfl (vp_in_nI hN hM) hdg ?_
  rw [nI_clamp (by omega)]
  exact k
/-- a new byte array, of the class of all byte arrays -/
theorem q_newb {x : Int32} (hx : p.tables.exec = Jvm.exec) (hb : c.code = cc) (harr : (Cond.arrayClass .byte).before args s = true) (hK : va_K (gD g) vwCl (gty g) s) (hP : va_P (gD g) vwCl ws H) (hD : va_D A ws) (hS : va_S A s.heap H locs) (hA : ∀ q : Nat, s.heap.size ≤ q → A q) (N : Nat) (hi : x = nI N) (hM : N < 2 ^ 29) (hcells : cells + 1 ≤ R.cells) (hslots : slots + N ≤ R.slots) (hdg : decode cc pc = .ok (.newarray .byte, 2))
    (k : ∀ (q : Nat) (H1 : Heap), va_P (gD g) vwCl (ws ++ [(q, .inl (gB g, N, .inl (fun _ => 0)))]) H1 → va_D A (ws ++ [(q, .inl (gB g, N, .inl (fun _ => 0)))]) → va_S A s.heap H1 locs → W p l e R s m args below meth c H1 locs (cells + 1) (slots + N) Q (F0 m (pc + 2) ls (.ref q :: rest))) : W p l e R s m args below meth c H locs cells slots Q (F0 m pc ls (.int x :: rest)) := by
  subst hi
  refine va_newa (atype := .byte) (a0 := (N, .inl (fun _ => 0))) (ty := .byte) hx hb harr rfl hK hP hD hS hA (fun cA => rfl) (nI_pos (by omega)) (nI_clamp (by omega)) (by show N * 1 ≤ 536870912; omega) hcells hslots hdg (fun q cA H1 hK1 hP1 hD1 hS1 => ?_)
  have h1 : s.vm.findClass ("[" ++ FieldType.byte.toString) = some (gB g) := (hK.2 0 _ rfl).2
  have h2 : s.vm.findClass ("[" ++ FieldType.byte.toString) = some cA := (hK1.2 2 _ rfl).2
  have h3 : cA = gB g := Option.some.inj (h2.symm.trans h1)
  subst h3
  exact k q H1 hP1 hD1 hS1
theorem q_newi {x : Int32} (hx : p.tables.exec = Jvm.exec) (hb : c.code = cc) (harr : (Cond.arrayClass .int).before args s = true) (hK : va_K (gD g) vwCl (gty g) s) (hP : va_P (gD g) vwCl ws H) (hD : va_D A ws) (hS : va_S A s.heap H locs) (hA : ∀ q : Nat, s.heap.size ≤ q → A q) (N : Nat) (hi : x = nI N) (hM : N < 2 ^ 27) (hcells : cells + 1 ≤ R.cells) (hslots : slots + N ≤ R.slots) (hdg : decode cc pc = .ok (.newarray .int, 2))
    (k : ∀ (q : Nat) (H1 : Heap), va_P (gD g) vwCl (ws ++ [(q, .inl (gI g, N, .inl (fun _ => 0)))]) H1 → va_D A (ws ++ [(q, .inl (gI g, N, .inl (fun _ => 0)))]) → va_S A s.heap H1 locs → W p l e R s m args below meth c H1 locs (cells + 1) (slots + N) Q (F0 m (pc + 2) ls (.ref q :: rest))) : W p l e R s m args below meth c H locs cells slots Q (F0 m pc ls (.int x :: rest)) := by
  subst hi
  refine va_newa (atype := .int) (a0 := (N, .inl (fun _ => 0))) (ty := .int) hx hb harr rfl hK hP hD hS hA (fun cA => rfl) (nI_pos (by omega)) (nI_clamp (by omega)) (by show N * 4 ≤ 536870912; omega) hcells hslots hdg (fun q cA H1 hK1 hP1 hD1 hS1 => ?_)
  have h1 : s.vm.findClass ("[" ++ FieldType.int.toString) = some (gI g) := (hK.2 1 _ rfl).2
  have h2 : s.vm.findClass ("[" ++ FieldType.int.toString) = some cA := (hK1.2 2 _ rfl).2
  have h3 : cA = gI g := Option.some.inj (h2.symm.trans h1)
  subst h3
  exact k q H1 hP1 hD1 hS1
end CAL
