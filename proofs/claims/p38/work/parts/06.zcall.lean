/-! ===== contracts of methods over the abstract machine; calls, returns, throws, handlers ===== -/
def zQ (E : zE) (O : zO) : Array Value → State → Outcome → State → Prop := fun _ st o t => ∃ (v : Option Value) (h : aH) (sz : Nat), o = .returned v ∧ O (.inl v) h sz ∧ zH E h sz t.heap ∧ st.heap.size ≤ t.heap.size
def zX (E : zE) (O : zO) : String → State → State → Prop := fun X st t => ∃ (h : aH) (sz : Nat), O (.inr X) h sz ∧ zH E h sz t.heap ∧ st.heap.size ≤ t.heap.size
def zPc (E : zE) (av : List Value) (h : aH) (sz : Nat) : Array Value → State → Prop := fun v U => v = av.toArray ∧ E.1.WarmedH U.vm ∧ zH E h sz U.heap
theorem zPc_blind {E : zE} {av : List Value} {h : aH} {sz : Nat} : FrameBlind (zPc E av h sz) := fun _ _ _ _ q => q
/-- the method y, called with av over the heap h, returns or throws as O says -/
def zM (E : zE) (l : Launch) (y : MethodName) (ws : List Cond) (rm : Room) (av : List Value) (h : aH) (sz : Nat) (O : zO) : Prop :=
  vx_Met l y ws rm (zPc E av h sz) (zQ E O) (zX E O) rm.cells rm.slots (zA E)
/-- the same of a constructor: it returns -/
def zK (E : zE) (l : Launch) (y : MethodName) (ws : List Cond) (rm : Room) (av : List Value) (h : aH) (sz : Nat) (O : zO) : Prop :=
  Met l y ws rm (zPc E av h sz) (zQ E O) rm.cells rm.slots (zA E)
/-- what is owed at a body's end -/
def zEnd (E : zE) (G : zG) (O : zO) (mc ms : Nat) : Prop :=
  match G with
  | (p, l, e, R, s, m, args, below, meth, c, Q) => Q = vx_MQ below (zQ E O) (zX E O) args s mc ms (zA E) ∨ Q = MQ below (zQ E O) args s mc ms (zA E)
def zEndX (E : zE) (G : zG) (O : zO) (mc ms : Nat) : Prop :=
  match G with
  | (p, l, e, R, s, m, args, below, meth, c, Q) => Q = vx_MQ below (zQ E O) (zX E O) args s mc ms (zA E)
/-- the handlers of the body -/
def zTb (G : zG) (tb : List ExceptionTableEntry) : Prop :=
  match G with
  | (p, l, e, R, s, m, args, below, meth, c, Q) => c.exceptionTable.toList = tb
def zGl (G : zG) : Launch := G.2.1
theorem zEndX.e {E : zE} {G : zG} {O : zO} {mc ms : Nat} (h : zEndX E G O mc ms) : zEnd E G O mc ms := by
  obtain ⟨p, l, e, R', s, m, args, below, meth, c, Q⟩ := G
  exact Or.inl h
theorem zCx.l {E : zE} {G : zG} {cc : ByteArray} {nL : Nat} {own nm : String} {ret : Option FieldType} {R : Room} (C : zCx E G cc nL own nm ret R) : (zGl G).stackTraces = false := by
  obtain ⟨p, l, e, R', s, m, args, below, meth, c, Q⟩ := G
  obtain ⟨hE, rfl, hx, hb, hml, hown, hW, h1, h2, h3, h4, -⟩ := C
  exact h4
theorem zCx.ev {E : zE} {G : zG} {cc : ByteArray} {nL : Nat} {own nm : String} {ret : Option FieldType} {R : Room} (C : zCx E G cc nL own nm ret R) : zEv E := by
  obtain ⟨p, l, e, R', s, m, args, below, meth, c, Q⟩ := G
  exact C.1
theorem zM_of {E : zE} {l : Launch} {y : MethodName} {cc : ByteArray} {nL : Nat} {ret : Option FieldType} {rm : Room} {av : List Value} {h : aH} {sz : Nat} {O : zO} (hE : zEv E) (hl : l.stackTraces = false) (hy : plainName y.cls = true) (ls0 : zL) (h0 : lv_args 0 av = zl_as 0 ls0 ∧ ls0.length = nL ∧ (lg_sl av).length ≤ nL) (body : ∀ G : zG, zCx E G cc nL y.cls y.name ret rm → zEndX E G O rm.cells rm.slots → zTb G [] → Z E G h sz 0 0 (0, ls0, [])) : zM E l y [.code y cc nL ret] rm av h sz O := by
  refine vx_ofW (cc := cc) (maxL := nL) (ret := ret) hy rfl ?_
  intro p e s m args below meth c s₁ B hml hexc hv
  obtain ⟨rfl, hW, hH⟩ := hv
  rw [lg_entry_eq]
  have hl0 := lv_entry av (n := nL) h0.2.2
  have htb : c.exceptionTable.toList = [] := by
    cases hq : c.exceptionTable.toList with
    | nil => rfl
    | cons a b => exact (hexc a (by rw [hq]; exact List.mem_cons_self)).elim
  refine body (p, l, e, (headSpec [Cond.code y cc nL ret] rm).room, s, m, av.toArray, below, meth, c, _) ⟨hE, rfl, B.exec, B.bytes, hml, findClass_of_methodNamed B.named, hW, B.notSynchronized, B.returns, (name_of_methodNamed B.named B.method).1, hl, Nat.le_trans hH.1 hH.2.1, hH.2.2.1⟩ rfl htb s.heap [] hH (Nat.le_refl _) (fun x hx => by cases hx) _ ?_
  rw [h0.1] at hl0
  rw [← h0.2.1] at hl0 ⊢
  exact hl0
theorem zK_of {E : zE} {l : Launch} {y : MethodName} {cc : ByteArray} {nL : Nat} {ret : Option FieldType} {rm : Room} {av : List Value} {h : aH} {sz : Nat} {O : zO} (hE : zEv E) (hl : l.stackTraces = false) (hy : plainName y.cls = true) (ls0 : zL) (h0 : lv_args 0 av = zl_as 0 ls0 ∧ ls0.length = nL ∧ (lg_sl av).length ≤ nL) (body : ∀ G : zG, zCx E G cc nL y.cls y.name ret rm → zEnd E G O rm.cells rm.slots → Z E G h sz 0 0 (0, ls0, [])) : zK E l y [.code y cc nL ret] rm av h sz O := by
  refine Met.ofW (cc := cc) (maxL := nL) (ret := ret) hy rfl ?_
  intro p e s m args below meth c s₁ B hml hv
  obtain ⟨rfl, hW, hH⟩ := hv
  rw [lg_entry_eq]
  have hl0 := lv_entry av (n := nL) h0.2.2
  refine body (p, l, e, (headSpec [Cond.code y cc nL ret] rm).room, s, m, av.toArray, below, meth, c, _) ⟨hE, rfl, B.exec, B.bytes, hml, findClass_of_methodNamed B.named, hW, B.notSynchronized, B.returns, (name_of_methodNamed B.named B.method).1, hl, Nat.le_trans hH.1 hH.2.1, hH.2.2.1⟩ (Or.inr rfl) s.heap [] hH (Nat.le_refl _) (fun x hx => by cases hx) _ ?_
  rw [h0.1] at hl0
  rw [← h0.2.1] at hl0 ⊢
  exact hl0
theorem zMX_of {E : zE} {l : Launch} {y : MethodName} {cc : ByteArray} {nL : Nat} {ret : Option FieldType} {rm : Room} {av : List Value} {h : aH} {sz : Nat} {O : zO} {hh : List (Nat × Nat × Nat × Nat)} (hE : zEv E) (hl : l.stackTraces = false) (hy : plainName y.cls = true) (ls0 : zL) (h0 : lv_args 0 av = zl_as 0 ls0 ∧ ls0.length = nL ∧ (lg_sl av).length ≤ nL) (body : ∀ G : zG, zCx E G cc nL y.cls y.name ret rm → zEndX E G O rm.cells rm.slots → zTb G (tableOf hh) → Z E G h sz 0 0 (0, ls0, [])) : zM E l y [.codeWith y cc nL ret hh] rm av h sz O := by
  refine vx_ofWH (cc := cc) (maxL := nL) (ret := ret) (hh := hh) hy rfl ?_
  intro p e s m args below meth c s₁ B hml hv
  obtain ⟨rfl, hW, hH⟩ := hv
  rw [lg_entry_eq]
  have hl0 := lv_entry av (n := nL) h0.2.2
  have htb : c.exceptionTable.toList = tableOf hh := vx_table (x := y) (bytes := cc) (maxL' := nL) (ret' := ret) B (atoms_spec (ws := [Cond.codeWith y cc nL ret hh]) B.pre _ List.mem_cons_self)
  refine body (p, l, e, (headSpec [Cond.codeWith y cc nL ret hh] rm).room, s, m, av.toArray, below, meth, c, _) ⟨hE, rfl, B.exec, B.bytes, hml, findClass_of_methodNamed B.named, hW, B.notSynchronized, B.returns, (name_of_methodNamed B.named B.method).1, hl, Nat.le_trans hH.1 hH.2.1, hH.2.2.1⟩ rfl htb s.heap [] hH (Nat.le_refl _) (fun x hx => by cases hx) _ ?_
  rw [h0.1] at hl0
  rw [← h0.2.1] at hl0 ⊢
  exact hl0
/-- what the tables say of a method that is called -/
def zPv (y : MethodName) (cc : ByteArray) (nL : Nat) (ret : Option FieldType) (a : Nat) : Prop := Cond.code y cc nL ret ∈ zWs ∧ Cond.instanceMethod y ∈ zWs ∧ Cond.selects y.cls y y ∈ zWs ∧ Cond.initialized y.cls ∈ zWs ∧ (y.cls ≠ "java/lang/invoke/MethodHandle" ∧ y.cls ≠ "java/lang/invoke/VarHandle") ∧ (parseMethodDescriptor y.desc).map (fun d => d.parameters.length) = some a
def zPs (y : MethodName) (cc : ByteArray) (nL : Nat) (ret : Option FieldType) (a : Nat) : Prop := Cond.code y cc nL ret ∈ zWs ∧ Cond.static y ∈ zWs ∧ Cond.initialized y.cls ∈ zWs ∧ (y.cls ≠ "java/lang/invoke/MethodHandle" ∧ y.cls ≠ "java/lang/invoke/VarHandle") ∧ (parseMethodDescriptor y.desc).map (fun d => d.parameters.length) = some a
def zPsX (y : MethodName) (cc : ByteArray) (nL : Nat) (ret : Option FieldType) (hh : List (Nat × Nat × Nat × Nat)) (a : Nat) : Prop := Cond.codeWith y cc nL ret hh ∈ zWs ∧ Cond.static y ∈ zWs ∧ Cond.initialized y.cls ∈ zWs ∧ (y.cls ≠ "java/lang/invoke/MethodHandle" ∧ y.cls ≠ "java/lang/invoke/VarHandle") ∧ (parseMethodDescriptor y.desc).map (fun d => d.parameters.length) = some a
def zPk (y : MethodName) (cc : ByteArray) (nL : Nat) (a : Nat) : Prop := Cond.code y cc nL none ∈ zWs ∧ Cond.instanceMethod y ∈ zWs ∧ y.name = "<init>" ∧ Cond.initialized y.cls ∈ zWs ∧ (y.cls ≠ "java/lang/invoke/MethodHandle" ∧ y.cls ≠ "java/lang/invoke/VarHandle") ∧ (parseMethodDescriptor y.desc).map (fun d => d.parameters.length) = some a
def zRm (rm R : Room) (nL k n : Nat) : Prop := rm.frames + 1 ≤ R.frames ∧ 8 + (nL + 11) + rm.locals ≤ R.locals ∧ k + rm.cells ≤ R.cells ∧ n + rm.slots ≤ R.slots
section ZC1
variable {E : zE} {G : zG} {cc : ByteArray} {nL : Nat} {own nm : String} {ret : Option FieldType} {R : Room} {h : aH} {sz k n : Nat} {t : List zI} {pc : Nat} {ls : zL} {st rest : List Value}
theorem zcat {rest : List Value} (h : (rest.map fun v => v.category).sum ≤ 8) {m : MethodId} {pc : Nat} {la : Array Slot} {st : List Value} : 2 * (F0 m pc la st).monitorRoom + (rest.map fun v => v.category).sum ≤ 8 := lv_room h
theorem zcallB {s : State} {args : Array Value} {R : Room} {idx : Nat} {y : MethodName} {c9 : ByteArray} {n9 k n a : Nat} {r9 : Option FieldType} {rm : Room} (hE : zEv E) (hW : E.1.WarmedH s.vm) (hc : Cond.code y c9 n9 r9 ∈ zWs) (hi : Cond.initialized y.cls ∈ zWs) (hy : y.cls ≠ "java/lang/invoke/MethodHandle" ∧ y.cls ≠ "java/lang/invoke/VarHandle") (ha : (parseMethodDescriptor y.desc).map (fun d => d.parameters.length) = some a) (hlk : Cond.methodLink own idx y ∈ zWs) (hR : zRm rm R n9 k n) : CallB R s args own idx y c9 n9 r9 [Cond.code y c9 n9 r9] rm rm.cells rm.slots a := by
  have hg : goodWord (Cond.code y c9 n9 r9) = true := (List.mem_filter.mp hc).2
  have hb : (Cond.code y c9 n9 r9).before args s = true := zmem_at hE hW hc
  refine ⟨rfl, rfl, hR.1, hR.2.1, fun w hw a' U hU => ?_, List.mem_cons_self, hb, zmem_at hE hW hi, hy, fun sig hs => ?_, zmem_at hE hW hlk⟩
  · rw [List.mem_singleton.mp hw]
    exact word_at hU (good_of_word hg) hb
  · rw [hs] at ha
    exact (Option.some.inj ha).symm
theorem Z_callV (C : zCx E G cc nL own nm ret R) (ht : zT cc t) {idx : Nat} {r : Nat × Int32 × Nat} (hl : t.lookup pc = some (.invokevirtual idx, r)) {y : MethodName} {c9 : ByteArray} {n9 a : Nat} {r9 : Option FieldType} {rm : Room} (hp : zPv y c9 n9 r9 a) (hlk : Cond.methodLink own idx y ∈ zWs) {O : zO} {b : Nat} (As : List Value) (hM : zM E (zGl G) y [.code y c9 n9 r9] rm (.ref b :: As) h sz O) (hst : st = As.reverse ++ .ref b :: rest) (ha : As.length = a) {ci nn N : Nat} {fs : Nat → Value} {T : u_T} (hb9 : h b = some (ci, nn, fs)) (hci : zCl[ci]? = some (y.cls, T, N)) (hR : zRm rm R n9 k n) (hcat : (rest.map fun v => v.category).sum ≤ 8) (hls : ls.length = nL)
    (kk : ∀ (v : Option Value) (h2 : aH) (sz2 : Nat), O (.inl v) h2 sz2 → Z E G h2 sz2 (k + rm.cells) (n + rm.slots) (pc + 3, ls, v.toList ++ rest))
    (kx : ∀ (X : String) (h2 : aH) (sz2 : Nat), O (.inr X) h2 sz2 → Zt E G h2 sz2 (k + rm.cells) (n + rm.slots) (pc, ls, rest) X) : Z E G h sz k n (pc, ls, st) := by
  obtain ⟨p, l, e, R', s, m, args, below, meth, c, Q⟩ := G
  obtain ⟨hE, rfl, hx, hb, hml, hown, hW, -⟩ := C
  subst hst
  intro H locs h1 h2 h3 la hla
  obtain ⟨hd, ho⟩ := zT_at ht hl
  have hlen : r.1 = 3 := by have h9 := ho; simp only [zok, beq_iff_eq] at h9; exact h9
  dsimp only at hd
  rw [hlen] at hd
  obtain ⟨p1, p2, p3, p4, p5, p6⟩ := hp
  obtain ⟨⟨cell, q1, q2, q3, q4⟩, hKn⟩ := zC_obj (s := s) hE hW (h1.2.2.2 b _ hb9).2 hci
  have CR := vx_runV (cells := k) (slots := n) (below := below) (meth := meth) (e := e) (locs := locs) (H := H) (rest := rest) (g := F0 m pc la (As.reverse ++ .ref b :: rest)) ⟨hx, hb, hml, hown, fun w hw => zmem_at hE hW hw⟩ hM ⟨zcallB (k := k) (n := n) (args := args) hE hW p1 p4 p5 p6 hlk hR, zmem_at hE hW p2, zmem_at hE hW p3⟩ ⟨zPc_blind, ⟨cell, q1, by rw [q3]; rfl, by rw [q2]; exact hKn.2.1⟩, fun U hU hWU => ⟨rfl, State.WarmedH.trans hW hWU, by rw [hU]; exact h1⟩⟩ rfl ha (by rw [← hls]; exact hla.1) rfl (zcat hcat) hd ⟨hR.2.2.1, hR.2.2.2⟩
  intro T hT X
  rcases CR T hT X with ⟨v, st₀, t9, T', L, e0, X', hL, e1, e2, ⟨v2, h', sz', ev, hO, hz, hsz⟩, stp⟩ | ⟨q, st₀, t9, T', L, Ex, ce, e0, X', hL, e1, e2, ⟨h', sz', hO, hz, hsz⟩, hce, hcv, hcl, stp⟩
  · cases ev
    rw [e0] at hsz
    obtain ⟨t2, a1, b1⟩ := kk v h' sz' hO T'.heap (locs ++ L) (by rw [e1]; exact hz) (by rw [e1]; omega) (fun x hx => (List.mem_append.mp hx).elim (h3 x) (hL x)) la hla T' rfl X'
    exact ⟨t2, stp t2 a1, b1⟩
  · rw [e0] at hsz
    obtain ⟨t2, a1, b1⟩ := kx Ex h' sz' hO T'.heap (locs ++ L) q ce (by rw [e1]; exact hz) (by rw [e1]; omega) (fun x hx => (List.mem_append.mp hx).elim (h3 x) (hL x)) (by rw [e1]; exact hce) hcv hcl la hla T' rfl X'
    exact ⟨t2, stp.trans a1, b1⟩
theorem Z_callS (C : zCx E G cc nL own nm ret R) (ht : zT cc t) {idx : Nat} {r : Nat × Int32 × Nat} (hl : t.lookup pc = some (.invokestatic idx, r)) {y : MethodName} {c9 : ByteArray} {n9 a : Nat} {r9 : Option FieldType} {rm : Room} (hp : zPs y c9 n9 r9 a) (hlk : Cond.methodLink own idx y ∈ zWs) {O : zO} (As : List Value) (hM : zM E (zGl G) y [.code y c9 n9 r9] rm As h sz O) (hst : st = As.reverse ++ rest) (ha : As.length = a) (hR : zRm rm R n9 k n) (hcat : (rest.map fun v => v.category).sum ≤ 8) (hls : ls.length = nL)
    (kk : ∀ (v : Option Value) (h2 : aH) (sz2 : Nat), O (.inl v) h2 sz2 → Z E G h2 sz2 (k + rm.cells) (n + rm.slots) (pc + 3, ls, v.toList ++ rest))
    (kx : ∀ (X : String) (h2 : aH) (sz2 : Nat), O (.inr X) h2 sz2 → Zt E G h2 sz2 (k + rm.cells) (n + rm.slots) (pc, ls, rest) X) : Z E G h sz k n (pc, ls, st) := by
  obtain ⟨p, l, e, R', s, m, args, below, meth, c, Q⟩ := G
  obtain ⟨hE, rfl, hx, hb, hml, hown, hW, -⟩ := C
  subst hst
  intro H locs h1 h2 h3 la hla
  obtain ⟨hd, ho⟩ := zT_at ht hl
  have hlen : r.1 = 3 := by have h9 := ho; simp only [zok, beq_iff_eq] at h9; exact h9
  dsimp only at hd
  rw [hlen] at hd
  obtain ⟨p1, p2, p4, p5, p6⟩ := hp
  have CR := vx_runS (cells := k) (slots := n) (below := below) (meth := meth) (e := e) (locs := locs) (H := H) (rest := rest) (g := F0 m pc la (As.reverse ++ rest)) ⟨hx, hb, hml, hown, fun w hw => zmem_at hE hW hw⟩ hM ⟨zcallB (k := k) (n := n) (args := args) hE hW p1 p4 p5 p6 hlk hR, zmem_at hE hW p2⟩ ⟨zPc_blind, fun U hU hWU => ⟨rfl, State.WarmedH.trans hW hWU, by rw [hU]; exact h1⟩⟩ rfl ha (by rw [← hls]; exact hla.1) rfl (zcat hcat) hd ⟨hR.2.2.1, hR.2.2.2⟩
  intro T hT X
  rcases CR T hT X with ⟨v, st₀, t9, T', L, e0, X', hL, e1, e2, ⟨v2, h', sz', ev, hO, hz, hsz⟩, stp⟩ | ⟨q, st₀, t9, T', L, Ex, ce, e0, X', hL, e1, e2, ⟨h', sz', hO, hz, hsz⟩, hce, hcv, hcl, stp⟩
  · cases ev
    rw [e0] at hsz
    obtain ⟨t2, a1, b1⟩ := kk v h' sz' hO T'.heap (locs ++ L) (by rw [e1]; exact hz) (by rw [e1]; omega) (fun x hx => (List.mem_append.mp hx).elim (h3 x) (hL x)) la hla T' rfl X'
    exact ⟨t2, stp t2 a1, b1⟩
  · rw [e0] at hsz
    obtain ⟨t2, a1, b1⟩ := kx Ex h' sz' hO T'.heap (locs ++ L) q ce (by rw [e1]; exact hz) (by rw [e1]; omega) (fun x hx => (List.mem_append.mp hx).elim (h3 x) (hL x)) (by rw [e1]; exact hce) hcv hcl la hla T' rfl X'
    exact ⟨t2, stp.trans a1, b1⟩
theorem Z_callSX (C : zCx E G cc nL own nm ret R) (ht : zT cc t) {idx : Nat} {r : Nat × Int32 × Nat} (hl : t.lookup pc = some (.invokestatic idx, r)) {y : MethodName} {c9 : ByteArray} {n9 a : Nat} {r9 : Option FieldType} {rm : Room} {hh : List (Nat × Nat × Nat × Nat)} (hp : zPsX y c9 n9 r9 hh a) (hlk : Cond.methodLink own idx y ∈ zWs) {O : zO} (As : List Value) (hM : zM E (zGl G) y [.codeWith y c9 n9 r9 hh] rm As h sz O) (hst : st = As.reverse ++ rest) (ha : As.length = a) (hR : zRm rm R n9 k n) (hcat : (rest.map fun v => v.category).sum ≤ 8) (hls : ls.length = nL)
    (kk : ∀ (v : Option Value) (h2 : aH) (sz2 : Nat), O (.inl v) h2 sz2 → Z E G h2 sz2 (k + rm.cells) (n + rm.slots) (pc + 3, ls, v.toList ++ rest))
    (kx : ∀ (X : String) (h2 : aH) (sz2 : Nat), O (.inr X) h2 sz2 → Zt E G h2 sz2 (k + rm.cells) (n + rm.slots) (pc, ls, rest) X) : Z E G h sz k n (pc, ls, st) := by
  obtain ⟨p, l, e, R', s, m, args, below, meth, c, Q⟩ := G
  obtain ⟨hE, rfl, hx, hb, hml, hown, hW, -⟩ := C
  subst hst
  intro H locs h1 h2 h3 la hla
  obtain ⟨hd, ho⟩ := zT_at ht hl
  have hlen : r.1 = 3 := by have h9 := ho; simp only [zok, beq_iff_eq] at h9; exact h9
  dsimp only at hd
  rw [hlen] at hd
  obtain ⟨p1, p2, p4, p5, p6⟩ := hp
  have hg : goodWord (Cond.codeWith y c9 n9 r9 hh) = true := (List.mem_filter.mp p1).2
  have hb9 : (Cond.codeWith y c9 n9 r9 hh).before args s = true := zmem_at hE hW p1
  have CR := vx_runSX (cells := k) (slots := n) (below := below) (meth := meth) (e := e) (locs := locs) (H := H) (rest := rest) (hh := hh) (bytes := c9) (maxL := n9) (ret := r9) (n := a) (g := F0 m pc la (As.reverse ++ rest)) ⟨hx, hb, hml, hown, fun w hw => zmem_at hE hW hw⟩ hM ⟨⟨rfl, rfl, hR.1, hR.2.1, fun w hw a' U hU => by rw [List.mem_singleton.mp hw]; exact word_at hU (good_of_word hg) hb9, List.mem_cons_self⟩, hb9, zmem_at hE hW p4, p5, fun sig hs => by rw [hs] at p6; exact (Option.some.inj p6).symm, zmem_at hE hW hlk, zmem_at hE hW p2⟩ ⟨zPc_blind, fun U hU hWU => ⟨rfl, State.WarmedH.trans hW hWU, by rw [hU]; exact h1⟩⟩ rfl ha (by rw [← hls]; exact hla.1) rfl (zcat hcat) hd ⟨hR.2.2.1, hR.2.2.2⟩
  intro T hT X
  rcases CR T hT X with ⟨v, st₀, t9, T', L, e0, X', hL, e1, e2, ⟨v2, h', sz', ev, hO, hz, hsz⟩, stp⟩ | ⟨q, st₀, t9, T', L, Ex, ce, e0, X', hL, e1, e2, ⟨h', sz', hO, hz, hsz⟩, hce, hcv, hcl, stp⟩
  · cases ev
    rw [e0] at hsz
    obtain ⟨t2, a1, b1⟩ := kk v h' sz' hO T'.heap (locs ++ L) (by rw [e1]; exact hz) (by rw [e1]; omega) (fun x hx => (List.mem_append.mp hx).elim (h3 x) (hL x)) la hla T' rfl X'
    exact ⟨t2, stp t2 a1, b1⟩
  · rw [e0] at hsz
    obtain ⟨t2, a1, b1⟩ := kx Ex h' sz' hO T'.heap (locs ++ L) q ce (by rw [e1]; exact hz) (by rw [e1]; omega) (fun x hx => (List.mem_append.mp hx).elim (h3 x) (hL x)) (by rw [e1]; exact hce) hcv hcl la hla T' rfl X'
    exact ⟨t2, stp.trans a1, b1⟩
theorem Z_callK (C : zCx E G cc nL own nm ret R) (ht : zT cc t) {idx : Nat} {r : Nat × Int32 × Nat} (hl : t.lookup pc = some (.invokespecial idx, r)) {y : MethodName} {c9 : ByteArray} {n9 a : Nat} {rm : Room} (hp : zPk y c9 n9 a) {host : String} (hlk : Cond.methodLink own idx y ∈ zWs ∨ Cond.methodLinkNest own idx y host ∈ lw_tbl) {O : zO} {b : Nat} (As : List Value) (hM : zK E (zGl G) y [.code y c9 n9 none] rm (.ref b :: As) h sz O) (hst : st = As.reverse ++ .ref b :: rest) (ha : As.length = a) (hR : zRm rm R n9 k n) (hcat : (rest.map fun v => v.category).sum ≤ 8) (hls : ls.length = nL)
    (kk : ∀ (v : Option Value) (h2 : aH) (sz2 : Nat), O (.inl v) h2 sz2 → Z E G h2 sz2 (k + rm.cells) (n + rm.slots) (pc + 3, ls, v.toList ++ rest)) : Z E G h sz k n (pc, ls, st) := by
  obtain ⟨p, l, e, R', s, m, args, below, meth, c, Q⟩ := G
  obtain ⟨hE, rfl, hx, hb, hml, hown, hW, -⟩ := C
  subst hst
  intro H locs h1 h2 h3 la hla
  obtain ⟨hd, ho⟩ := zT_at ht hl
  have hlen : r.1 = 3 := by have h9 := ho; simp only [zok, beq_iff_eq] at h9; exact h9
  dsimp only at hd
  rw [hlen] at hd
  obtain ⟨p1, p2, p3, p4, p5, p6⟩ := hp
  have hg : goodWord (Cond.code y c9 n9 none) = true := (List.mem_filter.mp p1).2
  have hb9 : (Cond.code y c9 n9 none).before args s = true := zmem_at hE hW p1
  have CR : va_Run p l e R' s m args below meth c H locs k n rm.cells rm.slots (F0 m pc la (As.reverse ++ .ref b :: rest)) rest (zQ E O (Value.ref b :: As).toArray) (zA E) := by
    rcases hlk with hlk | hlk
    · exact va_runI (Ts := zWs) ⟨hx, hb, hml, hown, fun w hw => zmem_at hE hW hw⟩ hM ⟨zcallB (k := k) (n := n) (args := args) hE hW p1 p4 p5 p6 hlk hR, p3, zmem_at hE hW p2⟩ ⟨zPc_blind, fun U hU hWU => ⟨rfl, State.WarmedH.trans hW hWU, by rw [hU]; exact h1⟩⟩ rfl ha (by rw [← hls]; exact hla.1) rfl (zcat hcat) hd ⟨hR.2.2.1, hR.2.2.2⟩
    · exact va_runIN (Ts := zWs) (host := host) (bytes := c9) (maxL := n9) (n := a) ⟨hx, hb, hml, hown, fun w hw => zmem_at hE hW hw⟩ hM ⟨⟨⟨rfl, rfl, hR.1, hR.2.1, fun w hw a' U hU => by rw [List.mem_singleton.mp hw]; exact word_at hU (good_of_word hg) hb9, List.mem_cons_self⟩, hb9, zmem_at hE hW p4, p5, fun sig hs => by rw [hs] at p6; exact (Option.some.inj p6).symm, zgw_at hW rfl (hE.1 _ hlk rfl)⟩, p3, zmem_at hE hW p2⟩ ⟨zPc_blind, fun U hU hWU => ⟨rfl, State.WarmedH.trans hW hWU, by rw [hU]; exact h1⟩⟩ rfl ha (by rw [← hls]; exact hla.1) rfl (zcat hcat) hd ⟨hR.2.2.1, hR.2.2.2⟩
  intro T hT X
  obtain ⟨v, st₀, t9, T', L, e0, X', hL, e1, e2, ⟨v2, h', sz', ev, hO, hz, hsz⟩, stp⟩ := CR T hT X
  cases ev
  rw [e0] at hsz
  obtain ⟨t2, a1, b1⟩ := kk v h' sz' hO T'.heap (locs ++ L) (by rw [e1]; exact hz) (by rw [e1]; omega) (fun x hx => (List.mem_append.mp hx).elim (h3 x) (hL x)) la hla T' rfl X'
  exact ⟨t2, stp t2 a1, b1⟩
theorem zend_go {p : Program} {l : Launch} {e : Env} {s : State} {m : MethodId} {args : Array Value} {below : List Frame} {meth : Method} {c : Code} {Q : State → Prop} {O : zO} {mc ms : Nat} {H : Heap} {locs : List Loc} {g : JFrame} (q : zEnd E (p, l, e, R, s, m, args, below, meth, c, Q) O mc ms) (hk : k ≤ mc) (hn : n ≤ ms) (kk : W p l e R s m args below meth c H locs mc ms (MQ below (zQ E O) args s mc ms (zA E)) g) : W p l e R s m args below meth c H locs k n Q g := by
  refine W.widen hk hn ?_
  rcases q with rfl | rfl
  · exact vx_ret kk
  · exact kk
theorem Z_iret (C : zCx E G cc nL own nm (some .int) R) {O : zO} {mc ms : Nat} (q : zEnd E G O mc ms) (ht : zT cc t) {r : Nat × Int32 × Nat} (hl : t.lookup pc = some (.ireturn, r)) {v : Int32} (hO : O (.inl (some (.int v))) h sz) (hk : k ≤ mc) (hn : n ≤ ms) : Z E G h sz k n (pc, ls, [.int v]) := by
  obtain ⟨p, l, e, R', s, m, args, below, meth, c, Q⟩ := G
  obtain ⟨hE, rfl, hx, hb, hml, hown, hW, hlk, hret, -⟩ := C
  intro H locs h1 h2 h3 la hla
  obtain ⟨hd, ho⟩ := zT_at ht hl
  have hlen : r.1 = 1 := by have h9 := ho; simp only [zok, beq_iff_eq] at h9; exact h9
  dsimp only at hd
  rw [hlen] at hd
  exact zend_go q hk hn (W.iret hx hb hret (fun t9 ht9 hW9 => ⟨_, h, sz, rfl, hO, by rw [ht9]; exact h1, by rw [ht9]; exact h2⟩) h3 hd hlk)
theorem Z_zret (C : zCx E G cc nL own nm (some .boolean) R) {O : zO} {mc ms : Nat} (q : zEnd E G O mc ms) (ht : zT cc t) {r : Nat × Int32 × Nat} (hl : t.lookup pc = some (.ireturn, r)) {v : Int32} (hv : v = 0 ∨ v = 1) (hO : O (.inl (some (.int v))) h sz) (hk : k ≤ mc) (hn : n ≤ ms) : Z E G h sz k n (pc, ls, [.int v]) := by
  obtain ⟨p, l, e, R', s, m, args, below, meth, c, Q⟩ := G
  obtain ⟨hE, rfl, hx, hb, hml, hown, hW, hlk, hret, -⟩ := C
  intro H locs h1 h2 h3 la hla
  obtain ⟨hd, ho⟩ := zT_at ht hl
  have hlen : r.1 = 1 := by have h9 := ho; simp only [zok, beq_iff_eq] at h9; exact h9
  dsimp only at hd
  rw [hlen] at hd
  exact zend_go q hk hn (W.zret hx hb hret (by rcases hv with rfl | rfl <;> rfl) (fun t9 ht9 hW9 => ⟨_, h, sz, rfl, hO, by rw [ht9]; exact h1, by rw [ht9]; exact h2⟩) h3 hd hlk)
theorem Z_lret (C : zCx E G cc nL own nm (some .long) R) {O : zO} {mc ms : Nat} (q : zEnd E G O mc ms) (ht : zT cc t) {r : Nat × Int32 × Nat} (hl : t.lookup pc = some (.lreturn, r)) {v : Int64} (hO : O (.inl (some (.long v))) h sz) (hk : k ≤ mc) (hn : n ≤ ms) : Z E G h sz k n (pc, ls, [.long v]) := by
  obtain ⟨p, l, e, R', s, m, args, below, meth, c, Q⟩ := G
  obtain ⟨hE, rfl, hx, hb, hml, hown, hW, hlk, hret, -⟩ := C
  intro H locs h1 h2 h3 la hla
  obtain ⟨hd, ho⟩ := zT_at ht hl
  have hlen : r.1 = 1 := by have h9 := ho; simp only [zok, beq_iff_eq] at h9; exact h9
  dsimp only at hd
  rw [hlen] at hd
  exact zend_go q hk hn (W.lret hx hb hret (fun t9 ht9 hW9 => ⟨_, h, sz, rfl, hO, by rw [ht9]; exact h1, by rw [ht9]; exact h2⟩) h3 hd hlk)
theorem Z_dret (C : zCx E G cc nL own nm (some .double) R) {O : zO} {mc ms : Nat} (q : zEnd E G O mc ms) (ht : zT cc t) {r : Nat × Int32 × Nat} (hl : t.lookup pc = some (.dreturn, r)) {v : UInt64} (hO : O (.inl (some (.double v))) h sz) (hk : k ≤ mc) (hn : n ≤ ms) : Z E G h sz k n (pc, ls, [.double v]) := by
  obtain ⟨p, l, e, R', s, m, args, below, meth, c, Q⟩ := G
  obtain ⟨hE, rfl, hx, hb, hml, hown, hW, hlk, hret, -⟩ := C
  intro H locs h1 h2 h3 la hla
  obtain ⟨hd, ho⟩ := zT_at ht hl
  have hlen : r.1 = 1 := by have h9 := ho; simp only [zok, beq_iff_eq] at h9; exact h9
  dsimp only at hd
  rw [hlen] at hd
  exact zend_go q hk hn (W.dret hx hb hret (fun t9 ht9 hW9 => ⟨_, h, sz, rfl, hO, by rw [ht9]; exact h1, by rw [ht9]; exact h2⟩) h3 hd hlk)
theorem Z_vret (C : zCx E G cc nL own nm none R) {O : zO} {mc ms : Nat} (q : zEnd E G O mc ms) (ht : zT cc t) {r : Nat × Int32 × Nat} (hl : t.lookup pc = some (.return_, r)) (hO : O (.inl none) h sz) (hk : k ≤ mc) (hn : n ≤ ms) : Z E G h sz k n (pc, ls, []) := by
  obtain ⟨p, l, e, R', s, m, args, below, meth, c, Q⟩ := G
  obtain ⟨hE, rfl, hx, hb, hml, hown, hW, hlk, hret, -⟩ := C
  intro H locs h1 h2 h3 la hla
  obtain ⟨hd, ho⟩ := zT_at ht hl
  have hlen : r.1 = 1 := by have h9 := ho; simp only [zok, beq_iff_eq] at h9; exact h9
  dsimp only at hd
  rw [hlen] at hd
  exact zend_go q hk hn (W.vret hx hb hret (fun t9 ht9 hW9 => ⟨_, h, sz, rfl, hO, by rw [ht9]; exact h1, by rw [ht9]; exact h2⟩) h3 hd hlk)
/-- not caught here -/
theorem Z_out (C : zCx E G cc nL own nm ret R) {O : zO} {mc ms : Nat} (q : zEndX E G O mc ms) {X : String} {tb : List ExceptionTableEntry} (hb : zTb G tb) (hp : ∀ x ∈ tb, covers x pc = false) (hO : O (.inr X) h sz) (hk : k ≤ mc) (hn : n ≤ ms) : Zt E G h sz k n (pc, ls, st) X := by
  obtain ⟨p, l, e, R', s, m, args, below, meth, c, Q⟩ := G
  obtain ⟨hE, rfl, hx, hbb, hml, hown, hW, hlk, hret, -⟩ := C
  intro H locs q9 ce h1 h2 h3 h4 h5 h6 la hla
  have q : Q = _ := q
  subst q
  exact vx_out (by intro x hx; exact hp x (by rw [← show c.exceptionTable.toList = tb from hb]; exact hx)) hlk h4 h5 h6 (fun t9 ht9 _ => ⟨h, sz, hO, by rw [ht9]; exact h1, by rw [ht9]; exact h2⟩) h3 hk hn
/-- caught here -/
theorem Z_catch (C : zCx E G cc nL own nm ret R) {X Xc : String} {tb pre suf : List ExceptionTableEntry} {x : ExceptionTableEntry} (hb : zTb G tb) (hs : tb = pre ++ x :: suf) (hpass : ∀ z ∈ pre, covers z pc = false ∨ (z.catchType ≠ 0 ∧ ∃ w : String, Cond.classLink own z.catchType w ∈ zWs ∧ (X, w) ∈ zNc)) (hx : covers x pc = true) (h0 : x.catchType ≠ 0) (hlk : Cond.classLink own x.catchType Xc ∈ zWs) (hca : Cond.castable X Xc ∈ lw_tbl) (kk : ∀ q : Nat, Z E G h sz k n (x.handlerPc, ls, [.ref q])) : Zt E G h sz k n (pc, ls, st) X := by
  obtain ⟨p, l, e, R', s, m, args, below, meth, c, Q⟩ := G
  obtain ⟨hE, rfl, hx9, hbb, hml, hown, hW, -⟩ := C
  intro H locs q9 ce h1 h2 h3 h4 h5 h6 la hla
  exact vx_catch (ce := ce) (name := Xc) (E := X) hown pre x suf ((show c.exceptionTable.toList = tb from hb).trans hs) (fun z hz => (hpass z hz).imp id (fun ⟨g1, w, g2, g3⟩ => ⟨g1, w, zmem_at hE hW g2, va_Nc.moved hW.alike (hE.2.2.2.2.2.2 _ _ g3)⟩)) hx h0 (zmem_at hE hW hlk) (zgw_at hW rfl (hE.1 _ hca rfl)) h4 h5 h6 (kk q9 H locs h1 h2 h3 la hla)
/-- what a throw of a new exception with a text asks of the tables -/
def zTw (own : String) (ik is ic : Nat) (X text : String) (names : List String) : Bool :=
  Bundle.fit X && names.all Bundle.fit && (vx_atS own ic X names).all (fun w => decide (w ∈ lw_tbl) && (zgw w && vx_ot w)) &&
  (decide (Cond.classLink own ik X ∈ zWs) && (vx_ot (Cond.classLink own ik X) && (decide (Cond.initialized X ∈ zWs) && (vx_ot (Cond.initialized X) && decide (Cond.stringRef own is text ∈ lw_tbl)))))
theorem Z_throw (C : zCx E G cc nL own nm ret R) {O : zO} {mc ms : Nat} (q : zEndX E G O mc ms) (hb : zTb G []) (ht : zT cc t) {ik is ic : Nat} {X text : String} {names : List String} {r0 r1 r2 r3 r4 : Nat × Int32 × Nat} (hw : zTw own ik is ic X text names = true) (l0 : t.lookup pc = some (.new ik, r0)) (l1 : t.lookup (pc + 3) = some (.dup, r1)) (l2 : t.lookup (pc + 4) = some (.ldc is, r2)) (l3 : t.lookup (pc + 6) = some (.invokespecial ic, r3)) (l4 : t.lookup (pc + 9) = some (.athrow, r4)) (hls : ls.length = nL) (hR : names.length + 3 < R.frames ∧ (st.map fun v => v.category).sum + (13 * (names.length + 1) + 43) ≤ R.locals ∧ k + 1 ≤ R.cells ∧ n + 6 ≤ R.slots) (hO : O (.inr X) h sz) (hk : k + 1 ≤ mc) (hn : n + 6 ≤ ms) : Z E G h sz k n (pc, ls, st) := by
  obtain ⟨p, l, e, R', s, m, args, below, meth, c, Q⟩ := G
  obtain ⟨hE, rfl, hx, hbb, hml, hown, hW, hlk, hret, hnme, hlt, hlo, hlow⟩ := C
  intro H locs h1 h2 h3 la hla
  have q : Q = _ := q
  subst q
  simp only [zTw, Bool.and_eq_true, decide_eq_true_eq, List.all_eq_true] at hw
  obtain ⟨⟨⟨w1, w2⟩, w3⟩, w4, w5, w6, w7, w8⟩ := hw
  obtain ⟨sa, hsa⟩ := hE.2.2.2.2.2.1 _ _ _ w8
  have d0 := zT_at ht l0
  have d1 := zT_at ht l1
  have d2 := zT_at ht l2
  have d3 := zT_at ht l3
  have d4 := zT_at ht l4
  dsimp only at d0 d1 d2 d3 d4
  simp only [zok, beq_iff_eq] at d0 d1 d2 d3 d4
  rw [d0.2] at d0; rw [d1.2] at d1; rw [d2.2] at d2; rw [d3.2] at d3; rw [d4.2] at d4
  have htb : c.exceptionTable.toList = [] := hb
  have hS : va_S (zA E) s.heap H locs := ⟨h2, fun q9 g1 g2 => by
    have g3 : q9 < zB E := Nat.not_le.mp g2
    rw [h1.2.2.1 q9 g3, hlow q9 g3], h3⟩
  have mv : ∀ {f d : String}, vx_Zq Bundle.tN f d (zA E) E.1 E.1.heap → vx_Zq Bundle.tN f d (zA E) s s.heap := fun hz => vx_Zq.moved hW.alike (hz.kept (fun a g1 g2 => hlow a (Nat.not_le.mp g2)))
  exact vx_throwS (text := text) (names := names) (sa := sa) (A := zA E) hx hbb hlt hown w1 w2 (zmem_at hE hW w4) (zmem_at hE hW w6) (vk_R.warm hW hsa) (fun w hw => zgw_at hW (w3 w hw).2.1 (hE.1 w (w3 w hw).1 (w3 w hw).2.1)) (fun w hw => by
      rcases List.mem_cons.mp hw with rfl | hw
      · exact w5
      · rcases List.mem_cons.mp hw with rfl | hw
        · exact w7
        · exact (w3 w hw).2.2) (mv hE.2.2.2.1) (mv hE.2.2.2.2.1) hS (by rw [hml, ← hls]; exact hla.1) d0.1 d1.1 d2.1 d3.1 d4.1 (by intro x hx9; rw [htb] at hx9; cases hx9) hR.1 hR.2.1 hR.2.2.1 hR.2.2.2 hlk (fun t9 _ g1 g2 => ⟨h, sz, hO, ⟨h1.1, Nat.le_trans h1.2.1 g1, fun q9 g3 => by rw [g2 q9 (Nat.lt_of_lt_of_le g3 (Nat.le_trans h1.1 h1.2.1))]; exact h1.2.2.1 q9 g3, fun a c9 g3 => ⟨(h1.2.2.2 a c9 g3).1, (h1.2.2.2 a c9 g3).2.kept (g2 a (Nat.lt_of_lt_of_le (h1.2.2.2 a c9 g3).1 h1.2.1))⟩⟩, Nat.le_trans h2 g1⟩) h3 hk hn
theorem Z_throwW (C : zCx E G cc nL own nm ret R) {O : zO} {mc ms : Nat} (q : zEndX E G O mc ms) (hb : zTb G []) (ht : zT cc t) {ik is ic : Nat} {X text : String} {names : List String} {r0 r1 r2 r3 r4 : Nat × Int32 × Nat} (hw : zTw own ik is ic X text names = true) (l0 : t.lookup pc = some (.new ik, r0)) (l1 : t.lookup (pc + 3) = some (.dup, r1)) (l2 : t.lookup (pc + 4) = some (.ldc_w is, r2)) (l3 : t.lookup (pc + 7) = some (.invokespecial ic, r3)) (l4 : t.lookup (pc + 10) = some (.athrow, r4)) (hls : ls.length = nL) (hR : names.length + 3 < R.frames ∧ (st.map fun v => v.category).sum + (13 * (names.length + 1) + 43) ≤ R.locals ∧ k + 1 ≤ R.cells ∧ n + 6 ≤ R.slots) (hO : O (.inr X) h sz) (hk : k + 1 ≤ mc) (hn : n + 6 ≤ ms) : Z E G h sz k n (pc, ls, st) := by
  obtain ⟨p, l, e, R', s, m, args, below, meth, c, Q⟩ := G
  obtain ⟨hE, rfl, hx, hbb, hml, hown, hW, hlk, hret, hnme, hlt, hlo, hlow⟩ := C
  intro H locs h1 h2 h3 la hla
  have q : Q = _ := q
  subst q
  simp only [zTw, Bool.and_eq_true, decide_eq_true_eq, List.all_eq_true] at hw
  obtain ⟨⟨⟨w1, w2⟩, w3⟩, w4, w5, w6, w7, w8⟩ := hw
  obtain ⟨sa, hsa⟩ := hE.2.2.2.2.2.1 _ _ _ w8
  have d0 := zT_at ht l0
  have d1 := zT_at ht l1
  have d2 := zT_at ht l2
  have d3 := zT_at ht l3
  have d4 := zT_at ht l4
  dsimp only at d0 d1 d2 d3 d4
  simp only [zok, beq_iff_eq] at d0 d1 d2 d3 d4
  rw [d0.2] at d0; rw [d1.2] at d1; rw [d2.2] at d2; rw [d3.2] at d3; rw [d4.2] at d4
  have htb : c.exceptionTable.toList = [] := hb
  have hS : va_S (zA E) s.heap H locs := ⟨h2, fun q9 g1 g2 => by
    have g3 : q9 < zB E := Nat.not_le.mp g2
    rw [h1.2.2.1 q9 g3, hlow q9 g3], h3⟩
  have mv : ∀ {f d : String}, vx_Zq Bundle.tN f d (zA E) E.1 E.1.heap → vx_Zq Bundle.tN f d (zA E) s s.heap := fun hz => vx_Zq.moved hW.alike (hz.kept (fun a g1 g2 => hlow a (Nat.not_le.mp g2)))
  exact vx_throwSW (text := text) (names := names) (sa := sa) (A := zA E) hx hbb hlt hown w1 w2 (zmem_at hE hW w4) (zmem_at hE hW w6) (vk_R.warm hW hsa) (fun w hw => zgw_at hW (w3 w hw).2.1 (hE.1 w (w3 w hw).1 (w3 w hw).2.1)) (fun w hw => by
      rcases List.mem_cons.mp hw with rfl | hw
      · exact w5
      · rcases List.mem_cons.mp hw with rfl | hw
        · exact w7
        · exact (w3 w hw).2.2) (mv hE.2.2.2.1) (mv hE.2.2.2.2.1) hS (by rw [hml, ← hls]; exact hla.1) d0.1 d1.1 d2.1 d3.1 d4.1 (by intro x hx9; rw [htb] at hx9; cases hx9) hR.1 hR.2.1 hR.2.2.1 hR.2.2.2 hlk (fun t9 _ g1 g2 => ⟨h, sz, hO, ⟨h1.1, Nat.le_trans h1.2.1 g1, fun q9 g3 => by rw [g2 q9 (Nat.lt_of_lt_of_le g3 (Nat.le_trans h1.1 h1.2.1))]; exact h1.2.2.1 q9 g3, fun a c9 g3 => ⟨(h1.2.2.2 a c9 g3).1, (h1.2.2.2 a c9 g3).2.kept (g2 a (Nat.lt_of_lt_of_le (h1.2.2.2 a c9 g3).1 h1.2.1))⟩⟩, Nat.le_trans h2 g1⟩) h3 hk hn
end ZC1
