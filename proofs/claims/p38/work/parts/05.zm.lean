/-! ===== the abstract machine with a heap: the heap is a function from addresses to cells (kind, length, contents); the facts of the law's start are E ===== -/
abbrev zE : Type := State × (Nat → ClassId) × (Nat → Nat → Nat) × (Nat → ClassId)
/-- a cell: its kind (0..6 an object of the class of that place, 10..14 an array of ours, 15 an array of ints that is only read), its length, what it holds -/
abbrev aC : Type := Nat × Nat × (Nat → Value)
abbrev aH : Type := Nat → Option aC
abbrev zO : Type := (Option Value ⊕ String) → aH → Nat → Prop
abbrev zG : Type := Program × Launch × Env × Room × State × MethodId × Array Value × List Frame × Method × Code × (State → Prop)
def zty : Nat → FieldType
  | 11 => .long
  | 13 => .char
  | 14 => .object R_Gm
  | _ => .int
def zB (E : zE) : Nat := E.1.heap.size
def zA (E : zE) : Nat → Prop := fun q => zB E ≤ q
def hset (h : aH) (a : Nat) (c : aC) : aH := fun b => if b = a then some c else h b
theorem hset_s {h : aH} {a : Nat} {c : aC} : hset h a c a = some c := by simp [hset]
theorem hset_n {h : aH} {a b : Nat} {c : aC} (hn : b ≠ a) : hset h a c b = h b := by simp [hset, hn]
def zC (E : zE) (a : Nat) (c : aC) (H : Heap) : Prop :=
  (c.1 < 6 ∧ ∃ r : vw_C, zCl[c.1]? = some r ∧ t_OB a (E.2.1 c.1) r.2.2 (E.2.2.1 c.1) H c.2.2) ∨
  (10 ≤ c.1 ∧ c.1 < 15 ∧ H[a]? = some (arrV (E.2.2.2 c.1) c.2.1 c.2.2)) ∨
  (c.1 = 15 ∧ va_T .int a c.2.1 c.2.2 (zA E) E.1 H)
theorem zC.kept {E : zE} {a : Nat} {c : aC} {H H1 : Heap} (h : zC E a c H) (h1 : H1[a]? = H[a]?) : zC E a c H1 := by
  rcases h with ⟨q, r, h2, h3⟩ | ⟨q1, q2, q3⟩ | ⟨q1, cell, q2, q3⟩
  · exact Or.inl ⟨q, r, h2, h3.kept h1⟩
  · exact Or.inr (Or.inl ⟨q1, q2, h1.trans q3⟩)
  · exact Or.inr (Or.inr ⟨q1, cell, h1.trans q2, q3⟩)
theorem zC.lt {E : zE} {a : Nat} {c : aC} {H : Heap} (h : zC E a c H) : a < H.size := by
  rcases h with ⟨q, r, h2, cell, h3, -⟩ | ⟨q1, q2, q3⟩ | ⟨q1, cell, q2, q3⟩
  · exact (Array.getElem?_eq_some_iff.mp h3).1
  · exact (Array.getElem?_eq_some_iff.mp q3).1
  · exact (Array.getElem?_eq_some_iff.mp q2).1
def zH (E : zE) (h : aH) (sz : Nat) (H : Heap) : Prop :=
  zB E ≤ sz ∧ sz ≤ H.size ∧ (∀ q : Nat, q < zB E → H[q]? = E.1.heap[q]?) ∧ ∀ (a : Nat) (c : aC), h a = some c → a < sz ∧ zC E a c H
theorem zH.set {E : zE} {h : aH} {sz a : Nat} {c : aC} {H H1 : Heap} (hh : zH E h sz H) (z : H1.size = H.size) (oq : ∀ q : Nat, q ≠ a → H1[q]? = H[q]?) (hb : zB E ≤ a) (hlt : a < sz) (hc : zC E a c H1) : zH E (hset h a c) sz H1 := by
  obtain ⟨h1, h2, h3, h4⟩ := hh
  refine ⟨h1, by rw [z]; exact h2, fun q hq => ?_, fun b d hd => ?_⟩
  · rw [oq q (by omega)]
    exact h3 q hq
  · by_cases e : b = a
    · subst e
      rw [hset_s] at hd
      cases hd
      exact ⟨hlt, hc⟩
    · rw [hset_n e] at hd
      exact ⟨(h4 b d hd).1, (h4 b d hd).2.kept (oq b e)⟩
theorem zH.push {E : zE} {h : aH} {sz : Nat} {c : aC} {H H1 : Heap} (hh : zH E h sz H) (z : H1.size = H.size + 1) (oq : ∀ q : Nat, q < H.size → H1[q]? = H[q]?) (hc : zC E H.size c H1) : zH E (hset h H.size c) (H.size + 1) H1 := by
  obtain ⟨h1, h2, h3, h4⟩ := hh
  refine ⟨by omega, by omega, fun q hq => ?_, fun b d hd => ?_⟩
  · rw [oq q (by omega)]
    exact h3 q hq
  · by_cases e : b = H.size
    · subst e
      rw [hset_s] at hd
      cases hd
      exact ⟨by omega, hc⟩
    · rw [hset_n e] at hd
      obtain ⟨g1, g2⟩ := h4 b d hd
      exact ⟨by omega, g2.kept (oq b (by omega))⟩
/-- pairs of classes of which one isn't castable to the other -/
def zNc : List (String × String) := [("BrackenGambit", "java/lang/IndexOutOfBoundsException"), ("BrackenGambit$Game", "java/lang/IndexOutOfBoundsException"), ("BrackenGambit$Board", "java/lang/IndexOutOfBoundsException"), ("BrackenGambit$History", "java/lang/IndexOutOfBoundsException"), ("BrackenGambit$MoveText", "java/lang/IndexOutOfBoundsException"), ("java/lang/IllegalArgumentException", "java/lang/IndexOutOfBoundsException"), ("java/lang/IllegalStateException", "java/lang/IndexOutOfBoundsException"), ("java/util/NoSuchElementException", "java/lang/IndexOutOfBoundsException"), ("BrackenGambit$Position", "java/lang/IndexOutOfBoundsException"), ("BrackenGambit", "java/util/NoSuchElementException"), ("BrackenGambit$Game", "java/util/NoSuchElementException"), ("BrackenGambit$Board", "java/util/NoSuchElementException"), ("BrackenGambit$History", "java/util/NoSuchElementException"), ("BrackenGambit$MoveText", "java/util/NoSuchElementException"), ("java/lang/IndexOutOfBoundsException", "java/util/NoSuchElementException"), ("java/lang/IllegalArgumentException", "java/util/NoSuchElementException"), ("java/lang/IllegalStateException", "java/util/NoSuchElementException"), ("BrackenGambit$Position", "java/util/NoSuchElementException"), ("BrackenGambit", "java/lang/IllegalStateException"), ("BrackenGambit$Game", "java/lang/IllegalStateException"), ("BrackenGambit$Board", "java/lang/IllegalStateException"), ("BrackenGambit$History", "java/lang/IllegalStateException"), ("BrackenGambit$MoveText", "java/lang/IllegalStateException"), ("java/lang/IndexOutOfBoundsException", "java/lang/IllegalStateException"), ("java/lang/IllegalArgumentException", "java/lang/IllegalStateException"), ("java/util/NoSuchElementException", "java/lang/IllegalStateException"), ("BrackenGambit$Position", "java/lang/IllegalStateException"), ("BrackenGambit", "java/lang/IllegalArgumentException"), ("BrackenGambit$Game", "java/lang/IllegalArgumentException"), ("BrackenGambit$Board", "java/lang/IllegalArgumentException"), ("BrackenGambit$History", "java/lang/IllegalArgumentException"), ("BrackenGambit$MoveText", "java/lang/IllegalArgumentException"), ("java/lang/IndexOutOfBoundsException", "java/lang/IllegalArgumentException"), ("java/lang/IllegalStateException", "java/lang/IllegalArgumentException"), ("java/util/NoSuchElementException", "java/lang/IllegalArgumentException"), ("BrackenGambit$Position", "java/lang/IllegalArgumentException")]
/-- words that go from the law's start to every call's -/
def zgw : Cond → Bool
  | .castable .. => true
  | .declares .. => true
  | .methodLinkNest .. => true
  | w => goodWord w
theorem zgw_at {s U : State} {args args' : Array Value} (hW : s.WarmedH U.vm) {w : Cond} (hg : zgw w = true) (h : w.before args s = true) : w.before args' U = true := by
  cases w
  case castable C T => exact va_Nw.use rfl (va_Nw.warmC hW (va_Nw.of rfl h))
  case declares x => exact va_Nw.use rfl (va_Nw.warmD hW (va_Nw.of rfl h))
  case methodLinkNest a i x hh => exact va_Nw.use rfl (va_Nw.warmM hW (va_Nw.of rfl h))
  all_goals exact word_at hW (good_of_word hg) h
theorem zgw_good {w : Cond} (h : goodWord w = true) : zgw w = true := by
  cases w <;> first | rfl | exact h
/-- the facts of the law's start -/
def zEv (E : zE) : Prop :=
  (∀ w ∈ lw_tbl, zgw w = true → w.before #[] E.1 = true) ∧ va_K (E.2.1, E.2.2.1) zCl [] E.1 ∧
  (∀ t : Nat, 10 ≤ t → t < 15 → ArrOfT E.1 (E.2.2.2 t) (zty t) ∧ va_RA E.1 (E.2.2.2 t) (zty t)) ∧
  vx_Zq Bundle.tN "UNASSIGNED_STACK" Bundle.steD (zA E) E.1 E.1.heap ∧ vx_Zq Bundle.tN "SUPPRESSED_SENTINEL" Bundle.listD (zA E) E.1 E.1.heap ∧
  (∀ (own : String) (k : Nat) (tx : String), Cond.stringRef own k tx ∈ lw_tbl → ∃ sa : Nat, vk_R own k tx sa E.1) ∧
  (∀ C T : String, (C, T) ∈ zNc → va_Nc C T E.1)
def zCx (E : zE) (G : zG) (cc : ByteArray) (nL : Nat) (own nm : String) (ret : Option FieldType) (R : Room) : Prop :=
  match G with
  | (p, l, e, R', s, m, args, below, meth, c, Q) => zEv E ∧ R' = R ∧ p.tables.exec = Jvm.exec ∧ c.code = cc ∧ c.maxLocals = nL ∧ s.vm.findClass own = some m.cls ∧ E.1.WarmedH s.vm ∧ meth.locks = false ∧ meth.sig.returnType = ret ∧ meth.name = nm ∧ l.stackTraces = false ∧ zB E ≤ s.heap.size ∧ (∀ q : Nat, q < zB E → s.heap[q]? = E.1.heap[q]?)
/-- from the abstract frame f over the abstract heap h, whose cells lie below sz, the machine comes to its end; k cells and n slots are made so far -/
def Z (E : zE) (G : zG) (h : aH) (sz k n : Nat) (f : zF) : Prop :=
  match G with
  | (p, l, e, R, s, m, args, below, meth, c, Q) => ∀ (H : Heap) (locs : List Loc), zH E h sz H → s.heap.size ≤ H.size → (∀ x ∈ locs, zB E ≤ x.base) → zW p l e R s m args below meth c H locs k n Q f
/-- the same, with an exception of the class X thrown there -/
def Zt (E : zE) (G : zG) (h : aH) (sz k n : Nat) (f : zF) (X : String) : Prop :=
  match G with
  | (p, l, e, R, s, m, args, below, meth, c, Q) => ∀ (H : Heap) (locs : List Loc) (q : Nat) (ce : Cell), zH E h sz H → s.heap.size ≤ H.size → (∀ x ∈ locs, zB E ≤ x.base) → H[q]? = some ce → ce.vm = .none → s.vm.findClass X = some ce.cls → ∀ la : Array Slot, zl_has la f.2.1 → vx_W p l e R s m args below meth c H locs k n Q (F0 m f.1 la f.2.2) q
section ZR
variable {E : zE} {G : zG} {cc : ByteArray} {nL : Nat} {own nm : String} {ret : Option FieldType} {R : Room} {h : aH} {sz k n : Nat} {t : List zI} {pc : Nat} {ls : zL} {st rest : List Value}
theorem zmem_at {s : State} {args : Array Value} (hE : zEv E) (hW : E.1.WarmedH s.vm) {w : Cond} (hw : w ∈ zWs) : w.before args s = true := by
  obtain ⟨h1, h2⟩ := List.mem_filter.mp hw
  exact zgw_at hW (zgw_good h2) (hE.1 w h1 (zgw_good h2))
theorem Z_run (C : zCx E G cc nL own nm ret R) (ht : zT cc t) (j : Nat) {f2 : zF} (hr : zrun t j (pc, ls, st) = some f2) (kk : Z E G h sz k n f2) : Z E G h sz k n (pc, ls, st) := by
  obtain ⟨p, l, e, R', s, m, args, below, meth, c, Q⟩ := G
  obtain ⟨hE, rfl, hx, hb, -⟩ := C
  intro H locs h1 h2 h3
  exact zrun_ok hx hb ht j _ _ hr (kk H locs h1 h2 h3)
theorem Z_br (C : zCx E G cc nL own nm ret R) (ht : zT cc t) {ins : Instr} {len tgt : Nat} {imm : Int32} (hl : t.lookup pc = some (ins, len, imm, tgt)) {P : Prop} {r : List Value} (hf : zbr ins st = some (P, r)) (kt : P → Z E G h sz k n (tgt, ls, r)) (kf : ¬ P → Z E G h sz k n (pc + 3, ls, r)) : Z E G h sz k n (pc, ls, st) := by
  obtain ⟨p, l, e, R', s, m, args, below, meth, c, Q⟩ := G
  obtain ⟨hE, rfl, hx, hb, -⟩ := C
  intro H locs h1 h2 h3
  exact zbr_ok hx hb ht hl hf (fun q => kt q H locs h1 h2 h3) (fun q => kf q H locs h1 h2 h3)
theorem Z_widen {k2 n2 : Nat} (h1 : k ≤ k2) (h2 : n ≤ n2) {f : zF} (kk : Z E G h sz k2 n2 f) : Z E G h sz k n f := by
  obtain ⟨p, l, e, R', s, m, args, below, meth, c, Q⟩ := G
  intro H locs g1 g2 g3 la hla
  exact W.widen h1 h2 (kk H locs g1 g2 g3 la hla)
/-- fewer locals are known -/
theorem Z_ls {ls2 : zL} (hlen : ls2.length = ls.length) (hsub : ∀ q ∈ zl_as 0 ls2, q ∈ zl_as 0 ls) (kk : Z E G h sz k n (pc, ls2, st)) : Z E G h sz k n (pc, ls, st) := by
  obtain ⟨p, l, e, R', s, m, args, below, meth, c, Q⟩ := G
  intro H locs g1 g2 g3 la hla
  refine kk H locs g1 g2 g3 la ⟨?_, hla.2.1, fun q hq => hla.2.2 q (hsub q hq)⟩
  show la.size = ls2.length
  rw [hlen]
  exact hla.1
/-- another picture of the same heap -/
theorem Z_heap {h2 : aH} {sz2 : Nat} {f : zF} (hz : sz2 ≤ sz) (hlo : zB E ≤ sz2) (hsub : ∀ (a : Nat) (c : aC), h2 a = some c → h a = some c ∧ a < sz2) (kk : Z E G h2 sz2 k n f) : Z E G h sz k n f := by
  obtain ⟨p, l, e, R', s, m, args, below, meth, c, Q⟩ := G
  intro H locs g1 g2 g3
  obtain ⟨q1, q2, q3, q4⟩ := g1
  exact kk H locs ⟨hlo, by omega, q3, fun a c hc => ⟨(hsub a c hc).2, (q4 a c (hsub a c hc).1).2⟩⟩ g2 g3
theorem zC_obj {s : State} {a ci N : Nat} {fs : Nat → Value} {H : Heap} {Cn : String} {T : u_T} (hE : zEv E) (hW : E.1.WarmedH s.vm) {nn : Nat} (hc : zC E a (ci, nn, fs) H) (hi : zCl[ci]? = some (Cn, T, N)) : t_OB a (E.2.1 ci) N (E.2.2.1 ci) H fs ∧ u_Kn s Cn T N (E.2.1 ci) (E.2.2.1 ci) := by
  have hlt : ci < 6 := (List.getElem?_eq_some_iff.mp hi).1
  refine ⟨?_, (va_K.moved hW.alike hE.2.1).1 ci _ hi⟩
  rcases hc with ⟨q, r, h2, h3⟩ | ⟨q1, q2, q3⟩ | ⟨q1, cell, q2, q3⟩
  · cases h2.symm.trans hi
    exact h3
  · exact absurd q1 (by show ¬ 10 ≤ ci; omega)
  · exact absurd q1 (by show ¬ ci = 15; omega)
theorem zl_link {s : State} {args : Array Value} {own ref nm desc : String} {idx : Nat} (hE : zEv E) (hW : E.1.WarmedH s.vm) (hw : Cond.fieldLink own idx ref nm desc ∈ zWs) : (Cond.fieldLink own idx ref nm desc).before args s = true := zmem_at hE hW hw
theorem Z_getf (C : zCx E G cc nL own nm ret R) (ht : zT cc t) {idx : Nat} {r : Nat × Int32 × Nat} (hl : t.lookup pc = some (.getfield idx, r)) {a ci nn N j : Nat} {fs : Nat → Value} {Cn : String} {T : u_T} (hwi : ∀ w ∈ u_ws Cn T N, w ∈ zWs) (ha : h a = some (ci, nn, fs)) (hci : zCl[ci]? = some (Cn, T, N)) (hj : j < N) (hlink : Cond.fieldLink own idx (T j).1 (T j).2.1 (T j).2.2.1 ∈ zWs) {v : Value} (hv : fs j = v) (kk : Z E G h sz k n (pc + 3, ls, v :: rest)) : Z E G h sz k n (pc, ls, .ref a :: rest) := by
  obtain ⟨p, l, e, R', s, m, args, below, meth, c, Q⟩ := G
  obtain ⟨hE, rfl, hx, hb, hml, hown, hW, -⟩ := C
  intro H locs h1 h2 h3 la hla
  obtain ⟨hd, ho⟩ := zT_at ht hl
  obtain ⟨⟨cell, q1, q2, q3, q4⟩, hS, hfc, kC, hkC, hkind⟩ := zC_obj (s := s) hE hW (h1.2.2.2 a _ ha).2 hci
  obtain ⟨cf, kf, fi, f, hi, hsl⟩ := hS j hj
  have hlen : r.1 = 3 := by have h9 := ho; simp only [zok, beq_iff_eq] at h9; exact h9
  dsimp only at hd
  rw [hlen] at hd
  have hts : ∀ w ∈ zWs, w.before args s = true := fun w hw => zmem_at hE hW hw
  refine W.getf hx hb hown (hts _ hlink) hi (u_facts hfc hkC (u_lays hts hwi hj) hi).1 q1 (by rw [q3]; exact fun h => by cases h) (v := v) ?_ rfl rfl hd (kk H locs h1 h2 h3 la hla)
  rw [hsl, q4 j hj, hv]
theorem zap {s : State} {Cn : String} {T : u_T} {N ci : Nat} (hE : zEv E) (hW : E.1.WarmedH s.vm) (hwi : ∀ w ∈ u_ws Cn T N, w ∈ zWs) (ty : Nat → FieldType) (hty : ∀ k, k < N → parseFieldDescriptor (T k).2.2.1 = some (ty k)) (hnm : ∀ a, a < N → ∀ b, b < N → a ≠ b → (T a).2.1 ≠ (T b).2.1) (hci : zCl[ci]? = some (Cn, T, N)) : ∀ x y, x < N → y < N → x ≠ y → (E.2.2.1 ci) x ≠ (E.2.2.1 ci) y :=
  va_apart (own := Cn) (args := #[]) (D := (E.2.1, E.2.2.1)) (fun w hw => zmem_at hE hW hw) hwi ty hty hnm (va_K.moved hW.alike hE.2.1) hci
theorem Z_putf (C : zCx E G cc nL own nm ret R) (ht : zT cc t) {idx : Nat} {r : Nat × Int32 × Nat} (hl : t.lookup pc = some (.putfield idx, r)) {a ci nn N j : Nat} {fs : Nat → Value} {Cn : String} {T : u_T} (hwi : ∀ w ∈ u_ws Cn T N, w ∈ zWs) (ty : Nat → FieldType) (hty : ∀ k, k < N → parseFieldDescriptor (T k).2.2.1 = some (ty k)) (hnm : ∀ a, a < N → ∀ b, b < N → a ≠ b → (T a).2.1 ≠ (T b).2.1) (ha : h a = some (ci, nn, fs)) (hci : zCl[ci]? = some (Cn, T, N)) (hj : j < N) (hlink : Cond.fieldLink own idx (T j).1 (T j).2.1 (T j).2.2.1 ∈ zWs) (hfin : (T j).2.2.2 = false ∨ ((T j).1 = own ∧ nm = "<init>")) {v : Value} (hn : narrow (ty j) v = v) (hfit : fits (ty j) v = true) (hB : zB E ≤ a) (kk : Z E G (hset h a (ci, nn, updV fs j v)) sz k n (pc + 3, ls, rest)) : Z E G h sz k n (pc, ls, v :: .ref a :: rest) := by
  obtain ⟨p, l, e, R', s, m, args, below, meth, c, Q⟩ := G
  obtain ⟨hE, rfl, hx, hb, hml, hown, hW, hlk, hret, hnme, -⟩ := C
  intro H locs h1 h2 h3 la hla
  obtain ⟨hd, ho⟩ := zT_at ht hl
  obtain ⟨⟨cell, q1, q2, q3, q4⟩, hS, hfc, kC, hkC, hkind⟩ := zC_obj (s := s) hE hW (h1.2.2.2 a _ ha).2 hci
  obtain ⟨cf, kf, fi, f, hi, hsl⟩ := hS j hj
  have hlen : r.1 = 3 := by have h9 := ho; simp only [zok, beq_iff_eq] at h9; exact h9
  dsimp only at hd
  rw [hlen] at hd
  have hts : ∀ w ∈ zWs, w.before args s = true := fun w hw => zmem_at hE hW hw
  have hap := zap (s := s) hE hW hwi ty hty hnm hci
  have hlay := u_lays hts hwi hj
  have h6 := u_fits hfc hkC hkind hlay hi (hty j hj) hn hfit
  have key : ∀ H' : Heap, H'[a]? = some (cell.setSlot f.slot v) → H'.size = H.size → (∀ q, q ≠ a → H'[q]? = H[q]?) → W p l e R' s m args below meth c H' (locs ++ [⟨a, f.slot⟩]) k n Q (F0 m (pc + 3) la rest) := by
    intro H' e1 e2 e3
    rw [hsl] at e1
    refine kk H' _ (h1.set e2 e3 hB (h1.2.2.2 a _ ha).1 (Or.inl ⟨(List.getElem?_eq_some_iff.mp hci).1, _, hci, _, e1, q2, q3, t_set q4 hap hj v⟩)) (by rw [e2]; exact h2) (fun x hx => ?_) la hla
    rcases List.mem_append.mp hx with hx | hx
    · exact h3 x hx
    · rw [List.mem_singleton.mp hx]
      exact hB
  have hslot : f.slot < cell.slots.size := by rw [hsl]; exact k2_hasslot (q4 j hj)
  rcases hfin with hfin | ⟨hf1, hf2⟩
  · have hl2 := hts _ (hwi _ (u_in_lay hj))
    unfold u_lay at hl2
    rw [if_neg (by rw [hfin]; decide)] at hl2
    have h7 := u_store hfc hkC hkind hl2 hi (hty j hj) hn hfit
    exact W.putK hx hb (f := f) ⟨hown, hts _ hlink, ⟨_, _, _, hi⟩, (u_facts hfc hkC hlay hi).1⟩ (by rw [q2]; exact h7) q1 q3 hslot rfl rfl hd key
  · by_cases hfl : (T j).2.2.2 = true
    · have hl2 := hts _ (hwi _ (u_in_lay hj))
      unfold u_lay at hl2
      rw [if_pos hfl] at hl2
      have hcf : m.cls = cf := by
        obtain ⟨_, _, c', _, _, _, -, -, hf', -, -, -, hown2, -⟩ := Cond.laysFinal_spec hl2
        have e1 : c' = cf := by have := hi.symm.trans hf'; simp at this; exact this.1.symm
        rw [hf1] at hown2
        rw [← e1]; exact Option.some.inj (hown.symm.trans hown2)
      exact W.putFinK hx hb hown (hts _ hlink) hi (u_facts hfc hkC hlay hi).1 hcf (hnme.trans hf2) (by rw [q2]; exact h6) q1 q3 hslot rfl rfl hd key
    · have hl2 := hts _ (hwi _ (u_in_lay hj))
      unfold u_lay at hl2
      rw [if_neg hfl] at hl2
      have h7 := u_store hfc hkC hkind hl2 hi (hty j hj) hn hfit
      exact W.putK hx hb (f := f) ⟨hown, hts _ hlink, ⟨_, _, _, hi⟩, (u_facts hfc hkC hlay hi).1⟩ (by rw [q2]; exact h7) q1 q3 hslot rfl rfl hd key
/-- an array's cell: what a read needs -/
theorem zC_arr {s : State} {a tg nn : Nat} {fs : Nat → Value} {H : Heap} (hE : zEv E) (hW : E.1.WarmedH s.vm) (hc : zC E a (tg, nn, fs) H) (h7 : 7 ≤ tg) : ∃ cell : Cell, H[a]? = some cell ∧ s.isArrayOf cell (zty tg) ∧ cell.vm ≠ .unknown ∧ nn ≤ cell.slots.size ∧ (∀ j : Nat, j < nn → cell.slots[j]? = some (fs j)) := by
  rcases hc with ⟨q, -⟩ | ⟨q1, q2, q3⟩ | ⟨q1, cell, q2, q3, q4, q5, q6, q7, q8⟩
  · exact absurd q (by show ¬ tg < 6; omega)
  · exact ⟨_, q3, State.isArrayOf_alike hW.alike ((hE.2.2.1 tg q1 q2).1 _ _), (fun z => by cases z), by rw [arrV_size]; exact Nat.le_refl _, fun j hj => arrV_read _ _ hj⟩
  · have q9 : tg = 15 := q1
    subst q9
    exact ⟨cell, q2, State.isArrayOf_alike hW.alike q3, q4, q5, q7⟩
def zld (tg : Nat) : Instr := match tg with
  | 11 => .laload
  | 13 => .caload
  | 14 => .aaload
  | _ => .iaload
def zst (tg : Nat) : Instr := match tg with
  | 11 => .lastore
  | 13 => .castore
  | 14 => .aastore
  | _ => .iastore
theorem Z_ald (C : zCx E G cc nL own nm ret R) (ht : zT cc t) {tg : Nat} {r : Nat × Int32 × Nat} (hl : t.lookup pc = some (zld tg, r)) {a nn j : Nat} {i : Int32} {fs : Nat → Value} (ha : h a = some (tg, nn, fs)) (h7 : 10 ≤ tg ∧ tg < 16) (hi : i = nI j) (hj : j < nn) (hnn : nn < 2 ^ 31) {v : Value} (hv : fs j = v) (kk : Z E G h sz k n (pc + 1, ls, v :: rest)) : Z E G h sz k n (pc, ls, .int i :: .ref a :: rest) := by
  obtain ⟨p, l, e, R', s, m, args, below, meth, c, Q⟩ := G
  obtain ⟨hE, rfl, hx, hb, hml, hown, hW, -⟩ := C
  intro H locs h1 h2 h3 la hla
  obtain ⟨hd, ho⟩ := zT_at ht hl
  obtain ⟨cell, q1, q2, q3, q4, q5⟩ := zC_arr (s := s) hE hW (h1.2.2.2 a _ ha).2 (by omega)
  have hcl : i.toNatClampNeg = j := by rw [hi]; exact nI_clamp (by omega)
  have hin : ¬ (i < 0 ∨ cell.slots.size ≤ i.toNatClampNeg) := by
    rw [hcl, hi]
    rintro (g | g)
    · exact nI_pos (by omega) g
    · omega
  have hval : cell.slots[i.toNatClampNeg]? = some v := by rw [hcl, q5 j hj, hv]
  have K := kk H locs h1 h2 h3 la hla
  have hlen : r.1 = 1 := by
    obtain ⟨g1, g2⟩ := h7
    rcases (show tg = 10 ∨ tg = 11 ∨ tg = 12 ∨ tg = 13 ∨ tg = 14 ∨ tg = 15 by omega) with rfl | rfl | rfl | rfl | rfl | rfl <;> (have h9 := ho; simp only [zok, zld, beq_iff_eq] at h9; exact h9)
  dsimp only at hd
  rw [hlen] at hd
  obtain ⟨g1, g2⟩ := h7
  rcases (show tg = 10 ∨ tg = 11 ∨ tg = 12 ∨ tg = 13 ∨ tg = 14 ∨ tg = 15 by omega) with rfl | rfl | rfl | rfl | rfl | rfl
  · exact W.iald hx hb q1 q2 q3 hin hval rfl rfl hd K
  · exact W.lald hx hb q1 q2 q3 hin hval rfl rfl hd K
  · exact W.iald hx hb q1 q2 q3 hin hval rfl rfl hd K
  · exact W.cald hx hb q1 q2 q3 hin hval rfl rfl hd K
  · exact W.aald (ty := .object R_Gm) hx hb q1 q2 rfl q3 hin hval rfl rfl hd K
  · exact W.iald hx hb q1 q2 q3 hin hval rfl rfl hd K
/-- what may be stored: a number of the array's kind -/
def zfit (tg : Nat) (v : Value) : Prop := match tg, v with
  | 10, .int _ => True
  | 11, .long _ => True
  | 13, .int x => narrow .char (.int x) = .int x
  | _, _ => False
theorem Z_ast (C : zCx E G cc nL own nm ret R) (ht : zT cc t) {tg : Nat} {r : Nat × Int32 × Nat} (hl : t.lookup pc = some (zst tg, r)) {a nn j : Nat} {i : Int32} {fs : Nat → Value} (ha : h a = some (tg, nn, fs)) (hi : i = nI j) (hj : j < nn) (hnn : nn < 2 ^ 31) {v : Value} (hv : zfit tg v) (hB : zB E ≤ a) (kk : Z E G (hset h a (tg, nn, updV fs j v)) sz k n (pc + 1, ls, rest)) : Z E G h sz k n (pc, ls, v :: .int i :: .ref a :: rest) := by
  obtain ⟨p, l, e, R', s, m, args, below, meth, c, Q⟩ := G
  obtain ⟨hE, rfl, hx, hb, hml, hown, hW, -⟩ := C
  intro H locs h1 h2 h3 la hla
  obtain ⟨hd, ho⟩ := zT_at ht hl
  have htg : tg = 10 ∨ tg = 11 ∨ tg = 13 := by
    unfold zfit at hv
    split at hv
    · exact Or.inl rfl
    · exact Or.inr (Or.inl rfl)
    · exact Or.inr (Or.inr rfl)
    · exact absurd hv (fun z => z)
  have hcell : H[a]? = some (arrV (E.2.2.2 tg) nn fs) := by
    rcases (h1.2.2.2 a _ ha).2 with ⟨q, -⟩ | ⟨q1, q2, q3⟩ | ⟨q1, -⟩
    · exact absurd q (by show ¬ tg < 6; omega)
    · exact q3
    · exact absurd q1 (by show ¬ tg = 15; omega)
  have harr : s.isArrayOf (arrV (E.2.2.2 tg) nn fs) (zty tg) := State.isArrayOf_alike hW.alike ((hE.2.2.1 tg (by omega) (by omega)).1 _ _)
  have hcl : i.toNatClampNeg = j := by rw [hi]; exact nI_clamp (by omega)
  have hin : ¬ (i < 0 ∨ (arrV (E.2.2.2 tg) nn fs).slots.size ≤ i.toNatClampNeg) := by
    rw [hcl, hi, arrV_size]
    rintro (g | g)
    · exact nI_pos (by omega) g
    · omega
  have key : ∀ H' : Heap, H'[a]? = some ((arrV (E.2.2.2 tg) nn fs).setSlot i.toNatClampNeg v) → H'.size = H.size → (∀ q, q ≠ a → H'[q]? = H[q]?) → W p l e R' s m args below meth c H' (locs ++ [⟨a, i.toNatClampNeg⟩]) k n Q (F0 m (pc + 1) la rest) := by
    intro H' e1 e2 e3
    rw [hcl, arrV_store] at e1
    refine kk H' _ (h1.set e2 e3 hB (h1.2.2.2 a _ ha).1 (Or.inr (Or.inl ⟨?_, ?_, e1⟩))) (by rw [e2]; exact h2) (fun x hx => ?_) la hla
    · show 10 ≤ tg
      omega
    · show tg < 15
      omega
    rcases List.mem_append.mp hx with hx | hx
    · exact h3 x hx
    · rw [List.mem_singleton.mp hx]
      exact hB
  have hk : (arrV (E.2.2.2 tg) nn fs).vm ≠ .unknown := fun z => by cases z
  have hlen : r.1 = 1 := by
    rcases htg with rfl | rfl | rfl <;> (have h9 := ho; simp only [zok, zst, beq_iff_eq] at h9; exact h9)
  dsimp only at hd
  rw [hlen] at hd
  unfold zfit at hv
  split at hv
  · exact W.iast hx hb hcell harr hk hin rfl rfl hd key
  · exact W.last hx hb hcell harr hk hin rfl rfl hd key
  · exact W.cast hx hb hcell harr hk hin rfl rfl hd (by rw [hv]; exact key)
  · exact absurd hv (fun z => z)
theorem Z_alen (C : zCx E G cc nL own nm ret R) (ht : zT cc t) {r : Nat × Int32 × Nat} (hl : t.lookup pc = some (.arraylength, r)) {a nn : Nat} {fs : Nat → Value} (ha : h a = some (15, nn, fs)) {v : Int32} (hv : nI nn = v) (kk : Z E G h sz k n (pc + 1, ls, .int v :: rest)) : Z E G h sz k n (pc, ls, .ref a :: rest) := by
  obtain ⟨p, l, e, R', s, m, args, below, meth, c, Q⟩ := G
  obtain ⟨hE, rfl, hx, hb, hml, hown, hW, -⟩ := C
  intro H locs h1 h2 h3 la hla
  obtain ⟨hd, ho⟩ := zT_at ht hl
  have hlen : r.1 = 1 := by have h9 := ho; simp only [zok, beq_iff_eq] at h9; exact h9
  dsimp only at hd
  rw [hlen] at hd
  rcases (h1.2.2.2 a _ ha).2 with ⟨q, -⟩ | ⟨q1, q2, q3⟩ | ⟨q1, cell, q2, q3, q4, q5, q6, q7, q8⟩
  · exact absurd q (by show ¬ 15 < 6; omega)
  · exact absurd q2 (by show ¬ 15 < 15; omega)
  · exact W.alen (n := v) hx hb q2 (State.isArrayOf_alike hW.alike q3) (q6.trans hv) rfl rfl hd (kk H locs h1 h2 h3 la hla)
/-- a static field that holds v, at the law's start -/
def zSt (E : zE) (Cn f d : String) (v : Value) : Prop := va_Z Cn f d v (zA E) E.1 E.1.heap
theorem Z_gets (C : zCx E G cc nL own nm ret R) (ht : zT cc t) {idx : Nat} {r : Nat × Int32 × Nat} (hl : t.lookup pc = some (.getstatic idx, r)) {Cn f d : String} {v : Value} (hs : zSt E Cn f d v) (hlink : Cond.fieldLink own idx Cn f d ∈ zWs) (kk : Z E G h sz k n (pc + 3, ls, v :: rest)) : Z E G h sz k n (pc, ls, rest) := by
  obtain ⟨p, l, e, R', s, m, args, below, meth, c, Q⟩ := G
  obtain ⟨hE, rfl, hx, hb, hml, hown, hW, -⟩ := C
  intro H locs h1 h2 h3 la hla
  obtain ⟨hd, ho⟩ := zT_at ht hl
  have hlen : r.1 = 3 := by have h9 := ho; simp only [zok, beq_iff_eq] at h9; exact h9
  dsimp only at hd
  rw [hlen] at hd
  obtain ⟨cf, kf, fi, f, a, cell, g1, g2, g3, g4, g5, g6, g7, g8⟩ := va_Z.moved hW.alike hs
  have hlt : a < zB E := (Array.getElem?_eq_some_iff.mp g5).1
  exact W.gets hx hb hown (zmem_at hE hW hlink) g1 g2 g3 g4 (by rw [h1.2.2.1 a hlt]; exact g5) (fun e => by rw [e] at g6; cases g6) g7 rfl hd (kk H locs h1 h2 h3 la hla)
theorem Z_new (C : zCx E G cc nL own nm ret R) (ht : zT cc t) {idx : Nat} {r : Nat × Int32 × Nat} (hl : t.lookup pc = some (.new idx, r)) {ci N : Nat} {Cn : String} {T : u_T} (hwi : ∀ w ∈ u_ws Cn T N, w ∈ zWs) (ty : Nat → FieldType) (hty : ∀ k, k < N → parseFieldDescriptor (T k).2.2.1 = some (ty k)) (hci : zCl[ci]? = some (Cn, T, N)) (hcl : Cond.classLink own idx Cn ∈ lw_tbl) (hcg : zgw (Cond.classLink own idx Cn) = true) (hins : Cond.instantiable Cn N ∈ zWs) (hini : Cond.initialized Cn ∈ zWs) (hk : k + 1 ≤ R.cells) (hn : n + N ≤ R.slots) (kk : ∀ q : Nat, sz ≤ q → zB E ≤ q → Z E G (hset h q (ci, 0, fun j => defaultValue (ty j))) (q + 1) (k + 1) (n + N) (pc + 3, ls, .ref q :: rest)) : Z E G h sz k n (pc, ls, rest) := by
  obtain ⟨p, l, e, R', s, m, args, below, meth, c, Q⟩ := G
  obtain ⟨hE, rfl, hx, hb, hml, hown, hW, -⟩ := C
  intro H locs h1 h2 h3 la hla
  obtain ⟨hd, ho⟩ := zT_at ht hl
  have hlen : r.1 = 3 := by have h9 := ho; simp only [zok, beq_iff_eq] at h9; exact h9
  dsimp only at hd
  rw [hlen] at hd
  have hts : ∀ w ∈ zWs, w.before args s = true := fun w hw => zmem_at hE hW hw
  have hKn := (va_K.moved hW.alike hE.2.1).1 ci _ hci
  refine W.newcK hx hb hown (zgw_at hW hcg (hE.1 _ hcl hcg)) (hts _ hins) (hts _ hini) rfl hd hk hn hKn.2.1 rfl fun H1 kC hkC e1 z1 o1 => ?_
  refine kk H.size h1.2.1 (Nat.le_trans h1.1 h1.2.1) H1 locs (h1.push z1 o1 (Or.inl ⟨(List.getElem?_eq_some_iff.mp hci).1, _, hci, u_born ty hts hwi hKn hkC e1 hty⟩)) (by omega) h3 la hla
theorem Z_newa (C : zCx E G cc nL own nm ret R) (ht : zT cc t) {r : Nat × Int32 × Nat} {at9 : ArrayType} (hl : t.lookup pc = some (.newarray at9, r)) {tg N : Nat} (htg : 10 ≤ tg ∧ tg < 14) (hty : newarray.typeOf at9 = zty tg) (hac : Cond.arrayClass (newarray.typeOf at9) ∈ zWs) {i : Int32} (hi : i = nI N) (hN : N < 65536) (hk : k + 1 ≤ R.cells) (hn : n + N ≤ R.slots) (kk : ∀ q : Nat, sz ≤ q → zB E ≤ q → Z E G (hset h q (tg, N, fun _ => defaultValue (zty tg))) (q + 1) (k + 1) (n + N) (pc + 2, ls, .ref q :: rest)) : Z E G h sz k n (pc, ls, .int i :: rest) := by
  obtain ⟨p, l, e, R', s, m, args, below, meth, c, Q⟩ := G
  obtain ⟨hE, rfl, hx, hb, hml, hown, hW, -⟩ := C
  intro H locs h1 h2 h3 la hla
  obtain ⟨hd, ho⟩ := zT_at ht hl
  have hlen : r.1 = 2 := by have h9 := ho; simp only [zok, beq_iff_eq] at h9; exact h9
  dsimp only at hd
  rw [hlen] at hd
  have hcl : i.toNatClampNeg = N := by rw [hi]; exact nI_clamp (by omega)
  refine va_newaK hx hb (zmem_at hE hW hac) rfl hd rfl (by rw [hi]; exact nI_pos (by omega)) hcl ?_ hk hn rfl fun H1 cA e1 z1 o1 hAr hNm => ?_
  · rw [hty]
    obtain ⟨g1, g2⟩ := htg
    rcases (show tg = 10 ∨ tg = 11 ∨ tg = 12 ∨ tg = 13 by omega) with rfl | rfl | rfl | rfl <;> (simp only [zty, componentBytes]; omega)
  · have hra := (va_RA.moved hW.alike (hE.2.2.1 tg htg.1 (by omega)).2)
    have hcA : cA = E.2.2.2 tg := by
      rw [hty] at hNm
      obtain ⟨g1, g2⟩ := htg
      rcases (show tg = 10 ∨ tg = 11 ∨ tg = 12 ∨ tg = 13 by omega) with rfl | rfl | rfl | rfl <;> exact Option.some.inj (hNm.symm.trans hra)
    subst hcA
    rw [hty] at e1
    refine kk H.size h1.2.1 (Nat.le_trans h1.1 h1.2.1) H1 locs (h1.push z1 o1 (Or.inr (Or.inl ⟨htg.1, by show tg < 15; omega, e1⟩))) (by omega) h3 la hla
theorem Z_anew (C : zCx E G cc nL own nm ret R) (ht : zT cc t) {r : Nat × Int32 × Nat} {idx : Nat} (hl : t.lookup pc = some (.anewarray idx, r)) {N : Nat} (hcl : Cond.classLink own idx R_Gm ∈ zWs) (hov : Cond.arrayOver (.object R_Gm) ∈ lw_tbl) (hov2 : va_AO R_Gm E.1) {i : Int32} (hi : i = nI N) (hN : N < 65536) (hk : k + 1 ≤ R.cells) (hn : n + N ≤ R.slots) (kk : ∀ q : Nat, sz ≤ q → zB E ≤ q → Z E G (hset h q (14, N, fun _ => .null)) (q + 1) (k + 1) (n + N) (pc + 3, ls, .ref q :: rest)) : Z E G h sz k n (pc, ls, .int i :: rest) := by
  obtain ⟨p, l, e, R', s, m, args, below, meth, c, Q⟩ := G
  obtain ⟨hE, rfl, hx, hb, hml, hown, hW, -⟩ := C
  intro H locs h1 h2 h3 la hla
  obtain ⟨hd, ho⟩ := zT_at ht hl
  have hlen : r.1 = 3 := by have h9 := ho; simp only [zok, beq_iff_eq] at h9; exact h9
  dsimp only at hd
  rw [hlen] at hd
  have hcl2 : i.toNatClampNeg = N := by rw [hi]; exact nI_clamp (by omega)
  refine W.anew hx hb hown (zmem_at hE hW hcl) (va_AO.use (va_AO.moved hW.alike hov2)) rfl hd rfl (by rw [hi]; exact nI_pos (by omega)) (by rw [hcl2]; omega) hk (by rw [hcl2]; exact hn) fun cA kA comp g1 g2 g3 g4 => ?_
  have hra := (va_RA.moved hW.alike (hE.2.2.1 14 (by omega) (by omega)).2)
  have hcA : cA = E.2.2.2 14 := by
    obtain ⟨kA2, comp2, r1, r2, r3, r4⟩ := hra
    exact Option.some.inj (g1.symm.trans r4)
  subst hcA
  rw [hcl2]
  have z1 : (H.push ({ cls := E.2.2.2 14, slots := Array.replicate N .null, vm := .none } : Cell)).size = H.size + 1 := by simp
  refine kk H.size h1.2.1 (Nat.le_trans h1.1 h1.2.1) _ locs (h1.push z1 (fun q hq => by rw [Array.getElem?_push, if_neg (Nat.ne_of_lt hq)]) (Or.inr (Or.inl ⟨by show 10 ≤ 14; omega, by show 14 < 15; omega, ?_⟩))) (by omega) h3 la hla
  rw [arrV_new]
  simp
/-- a Game stored into an array of Games -/
theorem Z_aast (C : zCx E G cc nL own nm ret R) (ht : zT cc t) {r : Nat × Int32 × Nat} (hl : t.lookup pc = some (.aastore, r)) {a nn j v n2 : Nat} {i : Int32} {fs fv : Nat → Value} (ha : h a = some (14, nn, fs)) (hvv : h v = some (1, n2, fv)) (hi : i = nI j) (hj : j < nn) (hnn : nn < 2 ^ 31) (hB : zB E ≤ a) (kk : Z E G (hset h a (14, nn, updV fs j (.ref v))) sz k n (pc + 1, ls, rest)) : Z E G h sz k n (pc, ls, .ref v :: .int i :: .ref a :: rest) := by
  obtain ⟨p, l, e, R', s, m, args, below, meth, c, Q⟩ := G
  obtain ⟨hE, rfl, hx, hb, hml, hown, hW, -⟩ := C
  intro H locs h1 h2 h3 la hla
  obtain ⟨hd, ho⟩ := zT_at ht hl
  have hlen : r.1 = 1 := by have h9 := ho; simp only [zok, beq_iff_eq] at h9; exact h9
  dsimp only at hd
  rw [hlen] at hd
  have hcell : H[a]? = some (arrV (E.2.2.2 14) nn fs) := by
    rcases (h1.2.2.2 a _ ha).2 with ⟨q, -⟩ | ⟨q1, q2, q3⟩ | ⟨q1, -⟩
    · exact absurd q (by show ¬ 14 < 6; omega)
    · exact q3
    · exact absurd q1 (by show ¬ 14 = 15; omega)
  obtain ⟨⟨cellV, g1, g2, g3, -⟩, hKn⟩ := zC_obj (s := s) hE hW (h1.2.2.2 v _ hvv).2 (show zCl[1]? = some (R_Gm, F_Gm, 8) from rfl)
  have hcls := hKn.2
  obtain ⟨kA, comp, k1, k2, k3, -⟩ := (va_RA.moved hW.alike (hE.2.2.1 14 (by omega) (by omega)).2)
  have hcomp : comp = E.2.1 1 := Option.some.inj (k3.symm.trans hcls.1)
  subst hcomp
  obtain ⟨kC, hkC, -⟩ := hcls.2
  have hcl : i.toNatClampNeg = j := by rw [hi]; exact nI_clamp (by omega)
  refine W.aast hx hb hcell (fun q hh => by cases hh) (fun hh => by cases hh) k1 k2 rfl hkC ⟨by rw [hi]; exact nI_pos (by omega), by rw [hcl, arrV_size]; exact hj⟩ g1 (fun q hh => by rw [g3] at hh; cases hh) (by rw [g2]; exact hkC) (by rw [g2]; exact va_assign hcls) rfl rfl hd fun H1 e1 e2 e3 => ?_
  rw [hcl, arrV_store] at e1
  refine kk H1 _ (h1.set e2 e3 hB (h1.2.2.2 a _ ha).1 (Or.inr (Or.inl ⟨by show 10 ≤ 14; omega, by show 14 < 15; omega, e1⟩))) (by rw [e2]; exact h2) (fun x hx => ?_) la hla
  rcases List.mem_append.mp hx with hx | hx
  · exact h3 x hx
  · rw [List.mem_singleton.mp hx]
    exact hB
theorem Z_oinit (C : zCx E G cc nL own nm ret R) (ht : zT cc t) {idx : Nat} {r : Nat × Int32 × Nat} (hl : t.lookup pc = some (.invokespecial idx, r)) (hlk : Cond.methodLink own idx Lib.objectInit ∈ zWs) (hin : Cond.instanceMethod Lib.objectInit ∈ zWs) (hco : Cond.code Lib.objectInit ⟨#[0xb1]⟩ 1 none ∈ zWs) (hls : ls.length = nL) {a : Nat} (hR : 1 ≤ R.frames ∧ (rest.map fun v => v.category).sum + 12 ≤ R.locals) (kk : Z E G h sz k n (pc + 3, ls, rest)) : Z E G h sz k n (pc, ls, .ref a :: rest) := by
  obtain ⟨p, l, e, R', s, m, args, below, meth, c, Q⟩ := G
  obtain ⟨hE, rfl, hx, hb, hml, hown, hW, -⟩ := C
  intro H locs h1 h2 h3 la hla
  obtain ⟨hd, ho⟩ := zT_at ht hl
  have hlen : r.1 = 3 := by have h9 := ho; simp only [zok, beq_iff_eq] at h9; exact h9
  dsimp only at hd
  rw [hlen] at hd
  exact W.objInit hx hb hown (zmem_at hE hW hlk) (zmem_at hE hW hin) (zmem_at hE hW hco) rfl (by rw [hml, ← hls]; exact hla.1) rfl hd hR.1 (by show 2 * 0 + _ + 12 ≤ _; omega) (kk H locs h1 h2 h3 la hla)
theorem Z_ldc2 (C : zCx E G cc nL own nm ret R) (ht : zT cc t) {idx : Nat} {r : Nat × Int32 × Nat} (hl : t.lookup pc = some (.ldc2_w idx, r)) {v : Int64} (hc : Cond.constantLong own idx v ∈ zWs) (kk : Z E G h sz k n (pc + 3, ls, .long v :: rest)) : Z E G h sz k n (pc, ls, rest) := by
  obtain ⟨p, l, e, R', s, m, args, below, meth, c, Q⟩ := G
  obtain ⟨hE, rfl, hx, hb, hml, hown, hW, -⟩ := C
  intro H locs h1 h2 h3 la hla
  obtain ⟨hd, ho⟩ := zT_at ht hl
  have hlen : r.1 = 3 := by have h9 := ho; simp only [zok, beq_iff_eq] at h9; exact h9
  dsimp only at hd
  rw [hlen] at hd
  exact lv_ldc2 hx hb hown (zmem_at hE hW hc) hd (kk H locs h1 h2 h3 la hla)
theorem Z_max (C : zCx E G cc nL own nm ret R) (ht : zT cc t) {idx : Nat} {r : Nat × Int32 × Nat} (hl : t.lookup pc = some (.invokestatic idx, r)) (hlk : Cond.methodLink own idx Lib.Math.max.name ∈ zWs) (hst : Cond.static Lib.Math.max.name ∈ zWs) (hini : Cond.initialized "java/lang/Math" ∈ zWs) (hco : Cond.code Lib.Math.max.name Lib.Math.max.code 2 (some .int) ∈ zWs) (hls : ls.length = nL) (hR : 1 ≤ R.frames ∧ (rest.map fun v => v.category).sum + 13 ≤ R.locals ∧ k ≤ R.cells ∧ n ≤ R.slots) {x y : Int32} (kk : Z E G h sz k n (pc + 3, ls, .int (if x < y then y else x) :: rest)) : Z E G h sz k n (pc, ls, .int y :: .int x :: rest) := by
  obtain ⟨p, l, e, R', s, m, args, below, meth, c, Q⟩ := G
  obtain ⟨hE, rfl, hx, hb, hml, hown, hW, -⟩ := C
  intro H locs h1 h2 h3 la hla
  obtain ⟨hd, ho⟩ := zT_at ht hl
  have hlen : r.1 = 3 := by have h9 := ho; simp only [zok, beq_iff_eq] at h9; exact h9
  dsimp only at hd
  rw [hlen] at hd
  exact va_mmax hx hb (by rw [hml, ← hls]; exact hla.1.symm) hown (zmem_at hE hW hlk) (zmem_at hE hW hst) (zmem_at hE hW hini) (zmem_at hE hW hco) hR.1 hR.2.1 hR.2.2.1 hR.2.2.2 hd (kk H locs h1 h2 h3 la hla)
theorem Z_ddiv (C : zCx E G cc nL own nm ret R) (ht : zT cc t) {r : Nat × Int32 × Nat} (hl : t.lookup pc = some (.ddiv, r)) {x y : UInt64} (hne : vf_n64 (FP.ddiv x y)) (kk : Z E G h sz k n (pc + 1, ls, .double (FP.ddiv x y) :: rest)) : Z E G h sz k n (pc, ls, .double y :: .double x :: rest) := by
  obtain ⟨p, l, e, R', s, m, args, below, meth, c, Q⟩ := G
  obtain ⟨hE, rfl, hx, hb, hml, hown, hW, -⟩ := C
  intro H locs h1 h2 h3 la hla
  obtain ⟨hd, ho⟩ := zT_at ht hl
  have hlen : r.1 = 1 := by have h9 := ho; simp only [zok, beq_iff_eq] at h9; exact h9
  dsimp only at hd
  rw [hlen] at hd
  exact lv_ddiv hx hb hd hne (kk H locs h1 h2 h3 la hla)
theorem Z_swIn (C : zCx E G cc nL own nm ret R) (ht : zT cc t) {dflt lo hi : Int} {offs : Array Int} {r : Nat × Int32 × Nat} (hl : t.lookup pc = some (.tableswitch dflt lo hi offs, r)) {x : Int32} {off : Int} {tgt : Nat} (h1 : ¬ x.toInt < lo) (h2 : ¬ hi < x.toInt) (ho : offs[(x.toInt - lo).toNat]? = some off) (htg : (pc : Int) + off = (tgt : Int)) (kk : Z E G h sz k n (tgt, ls, rest)) : Z E G h sz k n (pc, ls, .int x :: rest) := by
  obtain ⟨p, l, e, R', s, m, args, below, meth, c, Q⟩ := G
  obtain ⟨hE, rfl, hx, hb, hml, hown, hW, -⟩ := C
  intro H locs g1 g2 g3 la hla
  exact lv_tableIn hx hb (zT_at ht hl).1 h1 h2 ho htg (kk H locs g1 g2 g3 la hla)
theorem Z_swOut (C : zCx E G cc nL own nm ret R) (ht : zT cc t) {dflt lo hi : Int} {offs : Array Int} {r : Nat × Int32 × Nat} (hl : t.lookup pc = some (.tableswitch dflt lo hi offs, r)) {x : Int32} {tgt : Nat} (h1 : x.toInt < lo ∨ hi < x.toInt) (htg : (pc : Int) + dflt = (tgt : Int)) (kk : Z E G h sz k n (tgt, ls, rest)) : Z E G h sz k n (pc, ls, .int x :: rest) := by
  obtain ⟨p, l, e, R', s, m, args, below, meth, c, Q⟩ := G
  obtain ⟨hE, rfl, hx, hb, hml, hown, hW, -⟩ := C
  intro H locs g1 g2 g3 la hla
  exact lv_tableOut hx hb (zT_at ht hl).1 h1 htg (kk H locs g1 g2 g3 la hla)
end ZR
