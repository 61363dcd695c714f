/-! ===== the abstract machine: its pure steps (locals by place, a stack, no heap) and that they are the machine's ===== -/
abbrev zL : Type := List (Option Value)
abbrev zF : Type := Nat × zL × List Value
/-- the listed locals -/
def zl_as : Nat → zL → List (Nat × Value)
  | _, [] => []
  | i, none :: t => zl_as (i + 1) t
  | i, some v :: t => (i, v) :: zl_as (i + 1) t
theorem zl_mem {i : Nat} {ls : zL} {q : Nat × Value} (h : q ∈ zl_as i ls) : ∃ j : Nat, q.1 = i + j ∧ ls[j]? = some (some q.2) := by
  induction ls generalizing i with
  | nil => cases h
  | cons a t ih =>
    cases a with
    | none =>
      obtain ⟨j, h1, h2⟩ := ih h
      exact ⟨j + 1, by omega, by simpa using h2⟩
    | some v =>
      rcases List.mem_cons.mp h with h | h
      · subst h
        exact ⟨0, rfl, rfl⟩
      · obtain ⟨j, h1, h2⟩ := ih h
        exact ⟨j + 1, by omega, by simpa using h2⟩
theorem zl_of {i j : Nat} {ls : zL} {v : Value} (h : ls[j]? = some (some v)) : (i + j, v) ∈ zl_as i ls := by
  induction ls generalizing i j with
  | nil => simp at h
  | cons a t ih =>
    cases j with
    | zero =>
      simp only [List.getElem?_cons_zero, Option.some.injEq] at h
      subst h
      exact List.mem_cons_self
    | succ j =>
      have h1 : t[j]? = some (some v) := by simpa using h
      have h2 := ih (i := i + 1) h1
      rw [show i + (j + 1) = i + 1 + j by omega]
      cases a with
      | none => exact h2
      | some w => exact List.mem_cons_of_mem _ h2
/-- the locals array la holds what ls lists -/
def zl_has (la : Array Slot) (ls : zL) : Prop := lv_has la ls.length (zl_as 0 ls)
theorem zl_get {la : Array Slot} {ls : zL} (h : zl_has la ls) {i : Nat} {v : Value} (hv : ls[i]? = some (some v)) : la[i]? = some (.val v) := by
  have h1 := zl_of (i := 0) hv
  rw [Nat.zero_add] at h1
  exact h.2.2 _ h1
def zcl : Nat → Option Value → Option Value
  | 0, some (.long _) => none
  | 0, some (.double _) => none
  | _, a => a
/-- a value of one slot stored -/
def zs1 : zL → Nat → Value → zL
  | [], _, _ => []
  | _ :: t, 0, v => some v :: t
  | a :: t, i + 1, v => zcl i a :: zs1 t i v
/-- a value of two slots stored -/
def zs2 : zL → Nat → Value → zL
  | [], _, _ => []
  | [a], 0, v => [some v]
  | _ :: _ :: t, 0, v => some v :: none :: t
  | a :: t, i + 1, v => zcl i a :: zs2 t i v
theorem zs1_len {ls : zL} {i : Nat} {v : Value} : (zs1 ls i v).length = ls.length := by
  induction ls generalizing i with
  | nil => rfl
  | cons a t ih => cases i <;> simp [zs1, ih]
theorem zs2_len {ls : zL} {i : Nat} {v : Value} : (zs2 ls i v).length = ls.length := by
  induction ls generalizing i with
  | nil => rfl
  | cons a t ih =>
    cases i with
    | zero => cases t <;> simp [zs2]
    | succ i => cases t <;> simp [zs2, ih]
theorem zcl_cat {a : Option Value} {v : Value} (h : zcl 0 a = some v) : a = some v ∧ v.category = 1 := by
  cases a with
  | none => cases h
  | some w => cases w <;> first | (simp [zcl] at h; done) | (simp [zcl] at h; subst h; exact ⟨rfl, rfl⟩)
theorem zcl_s {i : Nat} {a : Option Value} : zcl (i + 1) a = a := by
  cases a with
  | none => rfl
  | some w => cases w <;> rfl
theorem zs1_get {ls : zL} {i j : Nat} {v w : Value} (h : (zs1 ls i v)[j]? = some (some w)) : (j = i ∧ w = v) ∨ (j ≠ i ∧ ls[j]? = some (some w) ∧ (j + 1 = i → w.category = 1)) := by
  induction ls generalizing i j with
  | nil => simp [zs1] at h
  | cons a t ih =>
    cases i with
    | zero =>
      cases j with
      | zero => simp [zs1] at h; exact Or.inl ⟨rfl, h.symm⟩
      | succ j => exact Or.inr ⟨by omega, by simpa [zs1] using h, fun h9 => by omega⟩
    | succ i =>
      cases j with
      | zero =>
        simp only [zs1, List.getElem?_cons_zero, Option.some.injEq] at h
        cases i with
        | zero =>
          obtain ⟨h1, h2⟩ := zcl_cat h
          exact Or.inr ⟨by omega, by simp [h1], fun _ => h2⟩
        | succ i =>
          rw [zcl_s] at h
          exact Or.inr ⟨by omega, by simp [h], fun h9 => by omega⟩
      | succ j =>
        have h1 : (zs1 t i v)[j]? = some (some w) := by simpa [zs1] using h
        rcases ih h1 with ⟨h2, h3⟩ | ⟨h2, h3, h4⟩
        · exact Or.inl ⟨by omega, h3⟩
        · exact Or.inr ⟨by omega, by simpa using h3, fun h9 => h4 (by omega)⟩
theorem zs2_get {ls : zL} {i j : Nat} {v w : Value} (hi : i + 1 < ls.length) (h : (zs2 ls i v)[j]? = some (some w)) : (j = i ∧ w = v) ∨ (j ≠ i ∧ j ≠ i + 1 ∧ ls[j]? = some (some w) ∧ (j + 1 = i → w.category = 1)) := by
  induction ls generalizing i j with
  | nil => simp [zs2] at h
  | cons a t ih =>
    cases i with
    | zero =>
      cases t with
      | nil => simp at hi
      | cons b t =>
        match j with
        | 0 => simp [zs2] at h; exact Or.inl ⟨rfl, h.symm⟩
        | 1 => simp [zs2] at h
        | j + 2 => exact Or.inr ⟨by omega, by omega, by simpa [zs2] using h, fun h9 => by omega⟩
    | succ i =>
      have hi' : i + 1 < t.length := by simpa using hi
      cases j with
      | zero =>
        have h : zcl i a = some w := by cases t <;> simpa [zs2] using h
        cases i with
        | zero =>
          obtain ⟨h1, h2⟩ := zcl_cat h
          exact Or.inr ⟨by omega, by omega, by simp [h1], fun _ => h2⟩
        | succ i =>
          rw [zcl_s] at h
          exact Or.inr ⟨by omega, by omega, by simp [h], fun h9 => by omega⟩
      | succ j =>
        have h1 : (zs2 t i v)[j]? = some (some w) := by cases t <;> simpa [zs2] using h
        rcases ih hi' h1 with ⟨h2, h3⟩ | ⟨h2, h5, h3, h4⟩
        · exact Or.inl ⟨by omega, h3⟩
        · exact Or.inr ⟨by omega, by omega, by simpa using h3, fun h9 => h4 (by omega)⟩
theorem zs1_has {la : Array Slot} {ls : zL} {i : Nat} {v : Value} (h : lv_has la ls.length ((i, v) :: (zl_as 0 ls).filter (fun q => !(q.1 == i) && !(q.1 + 1 == i && q.2.category == 2)))) : zl_has la (zs1 ls i v) := by
  refine ⟨by rw [zs1_len]; exact h.1, h.2.1, fun q hq => ?_⟩
  obtain ⟨j, h1, h2⟩ := zl_mem hq
  rw [Nat.zero_add] at h1
  refine h.2.2 q ?_
  rcases zs1_get h2 with ⟨h3, h4⟩ | ⟨h3, h4, h5⟩
  · rw [show q = (i, v) from Prod.ext (h1.trans h3) h4]
    exact List.mem_cons_self
  · refine List.mem_cons_of_mem _ (List.mem_filter.mpr ⟨?_, ?_⟩)
    · have h6 := zl_of (i := 0) h4
      rw [Nat.zero_add, ← h1] at h6
      exact h6
    · rw [h1]
      by_cases h9 : j + 1 = i
      · simp [h3, h5 h9]
      · simp [h3, h9]
theorem zs2_has {la : Array Slot} {ls : zL} {i : Nat} {v : Value} (hi : i + 1 < ls.length) (h : lv_has la ls.length ((i, v) :: (zl_as 0 ls).filter (fun q => !(q.1 == i) && (!(q.1 == i + 1) && !(q.1 + 1 == i && q.2.category == 2))))) : zl_has la (zs2 ls i v) := by
  refine ⟨by rw [zs2_len]; exact h.1, h.2.1, fun q hq => ?_⟩
  obtain ⟨j, h1, h2⟩ := zl_mem hq
  rw [Nat.zero_add] at h1
  refine h.2.2 q ?_
  rcases zs2_get hi h2 with ⟨h3, h4⟩ | ⟨h3, h7, h4, h5⟩
  · rw [show q = (i, v) from Prod.ext (h1.trans h3) h4]
    exact List.mem_cons_self
  · refine List.mem_cons_of_mem _ (List.mem_filter.mpr ⟨?_, ?_⟩)
    · have h6 := zl_of (i := 0) h4
      rw [Nat.zero_add, ← h1] at h6
      exact h6
    · rw [h1]
      by_cases h9 : j + 1 = i
      · simp [h3, h7, h5 h9]
      · simp [h3, h7, h9]
def zldi (pc : Nat) (ls : zL) (st : List Value) : Option (Option Value) → Option zF
  | some (some (.int x)) => some (pc, ls, .int x :: st)
  | _ => none
def zldl (pc : Nat) (ls : zL) (st : List Value) : Option (Option Value) → Option zF
  | some (some (.long x)) => some (pc, ls, .long x :: st)
  | _ => none
def zldd (pc : Nat) (ls : zL) (st : List Value) : Option (Option Value) → Option zF
  | some (some (.double x)) => some (pc, ls, .double x :: st)
  | _ => none
def zlda (pc : Nat) (ls : zL) (st : List Value) : Option (Option Value) → Option zF
  | some (some (.ref x)) => some (pc, ls, .ref x :: st)
  | some (some .null) => some (pc, ls, .null :: st)
  | _ => none
def zsti (pc : Nat) (ls : zL) (i : Nat) : List Value → Option zF
  | .int x :: r => if i < ls.length then some (pc, zs1 ls i (.int x), r) else none
  | _ => none
def zsta (pc : Nat) (ls : zL) (i : Nat) : List Value → Option zF
  | .ref x :: r => if i < ls.length then some (pc, zs1 ls i (.ref x), r) else none
  | .null :: r => if i < ls.length then some (pc, zs1 ls i .null, r) else none
  | _ => none
def zstl (pc : Nat) (ls : zL) (i : Nat) : List Value → Option zF
  | .long x :: r => if i + 1 < ls.length then some (pc, zs2 ls i (.long x), r) else none
  | _ => none
def zstd (pc : Nat) (ls : zL) (i : Nat) : List Value → Option zF
  | .double x :: r => if i + 1 < ls.length then some (pc, zs2 ls i (.double x), r) else none
  | _ => none
def zinc (pc : Nat) (ls : zL) (i : Nat) (imm : Int32) (st : List Value) : Option (Option Value) → Option zF
  | some (some (.int x)) => if i < ls.length then some (pc, zs1 ls i (.int (x + imm)), st) else none
  | _ => none
def zb (pc : Nat) (ls : zL) (f : Int32 → Int32 → Int32) : List Value → Option zF
  | .int y :: .int x :: r => some (pc, ls, .int (f x y) :: r)
  | _ => none
def zbd (pc : Nat) (ls : zL) (f : Int32 → Int32 → Int32) : List Value → Option zF
  | .int y :: .int x :: r => if y = 0 then none else some (pc, ls, .int (f x y) :: r)
  | _ => none
def zbl (pc : Nat) (ls : zL) (f : Int64 → Int64 → Int64) : List Value → Option zF
  | .long y :: .long x :: r => some (pc, ls, .long (f x y) :: r)
  | _ => none
def zbs (pc : Nat) (ls : zL) (f : Int64 → Int32 → Int64) : List Value → Option zF
  | .int y :: .long x :: r => some (pc, ls, .long (f x y) :: r)
  | _ => none
def zu (pc : Nat) (ls : zL) (f : Int32 → Int32) : List Value → Option zF
  | .int x :: r => some (pc, ls, .int (f x) :: r)
  | _ => none
def zv1 : Value → Bool
  | .long _ => false
  | .double _ => false
  | _ => true
theorem zv1_cat {v : Value} (h : zv1 v = true) : v.category = 1 := by
  cases v <;> first | rfl | (simp [zv1] at h; done)
def zpeff (ins : Instr) (imm : Int32) (tgt pc : Nat) (ls : zL) (st : List Value) : Option zF :=
  match ins with
  | .aconst_null => some (pc + 1, ls, .null :: st)
  | .iconst _ => some (pc + 1, ls, .int imm :: st)
  | .bipush _ => some (pc + 2, ls, .int imm :: st)
  | .sipush _ => some (pc + 3, ls, .int imm :: st)
  | .lconst n => some (pc + 1, ls, .long (Int64.ofNat (n : Nat)) :: st)
  | .dconst n => if n = 0 then some (pc + 1, ls, .double FP.dconst0 :: st) else none
  | .iload i => zldi (pc + 2) ls st ls[i]?
  | .iload_n i => zldi (pc + 1) ls st ls[(i : Nat)]?
  | .lload i => zldl (pc + 2) ls st ls[i]?
  | .lload_n i => zldl (pc + 1) ls st ls[(i : Nat)]?
  | .dload i => zldd (pc + 2) ls st ls[i]?
  | .dload_n i => zldd (pc + 1) ls st ls[(i : Nat)]?
  | .aload i => zlda (pc + 2) ls st ls[i]?
  | .aload_n i => zlda (pc + 1) ls st ls[(i : Nat)]?
  | .istore i => zsti (pc + 2) ls i st
  | .istore_n i => zsti (pc + 1) ls (i : Nat) st
  | .lstore i => zstl (pc + 2) ls i st
  | .lstore_n i => zstl (pc + 1) ls (i : Nat) st
  | .dstore i => zstd (pc + 2) ls i st
  | .dstore_n i => zstd (pc + 1) ls (i : Nat) st
  | .astore i => zsta (pc + 2) ls i st
  | .astore_n i => zsta (pc + 1) ls (i : Nat) st
  | .iinc i _ => zinc (pc + 3) ls i imm st ls[i]?
  | .iadd => zb (pc + 1) ls (fun x y => x + y) st
  | .isub => zb (pc + 1) ls (fun x y => x - y) st
  | .imul => zb (pc + 1) ls (fun x y => x * y) st
  | .iand => zb (pc + 1) ls (fun x y => x &&& y) st
  | .ior => zb (pc + 1) ls (fun x y => x ||| y) st
  | .ixor => zb (pc + 1) ls (fun x y => x ^^^ y) st
  | .ishl => zb (pc + 1) ls (fun x y => x <<< (y &&& 31)) st
  | .ishr => zb (pc + 1) ls (fun x y => x >>> (y &&& 31)) st
  | .idiv => zbd (pc + 1) ls (fun x y => x / y) st
  | .irem => zbd (pc + 1) ls (fun x y => x % y) st
  | .ladd => zbl (pc + 1) ls (fun x y => x + y) st
  | .lsub => zbl (pc + 1) ls (fun x y => x - y) st
  | .land => zbl (pc + 1) ls (fun x y => x &&& y) st
  | .lor => zbl (pc + 1) ls (fun x y => x ||| y) st
  | .lxor => zbl (pc + 1) ls (fun x y => x ^^^ y) st
  | .lmul => zbl (pc + 1) ls (fun x y => x * y) st
  | .lshl => zbs (pc + 1) ls (fun x y => x <<< (y.toInt64 &&& 63)) st
  | .lshr => zbs (pc + 1) ls (fun x y => x >>> (y.toInt64 &&& 63)) st
  | .lushr => zbs (pc + 1) ls (fun x y => (x.toUInt64 >>> (y.toInt64.toUInt64 &&& Int64.toUInt64 63)).toInt64) st
  | .ineg => zu (pc + 1) ls (fun x => -x) st
  | .i2c => zu (pc + 1) ls (fun x => (x.toUInt32 % 65536).toInt32) st
  | .i2l => match st with
    | .int x :: r => some (pc + 1, ls, .long x.toInt64 :: r)
    | _ => none
  | .l2i => match st with
    | .long x :: r => some (pc + 1, ls, .int x.toInt32 :: r)
    | _ => none
  | .i2d => match st with
    | .int x :: r => some (pc + 1, ls, .double (FP.i2d x) :: r)
    | _ => none
  | .lcmp => match st with
    | .long y :: .long x :: r => some (pc + 1, ls, .int (lg_cmp x y) :: r)
    | _ => none
  | .dcmp op => match st with
    | .double y :: .double x :: r => some (pc + 1, ls, .int (Op.cmpValue (FP.dcmp x y) op) :: r)
    | _ => none
  | .dup => match st with
    | v :: r => if zv1 v then some (pc + 1, ls, v :: v :: r) else none
    | _ => none
  | .pop => match st with
    | v :: r => if zv1 v then some (pc + 1, ls, r) else none
    | _ => none
  | .dup2 => match st with
    | v :: w :: r => if zv1 v && zv1 w then some (pc + 1, ls, v :: w :: v :: w :: r) else none
    | _ => none
  | .goto _ => some (tgt, ls, st)
  | .ifnull _ => match st with
    | .null :: r => some (tgt, ls, r)
    | .ref _ :: r => some (pc + 3, ls, r)
    | _ => none
  | .ifnonnull _ => match st with
    | .null :: r => some (pc + 3, ls, r)
    | .ref _ :: r => some (tgt, ls, r)
    | _ => none
  | _ => none
/-- a branch: what it asks, and the stack behind it -/
def zbr (ins : Instr) (st : List Value) : Option (Prop × List Value) :=
  match ins with
  | .ifCond op _ => match st with
    | .int x :: r => match op with
      | .eq => some (x = 0, r)
      | .ne => some (¬ x = 0, r)
      | .lt => some (x < 0, r)
      | .ge => some (0 ≤ x, r)
      | .gt => some (0 < x, r)
      | .le => some (x ≤ 0, r)
    | _ => none
  | .if_icmp op _ => match st with
    | .int y :: .int x :: r => match op with
      | .eq => some (x = y, r)
      | .ne => some (¬ x = y, r)
      | .lt => some (x < y, r)
      | .ge => some (y ≤ x, r)
      | .gt => some (y < x, r)
      | .le => some (x ≤ y, r)
    | _ => none
  | _ => none
/-- a row of a method's table: pc, instruction, its length, its small number, its target -/
abbrev zI : Type := Nat × Instr × Nat × Int32 × Nat
def zok (pc : Nat) (ins : Instr) (len : Nat) (imm : Int32) (tgt : Nat) : Bool :=
  match ins with
  | .iconst n => len == 1 && imm == Int32.ofInt n
  | .bipush n => len == 2 && imm == (Int8.ofInt n).toInt32
  | .sipush n => len == 3 && imm == (Int16.ofInt n).toInt32
  | .iinc _ n => len == 3 && imm == Int32.ofInt n
  | .goto off => len == 3 && (pc : Int) + off == (tgt : Int)
  | .ifCond _ off => len == 3 && (pc : Int) + off == (tgt : Int)
  | .if_icmp _ off => len == 3 && (pc : Int) + off == (tgt : Int)
  | .ifnull off => len == 3 && (pc : Int) + off == (tgt : Int)
  | .ifnonnull off => len == 3 && (pc : Int) + off == (tgt : Int)
  | .iload _ => len == 2
  | .lload _ => len == 2
  | .dload _ => len == 2
  | .aload _ => len == 2
  | .istore _ => len == 2
  | .lstore _ => len == 2
  | .dstore _ => len == 2
  | .astore _ => len == 2
  | .getfield _ => len == 3
  | .putfield _ => len == 3
  | .getstatic _ => len == 3
  | .invokevirtual _ => len == 3
  | .invokespecial _ => len == 3
  | .invokestatic _ => len == 3
  | .new _ => len == 3
  | .anewarray _ => len == 3
  | .newarray _ => len == 2
  | .ldc _ => len == 2
  | .ldc_w _ => len == 3
  | .ldc2_w _ => len == 3
  | .tableswitch _ _ _ _ => true
  | _ => len == 1
/-- the table speaks of the code -/
def zT (cc : ByteArray) (t : List zI) : Prop := ∀ e ∈ t, decode cc e.1 = .ok (e.2.1, e.2.2.1) ∧ zok e.1 e.2.1 e.2.2.1 e.2.2.2.1 e.2.2.2.2 = true
theorem zlk {β : Type} {t : List (Nat × β)} {k : Nat} {b : β} (h : t.lookup k = some b) : (k, b) ∈ t := by
  induction t with
  | nil => cases h
  | cons a t ih =>
    obtain ⟨a1, a2⟩ := a
    rw [List.lookup_cons] at h
    by_cases he : (k == a1) = true
    · rw [he] at h
      have h1 : a2 = b := by simpa using h
      rw [eq_of_beq he, h1]
      exact List.mem_cons_self
    · rw [Bool.not_eq_true] at he
      rw [he] at h
      exact List.mem_cons_of_mem _ (ih (by simpa using h))
theorem zT_at {cc : ByteArray} {t : List zI} (h : zT cc t) {pc : Nat} {r : Instr × Nat × Int32 × Nat} (hl : t.lookup pc = some r) : decode cc pc = .ok (r.1, r.2.1) ∧ zok pc r.1 r.2.1 r.2.2.1 r.2.2.2 = true := h (pc, r) (zlk hl)
/-- n pure steps -/
def zrun (t : List zI) : Nat → zF → Option zF
  | 0, c => some c
  | n + 1, (pc, ls, st) => match t.lookup pc with
    | some (ins, _, imm, tgt) => match zpeff ins imm tgt pc ls st with
      | some c => zrun t n c
      | none => none
    | none => none
section ZP
variable {p : Program} {l : Launch} {e : Env} {R : Room} {s : State} {m : MethodId} {args : Array Value} {below : List Frame} {meth : Method} {c : Code} {H : Heap} {locs : List Loc} {cells slots : Nat} {Q : State → Prop}
/-- W at every locals array that holds ls -/
def zW (p : Program) (l : Launch) (e : Env) (R : Room) (s : State) (m : MethodId) (args : Array Value) (below : List Frame) (meth : Method) (c : Code) (H : Heap) (locs : List Loc) (cells slots : Nat) (Q : State → Prop) (f : zF) : Prop :=
  ∀ la : Array Slot, zl_has la f.2.1 → W p l e R s m args below meth c H locs cells slots Q (F0 m f.1 la f.2.2)
theorem zldi_i {pc : Nat} {ls : zL} {st : List Value} {o : Option (Option Value)} {f : zF} (h : zldi pc ls st o = some f) : ∃ x, o = some (some (.int x)) ∧ f = (pc, ls, .int x :: st) := by
  unfold zldi at h
  split at h
  · cases h; exact ⟨_, rfl, rfl⟩
  · cases h
theorem zldl_i {pc : Nat} {ls : zL} {st : List Value} {o : Option (Option Value)} {f : zF} (h : zldl pc ls st o = some f) : ∃ x, o = some (some (.long x)) ∧ f = (pc, ls, .long x :: st) := by
  unfold zldl at h
  split at h
  · cases h; exact ⟨_, rfl, rfl⟩
  · cases h
theorem zldd_i {pc : Nat} {ls : zL} {st : List Value} {o : Option (Option Value)} {f : zF} (h : zldd pc ls st o = some f) : ∃ x, o = some (some (.double x)) ∧ f = (pc, ls, .double x :: st) := by
  unfold zldd at h
  split at h
  · cases h; exact ⟨_, rfl, rfl⟩
  · cases h
theorem zlda_i {pc : Nat} {ls : zL} {st : List Value} {o : Option (Option Value)} {f : zF} (h : zlda pc ls st o = some f) : (∃ x, o = some (some (.ref x)) ∧ f = (pc, ls, .ref x :: st)) ∨ (o = some (some .null) ∧ f = (pc, ls, .null :: st)) := by
  unfold zlda at h
  split at h
  · cases h; exact Or.inl ⟨_, rfl, rfl⟩
  · cases h; exact Or.inr ⟨rfl, rfl⟩
  · cases h
theorem zsti_i {pc : Nat} {ls : zL} {i : Nat} {st : List Value} {f : zF} (h : zsti pc ls i st = some f) : ∃ x r, st = .int x :: r ∧ i < ls.length ∧ f = (pc, zs1 ls i (.int x), r) := by
  unfold zsti at h
  split at h
  · split at h
    · cases h; exact ⟨_, _, rfl, by assumption, rfl⟩
    · cases h
  · cases h
theorem zsta_i {pc : Nat} {ls : zL} {i : Nat} {st : List Value} {f : zF} (h : zsta pc ls i st = some f) : (∃ x r, st = .ref x :: r ∧ i < ls.length ∧ f = (pc, zs1 ls i (.ref x), r)) ∨ (∃ r, st = .null :: r ∧ i < ls.length ∧ f = (pc, zs1 ls i .null, r)) := by
  unfold zsta at h
  split at h
  · split at h
    · cases h; exact Or.inl ⟨_, _, rfl, by assumption, rfl⟩
    · cases h
  · split at h
    · cases h; exact Or.inr ⟨_, rfl, by assumption, rfl⟩
    · cases h
  · cases h
theorem zstl_i {pc : Nat} {ls : zL} {i : Nat} {st : List Value} {f : zF} (h : zstl pc ls i st = some f) : ∃ x r, st = .long x :: r ∧ i + 1 < ls.length ∧ f = (pc, zs2 ls i (.long x), r) := by
  unfold zstl at h
  split at h
  · split at h
    · cases h; exact ⟨_, _, rfl, by assumption, rfl⟩
    · cases h
  · cases h
theorem zstd_i {pc : Nat} {ls : zL} {i : Nat} {st : List Value} {f : zF} (h : zstd pc ls i st = some f) : ∃ x r, st = .double x :: r ∧ i + 1 < ls.length ∧ f = (pc, zs2 ls i (.double x), r) := by
  unfold zstd at h
  split at h
  · split at h
    · cases h; exact ⟨_, _, rfl, by assumption, rfl⟩
    · cases h
  · cases h
theorem zinc_i {pc : Nat} {ls : zL} {i : Nat} {imm : Int32} {st : List Value} {o : Option (Option Value)} {f : zF} (h : zinc pc ls i imm st o = some f) : ∃ x, o = some (some (.int x)) ∧ i < ls.length ∧ f = (pc, zs1 ls i (.int (x + imm)), st) := by
  unfold zinc at h
  split at h
  · split at h
    · cases h; exact ⟨_, rfl, by assumption, rfl⟩
    · cases h
  · cases h
theorem zb_i {pc : Nat} {ls : zL} {g : Int32 → Int32 → Int32} {st : List Value} {f : zF} (h : zb pc ls g st = some f) : ∃ x y r, st = .int y :: .int x :: r ∧ f = (pc, ls, .int (g x y) :: r) := by
  unfold zb at h
  split at h
  · cases h; exact ⟨_, _, _, rfl, rfl⟩
  · cases h
theorem zbd_i {pc : Nat} {ls : zL} {g : Int32 → Int32 → Int32} {st : List Value} {f : zF} (h : zbd pc ls g st = some f) : ∃ x y r, st = .int y :: .int x :: r ∧ ¬ y = 0 ∧ f = (pc, ls, .int (g x y) :: r) := by
  unfold zbd at h
  split at h
  · split at h
    · cases h
    · cases h; exact ⟨_, _, _, rfl, by assumption, rfl⟩
  · cases h
theorem zbl_i {pc : Nat} {ls : zL} {g : Int64 → Int64 → Int64} {st : List Value} {f : zF} (h : zbl pc ls g st = some f) : ∃ x y r, st = .long y :: .long x :: r ∧ f = (pc, ls, .long (g x y) :: r) := by
  unfold zbl at h
  split at h
  · cases h; exact ⟨_, _, _, rfl, rfl⟩
  · cases h
theorem zbs_i {pc : Nat} {ls : zL} {g : Int64 → Int32 → Int64} {st : List Value} {f : zF} (h : zbs pc ls g st = some f) : ∃ x y r, st = .int y :: .long x :: r ∧ f = (pc, ls, .long (g x y) :: r) := by
  unfold zbs at h
  split at h
  · cases h; exact ⟨_, _, _, rfl, rfl⟩
  · cases h
theorem zu_i {pc : Nat} {ls : zL} {g : Int32 → Int32} {st : List Value} {f : zF} (h : zu pc ls g st = some f) : ∃ x r, st = .int x :: r ∧ f = (pc, ls, .int (g x) :: r) := by
  unfold zu at h
  split at h
  · cases h; exact ⟨_, _, rfl, rfl⟩
  · cases h
set_option maxHeartbeats 4000000 in
theorem zpeff_ok (hx : p.tables.exec = Jvm.exec) {cc : ByteArray} (hb : c.code = cc) {pc : Nat} {ins : Instr} {len tgt : Nat} {imm : Int32} {ls : zL} {st : List Value} {f : zF} (hd : decode cc pc = .ok (ins, len)) (ho : zok pc ins len imm tgt = true) (hf : zpeff ins imm tgt pc ls st = some f) (k : zW p l e R s m args below meth c H locs cells slots Q f) : zW p l e R s m args below meth c H locs cells slots Q (pc, ls, st) := by
  intro la hl
  show W p l e R s m args below meth c H locs cells slots Q (F0 m pc la st)
  cases ins <;> (unfold zpeff at hf; dsimp only at hf; unfold zok at ho; dsimp only at ho) <;> try (cases hf; done)
  case aconst_null =>
    simp only [beq_iff_eq, Bool.and_eq_true] at ho
    subst ho
    cases hf
    exact lv_null hx hb hd (k la hl)
  case iconst n =>
    simp only [beq_iff_eq, Bool.and_eq_true] at ho
    obtain ⟨rfl, ho⟩ := ho
    cases hf
    exact lv_iconst hx hb hd ho.symm (k la hl)
  case bipush n =>
    simp only [beq_iff_eq, Bool.and_eq_true] at ho
    obtain ⟨rfl, ho⟩ := ho
    cases hf
    exact lv_bipush hx hb hd ho.symm (k la hl)
  case sipush n =>
    simp only [beq_iff_eq, Bool.and_eq_true] at ho
    obtain ⟨rfl, ho⟩ := ho
    cases hf
    exact lv_sipush hx hb hd ho.symm (k la hl)
  case lconst n =>
    simp only [beq_iff_eq, Bool.and_eq_true] at ho
    subst ho
    cases hf
    exact lv_lconst hx hb hd rfl (k la hl)
  case dconst n =>
    simp only [beq_iff_eq, Bool.and_eq_true] at ho
    subst ho
    split at hf
    · next h0 =>
      subst h0
      cases hf
      exact lv_dconst0 hx hb hd (k la hl)
    · cases hf
  case iload i =>
    simp only [beq_iff_eq, Bool.and_eq_true] at ho
    subst ho
    obtain ⟨x, h1, rfl⟩ := zldi_i hf
    exact lv_iload hx hb hd (zl_get hl h1) (k la hl)
  case iload_n i =>
    simp only [beq_iff_eq, Bool.and_eq_true] at ho
    subst ho
    obtain ⟨x, h1, rfl⟩ := zldi_i hf
    exact lv_iload_n hx hb hd rfl (zl_get hl h1) (k la hl)
  case lload i =>
    simp only [beq_iff_eq, Bool.and_eq_true] at ho
    subst ho
    obtain ⟨x, h1, rfl⟩ := zldl_i hf
    exact lv_lload hx hb hd (zl_get hl h1) (k la hl)
  case lload_n i =>
    simp only [beq_iff_eq, Bool.and_eq_true] at ho
    subst ho
    obtain ⟨x, h1, rfl⟩ := zldl_i hf
    exact lv_lload_n hx hb hd rfl (zl_get hl h1) (k la hl)
  case dload i =>
    simp only [beq_iff_eq, Bool.and_eq_true] at ho
    subst ho
    obtain ⟨x, h1, rfl⟩ := zldd_i hf
    exact lv_dload hx hb hd (zl_get hl h1) (k la hl)
  case dload_n i =>
    simp only [beq_iff_eq, Bool.and_eq_true] at ho
    subst ho
    obtain ⟨x, h1, rfl⟩ := zldd_i hf
    exact lv_dload_n hx hb hd rfl (zl_get hl h1) (k la hl)
  case aload i =>
    simp only [beq_iff_eq, Bool.and_eq_true] at ho
    subst ho
    rcases zlda_i hf with ⟨x, h1, rfl⟩ | ⟨h1, rfl⟩
    · exact lv_aload hx hb hd (zl_get hl h1) (k la hl)
    · exact lv_aloadN hx hb hd (zl_get hl h1) (k la hl)
  case aload_n i =>
    simp only [beq_iff_eq, Bool.and_eq_true] at ho
    subst ho
    rcases zlda_i hf with ⟨x, h1, rfl⟩ | ⟨h1, rfl⟩
    · exact lv_aload_n hx hb hd rfl (zl_get hl h1) (k la hl)
    · exact lv_aload_nN hx hb hd rfl (zl_get hl h1) (k la hl)
  case istore i =>
    simp only [beq_iff_eq, Bool.and_eq_true] at ho
    subst ho
    obtain ⟨x, r, rfl, h1, rfl⟩ := zsti_i hf
    exact lv_istore hx hb hd hl h1 rfl (fun la2 h2 => k la2 (zs1_has h2))
  case istore_n i =>
    simp only [beq_iff_eq, Bool.and_eq_true] at ho
    subst ho
    obtain ⟨x, r, rfl, h1, rfl⟩ := zsti_i hf
    exact lv_istore_n hx hb hd rfl hl h1 rfl (fun la2 h2 => k la2 (zs1_has h2))
  case lstore i =>
    simp only [beq_iff_eq, Bool.and_eq_true] at ho
    subst ho
    obtain ⟨x, r, rfl, h1, rfl⟩ := zstl_i hf
    exact lv_lstore hx hb hd hl h1 rfl (fun la2 h2 => k la2 (zs2_has h1 h2))
  case lstore_n i =>
    simp only [beq_iff_eq, Bool.and_eq_true] at ho
    subst ho
    obtain ⟨x, r, rfl, h1, rfl⟩ := zstl_i hf
    exact lv_lstore_n hx hb hd rfl hl h1 rfl (fun la2 h2 => k la2 (zs2_has h1 h2))
  case dstore i =>
    simp only [beq_iff_eq, Bool.and_eq_true] at ho
    subst ho
    obtain ⟨x, r, rfl, h1, rfl⟩ := zstd_i hf
    exact lv_dstore hx hb hd hl h1 rfl (fun la2 h2 => k la2 (zs2_has h1 h2))
  case dstore_n i =>
    simp only [beq_iff_eq, Bool.and_eq_true] at ho
    subst ho
    obtain ⟨x, r, rfl, h1, rfl⟩ := zstd_i hf
    exact lv_dstore_n hx hb hd rfl hl h1 rfl (fun la2 h2 => k la2 (zs2_has h1 h2))
  case astore i =>
    simp only [beq_iff_eq, Bool.and_eq_true] at ho
    subst ho
    rcases zsta_i hf with ⟨x, r, rfl, h1, rfl⟩ | ⟨r, rfl, h1, rfl⟩
    · exact lv_astore hx hb hd hl h1 rfl (fun la2 h2 => k la2 (zs1_has h2))
    · exact lv_astoreN hx hb hd hl h1 rfl (fun la2 h2 => k la2 (zs1_has h2))
  case astore_n i =>
    simp only [beq_iff_eq, Bool.and_eq_true] at ho
    subst ho
    rcases zsta_i hf with ⟨x, r, rfl, h1, rfl⟩ | ⟨r, rfl, h1, rfl⟩
    · exact lv_astore_n hx hb hd rfl hl h1 rfl (fun la2 h2 => k la2 (zs1_has h2))
    · exact lv_astore_nN hx hb hd rfl hl h1 rfl (fun la2 h2 => k la2 (zs1_has h2))
  case iinc i n =>
    simp only [beq_iff_eq, Bool.and_eq_true] at ho
    obtain ⟨rfl, ho⟩ := ho
    obtain ⟨x, h1, h2, rfl⟩ := zinc_i hf
    have h3 := zl_of (i := 0) h1
    rw [Nat.zero_add] at h3
    obtain ⟨j, h4⟩ := List.getElem?_of_mem h3
    exact lv_iinc hx hb hd hl h4 (by rw [ho]) h2 rfl (fun la2 h2 => k la2 (zs1_has h2))
  case iadd =>
    simp only [beq_iff_eq, Bool.and_eq_true] at ho
    subst ho
    obtain ⟨x, y, r, rfl, rfl⟩ := zb_i hf
    exact lv_iadd hx hb hd (k la hl)
  case isub =>
    simp only [beq_iff_eq, Bool.and_eq_true] at ho
    subst ho
    obtain ⟨x, y, r, rfl, rfl⟩ := zb_i hf
    exact lv_isub hx hb hd (k la hl)
  case imul =>
    simp only [beq_iff_eq, Bool.and_eq_true] at ho
    subst ho
    obtain ⟨x, y, r, rfl, rfl⟩ := zb_i hf
    exact lv_imul hx hb hd (k la hl)
  case iand =>
    simp only [beq_iff_eq, Bool.and_eq_true] at ho
    subst ho
    obtain ⟨x, y, r, rfl, rfl⟩ := zb_i hf
    exact lv_iand hx hb hd (k la hl)
  case ior =>
    simp only [beq_iff_eq, Bool.and_eq_true] at ho
    subst ho
    obtain ⟨x, y, r, rfl, rfl⟩ := zb_i hf
    exact lv_ior hx hb hd (k la hl)
  case ixor =>
    simp only [beq_iff_eq, Bool.and_eq_true] at ho
    subst ho
    obtain ⟨x, y, r, rfl, rfl⟩ := zb_i hf
    exact lv_ixor hx hb hd (k la hl)
  case ishl =>
    simp only [beq_iff_eq, Bool.and_eq_true] at ho
    subst ho
    obtain ⟨x, y, r, rfl, rfl⟩ := zb_i hf
    exact lv_ishl hx hb hd (k la hl)
  case ishr =>
    simp only [beq_iff_eq, Bool.and_eq_true] at ho
    subst ho
    obtain ⟨x, y, r, rfl, rfl⟩ := zb_i hf
    exact lv_ishr hx hb hd (k la hl)
  case idiv =>
    simp only [beq_iff_eq, Bool.and_eq_true] at ho
    subst ho
    obtain ⟨x, y, r, rfl, h0, rfl⟩ := zbd_i hf
    exact lv_idiv hx hb hd h0 (k la hl)
  case irem =>
    simp only [beq_iff_eq, Bool.and_eq_true] at ho
    subst ho
    obtain ⟨x, y, r, rfl, h0, rfl⟩ := zbd_i hf
    refine lv_irem hx hb hd h0 ?_
    have k2 := k la hl
    dsimp only at k2
    rw [← irem_eq_mod] at k2
    exact k2
  case ladd =>
    simp only [beq_iff_eq, Bool.and_eq_true] at ho
    subst ho
    obtain ⟨x, y, r, rfl, rfl⟩ := zbl_i hf
    exact lv_ladd hx hb hd (k la hl)
  case lsub =>
    simp only [beq_iff_eq, Bool.and_eq_true] at ho
    subst ho
    obtain ⟨x, y, r, rfl, rfl⟩ := zbl_i hf
    exact lv_lsub hx hb hd (k la hl)
  case land =>
    simp only [beq_iff_eq, Bool.and_eq_true] at ho
    subst ho
    obtain ⟨x, y, r, rfl, rfl⟩ := zbl_i hf
    exact lv_land hx hb hd (k la hl)
  case lor =>
    simp only [beq_iff_eq, Bool.and_eq_true] at ho
    subst ho
    obtain ⟨x, y, r, rfl, rfl⟩ := zbl_i hf
    exact lv_lor hx hb hd (k la hl)
  case lxor =>
    simp only [beq_iff_eq, Bool.and_eq_true] at ho
    subst ho
    obtain ⟨x, y, r, rfl, rfl⟩ := zbl_i hf
    exact lv_lxor hx hb hd (k la hl)
  case lmul =>
    simp only [beq_iff_eq, Bool.and_eq_true] at ho
    subst ho
    obtain ⟨x, y, r, rfl, rfl⟩ := zbl_i hf
    exact lv_lmul hx hb hd (k la hl)
  case lshl =>
    simp only [beq_iff_eq, Bool.and_eq_true] at ho
    subst ho
    obtain ⟨x, y, r, rfl, rfl⟩ := zbs_i hf
    exact lv_lshl hx hb hd rfl (k la hl)
  case lshr =>
    simp only [beq_iff_eq, Bool.and_eq_true] at ho
    subst ho
    obtain ⟨x, y, r, rfl, rfl⟩ := zbs_i hf
    exact lv_lshr hx hb hd rfl (k la hl)
  case lushr =>
    simp only [beq_iff_eq, Bool.and_eq_true] at ho
    subst ho
    obtain ⟨x, y, r, rfl, rfl⟩ := zbs_i hf
    exact lv_lushr hx hb hd rfl (k la hl)
  case ineg =>
    simp only [beq_iff_eq, Bool.and_eq_true] at ho
    subst ho
    obtain ⟨x, r, rfl, rfl⟩ := zu_i hf
    exact lv_ineg hx hb hd (k la hl)
  case i2c =>
    simp only [beq_iff_eq, Bool.and_eq_true] at ho
    subst ho
    obtain ⟨x, r, rfl, rfl⟩ := zu_i hf
    exact lv_i2c hx hb hd rfl (k la hl)
  case i2l =>
    simp only [beq_iff_eq, Bool.and_eq_true] at ho
    subst ho
    split at hf
    · cases hf; exact lv_i2l hx hb hd rfl (k la hl)
    · cases hf
  case l2i =>
    simp only [beq_iff_eq, Bool.and_eq_true] at ho
    subst ho
    split at hf
    · cases hf; exact lv_l2i hx hb hd rfl (k la hl)
    · cases hf
  case i2d =>
    simp only [beq_iff_eq, Bool.and_eq_true] at ho
    subst ho
    split at hf
    · cases hf; exact lv_i2d hx hb hd (k la hl)
    · cases hf
  case lcmp =>
    simp only [beq_iff_eq, Bool.and_eq_true] at ho
    subst ho
    split at hf
    · cases hf; exact W.lcmp hx hb hd (k la hl)
    · cases hf
  case dcmp op =>
    simp only [beq_iff_eq, Bool.and_eq_true] at ho
    subst ho
    split at hf
    · cases hf; exact lv_dcmp hx hb hd (k la hl)
    · cases hf
  case dup =>
    simp only [beq_iff_eq, Bool.and_eq_true] at ho
    subst ho
    split at hf
    · split at hf
      · next h1 => cases hf; exact lv_dup hx hb hd (zv1_cat h1) (k la hl)
      · cases hf
    · cases hf
  case pop =>
    simp only [beq_iff_eq, Bool.and_eq_true] at ho
    subst ho
    split at hf
    · split at hf
      · next h1 => cases hf; exact lv_pop hx hb hd (zv1_cat h1) (k la hl)
      · cases hf
    · cases hf
  case dup2 =>
    simp only [beq_iff_eq, Bool.and_eq_true] at ho
    subst ho
    split at hf
    · split at hf
      · next h1 =>
        rw [Bool.and_eq_true] at h1
        cases hf
        exact lv_dup2_11 hx hb hd (zv1_cat h1.1) (zv1_cat h1.2) (k la hl)
      · cases hf
    · cases hf
  case goto off =>
    simp only [beq_iff_eq, Bool.and_eq_true] at ho
    obtain ⟨rfl, ho⟩ := ho
    cases hf
    exact lv_goto hx hb hd ho (k la hl)
  case ifnull off =>
    simp only [beq_iff_eq, Bool.and_eq_true] at ho
    obtain ⟨rfl, ho⟩ := ho
    split at hf
    · cases hf; exact lv_ifnullN hx hb hd ho (k la hl)
    · cases hf; exact lv_ifnull hx hb hd (k la hl)
    · cases hf
  case ifnonnull off =>
    simp only [beq_iff_eq, Bool.and_eq_true] at ho
    obtain ⟨rfl, ho⟩ := ho
    split at hf
    · cases hf; exact lv_ifnonnullN hx hb hd (k la hl)
    · cases hf; exact lv_ifnonnull hx hb hd ho (k la hl)
    · cases hf
theorem zrun_ok (hx : p.tables.exec = Jvm.exec) {cc : ByteArray} (hb : c.code = cc) {t : List zI} (ht : zT cc t) : ∀ (n : Nat) (f f2 : zF), zrun t n f = some f2 → zW p l e R s m args below meth c H locs cells slots Q f2 → zW p l e R s m args below meth c H locs cells slots Q f := by
  intro n
  induction n with
  | zero =>
    intro f f2 h k
    cases h
    exact k
  | succ n ih =>
    intro f f2 h k
    obtain ⟨pc, ls, st⟩ := f
    unfold zrun at h
    split at h
    · next ins len imm tgt hl =>
      obtain ⟨h1, h2⟩ := zT_at ht hl
      split at h
      · next f3 h3 => exact zpeff_ok hx hb h1 h2 h3 (ih f3 f2 h k)
      · cases h
    · cases h
set_option maxHeartbeats 4000000 in
theorem zbr_ok (hx : p.tables.exec = Jvm.exec) {cc : ByteArray} (hb : c.code = cc) {t : List zI} (ht : zT cc t) {pc : Nat} {ins : Instr} {len tgt : Nat} {imm : Int32} {ls : zL} {st r : List Value} {P : Prop} (hl : t.lookup pc = some (ins, len, imm, tgt)) (hf : zbr ins st = some (P, r)) (kt : P → zW p l e R s m args below meth c H locs cells slots Q (tgt, ls, r)) (kf : ¬ P → zW p l e R s m args below meth c H locs cells slots Q (pc + 3, ls, r)) : zW p l e R s m args below meth c H locs cells slots Q (pc, ls, st) := by
  obtain ⟨hd, ho⟩ := zT_at ht hl
  dsimp only at hd ho
  intro la hla
  show W p l e R s m args below meth c H locs cells slots Q (F0 m pc la st)
  cases ins <;> (unfold zbr at hf; dsimp only at hf; unfold zok at ho; dsimp only at ho) <;> try (cases hf; done)
  case ifCond op off =>
    simp only [beq_iff_eq, Bool.and_eq_true] at ho
    obtain ⟨rfl, ho⟩ := ho
    split at hf
    · cases op <;> (dsimp only at hf; cases hf)
      · exact lv_if_eq hx hb hd ho (fun q => kt q la hla) (fun q => kf q la hla)
      · exact lv_if_ne hx hb hd ho (fun q => kt q la hla) (fun q => kf (fun z => z q) la hla)
      · exact lv_if_lt hx hb hd ho (fun q => kt q la hla) (fun q => kf q la hla)
      · exact lv_if_ge hx hb hd ho (fun q => kt q la hla) (fun q => kf q la hla)
      · exact lv_if_gt hx hb hd ho (fun q => kt q la hla) (fun q => kf q la hla)
      · exact lv_if_le hx hb hd ho (fun q => kt q la hla) (fun q => kf q la hla)
    · cases hf
  case if_icmp op off =>
    simp only [beq_iff_eq, Bool.and_eq_true] at ho
    obtain ⟨rfl, ho⟩ := ho
    split at hf
    · cases op <;> (dsimp only at hf; cases hf)
      · exact lv_icmp_eq hx hb hd ho (fun q => kt q la hla) (fun q => kf q la hla)
      · exact lv_icmp_ne hx hb hd ho (fun q => kt q la hla) (fun q => kf (fun z => z q) la hla)
      · exact lv_icmp_lt hx hb hd ho (fun q => kt q la hla) (fun q => kf q la hla)
      · exact lv_icmp_ge hx hb hd ho (fun q => kt q la hla) (fun q => kf q la hla)
      · exact lv_icmp_gt hx hb hd ho (fun q => kt q la hla) (fun q => kf q la hla)
      · exact lv_icmp_le hx hb hd ho (fun q => kt q la hla) (fun q => kf q la hla)
    · cases hf
end ZP
