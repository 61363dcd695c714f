/-! ===== the law's start: the memory that its loop begins with ===== -/
def adr (l : List Nat) (i : Nat) : Nat := l.getD i 0
theorem fnd {n : Nat} {a : Nat → Nat} (h : ∀ i j, i < n → j < n → a i = a j → i = j) {i : Nat} (hi : i < n) : (List.range n).find? (fun j => a j == a i) = some i := by
  cases hf : (List.range n).find? (fun j => a j == a i) with
  | none =>
    rw [List.find?_eq_none] at hf
    exact absurd (beq_self_eq_true (a i)) (hf i (List.mem_range.mpr hi))
  | some j =>
    have h1 := List.find?_some (p := fun j => a j == a i) hf
    have h2 := List.mem_of_find?_eq_some hf
    rw [h j i (List.mem_range.mp h2) hi (eq_of_beq h1)]
theorem fndz {a : Nat → Nat} (h : ∀ i j, zin i → zin j → a i = a j → i = j) {i : Nat} (hi : zin i) : (List.range 53).find? (fun j => decide (zin j) && a j == a i) = some i := by
  cases hf : (List.range 53).find? (fun j => decide (zin j) && a j == a i) with
  | none =>
    rw [List.find?_eq_none] at hf
    have h1 := hf i (List.mem_range.mpr hi.1)
    rw [decide_eq_true hi, beq_self_eq_true] at h1
    exact absurd rfl h1
  | some j =>
    have h1 := List.find?_some (p := fun j => decide (zin j) && a j == a i) hf
    rw [Bool.and_eq_true, decide_eq_true_eq, beq_iff_eq] at h1
    rw [h j i h1.1 hi h1.2]
def mkD (l : List Nat) (L : Nat) (xs : Nat → Int32) : zD := (adr l, fun q => ((List.range 53).find? (fun i => decide (zin i) && adr l i == q)).getD 53, L, xs)
theorem mkD_ok {l : List Nat} {L : Nat} {xs : Nat → Int32} (h : ∀ i j, zin i → zin j → adr l i = adr l j → i = j) : ∀ i, zin i → (mkD l L xs).2.1 ((mkD l L xs).1 i) = i := by
  intro i hi
  show ((List.range 53).find? (fun j => decide (zin j) && adr l j == adr l i)).getD 53 = i
  rw [fndz h hi]
  rfl
def V0 : Nat → Nat → Int32 := fun c k => match c with
  | 1 => if k = 6 then -1 else 0
  | 8 => if k = 6 then -1 else 0
  | 13 => if k = 6 then -1 else 0
  | 18 => if k = 6 then -1 else 0
  | 23 => if k = 6 then -1 else 0
  | 28 => if k = 6 then -1 else 0
  | _ => 0
def P0 (l : List Nat) : Nat → Nat → Value := fun c k => match c with
  | 7 => .ref (adr l (8 + 5 * k))
  | 40 => .long 0
  | 41 => .long 0
  | 42 => .long 0
  | 43 => .long 0
  | _ => .null
def stc (L : Nat) (xs : Nat → Int32) : Nat → aC
  | 0 => (15, 5, fun k => .int (zKW k))
  | 1 => (15, 16, fun k => .int (zUP k))
  | 2 => (15, 16, fun k => .int (zRT k))
  | 3 => (15, 5, fun k => .int (zFD k))
  | 4 => (15, 5, fun k => .int (zLD k))
  | 5 => (15, 5, fun k => .int (zFA k))
  | _ => (15, L, fun k => .int (xs k))
def hS0 (st : Nat → Nat) (L : Nat) (xs : Nat → Int32) : aH := fun q => ((List.range 7).find? (fun i => st i == q)).map (stc L xs)
theorem hS0_at {st : Nat → Nat} {L : Nat} {xs : Nat → Int32} (h : ∀ i j, i < 7 → j < 7 → st i = st j → i = j) {i : Nat} (hi : i < 7) : hS0 st L xs (st i) = some (stc L xs i) := by
  unfold hS0
  rw [fnd h hi]
  rfl
theorem hS0_of {st : Nat → Nat} {L : Nat} {xs : Nat → Int32} {a : Nat} {c : aC} (h : hS0 st L xs a = some c) : ∃ i, i < 7 ∧ st i = a ∧ stc L xs i = c := by
  unfold hS0 at h
  cases hf : (List.range 7).find? (fun j => st j == a) with
  | none => rw [hf] at h; cases h
  | some j =>
    rw [hf] at h
    have h1 := List.find?_some (p := fun j => st j == a) hf
    exact ⟨j, List.mem_range.mp (List.mem_of_find?_eq_some hf), eq_of_beq h1, Option.some.inj h⟩
theorem Z_HM {E : zE} {G : zG} {h : aH} {sz k n : Nat} {f : zF} {D : zD} {V : Nat → Nat → Int32} {P : Nat → Nat → Value} (hc : ∀ i, zin i → D.1 i < sz ∧ ∃ c, h (D.1 i) = some c ∧ (c = mk D i (V i) (P i) ∨ cAl c (mk D i (V i) (P i)))) (kk : Z E G (HM D V P (fun _ => none)) sz k n f) : Z E G h sz k n f := by
  obtain ⟨p, l, e, R', s, m, args, below, meth, c, Q⟩ := G
  intro H locs g1 g2 g3
  obtain ⟨q1, q2, q3, q4⟩ := g1
  refine kk H locs ⟨q1, q2, q3, fun a c hc2 => ?_⟩ g2 g3
  unfold HM at hc2
  by_cases e : zin (D.2.1 a) ∧ D.1 (D.2.1 a) = a
  · rw [if_pos e] at hc2
    cases hc2
    obtain ⟨h1, c0, h2, h3⟩ := hc _ e.1
    rw [e.2] at h1 h2
    have h4 := (q4 a c0 h2).2
    refine ⟨h1, ?_⟩
    rcases h3 with rfl | h3
    · exact h4
    · exact zC_al h4 h3
  · rw [if_neg e] at hc2
    cases hc2
section CLS
variable {D : zD} {i a b c t : Nat}
theorem cl_gm (e1 : D.1 (i + 1) = b) (e3 : D.1 (i + 3) = c) (e4 : D.1 (i + 4) = t) {v : Nat → Int32} {r : Nat → Value} (hv : v = fun k => if k = 6 then -1 else 0) (hr : r 7 = .null) : cAl (gm0 b c t) (mkG D i v r) := by
  subst e1 e3 e4 hv
  refine ⟨rfl, rfl, (by decide : 1 < 15), fun k hk => ?_⟩
  have hk8 : k < 8 := hk
  match k, hk8 with
  | 0, _ => rfl
  | 1, _ => rfl
  | 2, _ => rfl
  | 3, _ => rfl
  | 4, _ => rfl
  | 5, _ => rfl
  | 6, _ => rfl
  | 7, _ => exact hr.symm
theorem cl_bd (e1 : D.1 (i + 1) = a) : cAl (0, 0, updV (z0 t_Bd) 0 (.ref a)) (mkB D i) := by
  subst e1
  refine ⟨rfl, rfl, (by decide : 0 < 15), fun k hk => ?_⟩
  have hk1 : k < 1 := hk
  match k, hk1 with
  | 0, _ => rfl
theorem cl_i {n : Nat} {v : Nat → Int32} (hv : v = fun _ => 0) : cAl (10, n, fun _ => .int 0) (mkI n v) := by
  subst hv
  exact ⟨rfl, rfl, (by decide : 10 < 15), fun k _ => rfl⟩
end CLS
