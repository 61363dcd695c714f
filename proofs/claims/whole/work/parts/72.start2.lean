/-! ===== the law's start: the static arrays ===== -/
theorem st_arr {s : State} {b : Nat} (hs : ∀ c ∈ zFL, c.before #[Value.ref b] s = true) (hts : ∀ w ∈ lw_tbl, w.before #[Value.ref b] s = true) {C f : String} {N : Nat} {fn : Nat → Int32} (hN : N < 2 ^ 31) (h1 : Cond.arrayOf (.static C f "[I") .int ∈ zFL) (h2 : Cond.eq (.length (.static C f "[I")) (.int (Int32.ofNat N)) ∈ zFL) (h3 : (List.range N).all (fun j => decide (Cond.eq (.elem (.static C f "[I") (.int (Int32.ofNat j))) (.int (fn j)) ∈ zFL)) = true) (h4 : Cond.not (.eq (.arg 0) (.static C f "[I")) ∈ zFL) (hl : Cond.laysStatic C f "[I" ∈ lw_tbl) (hi : Cond.initialized C ∈ lw_tbl) :
    ∃ t : Nat, va_Z C f "[I" (.ref t) (fun q : Nat => s.heap.size ≤ q) s s.heap ∧ va_T .int t N (fun j => .int (fn j)) (fun q : Nat => s.heap.size ≤ q) s s.heap ∧ t ≠ b := by
  have hA : ∀ a : Nat, a < s.heap.size → ¬ (fun q : Nat => s.heap.size ≤ q) a := fun a h => Nat.not_le.mpr h
  obtain ⟨t, g1, g2⟩ := va_Tof (f := fun j => .int (fn j)) hN (hs _ h1) (Cond.eq_int (hs _ h2) rfl) (fun j hj => by
    have h9 := List.all_eq_true.mp h3 j (List.mem_range.mpr hj)
    rw [decide_eq_true_eq] at h9
    exact Cond.eq_int (hs _ h9) rfl) hA
  refine ⟨t, va_Zref (hts _ hl) (hts _ hi) g1 hA, g2, fun e => ?_⟩
  subst e
  have h9 := hs _ h4
  have e1 : (Term.arg 0).eval #[Value.ref t] s none [] s = some (.ref t) := rfl
  simp [Cond.before, Cond.holds, Cond.value, e1, g1] at h9
theorem va_T_ne {s : State} {A : Nat → Prop} {t t2 N N2 : Nat} {f f2 : Nat → Value} {H : Heap} (h : va_T .int t N f A s H) (h2 : va_T .int t2 N2 f2 A s H) {j : Nat} (hj : j < N) (hj2 : j < N2) (hne : f j ≠ f2 j) : t ≠ t2 := by
  intro e
  subst e
  obtain ⟨c1, a1, -, -, -, -, a2, -⟩ := h
  obtain ⟨c2, b1, -, -, -, -, b2, -⟩ := h2
  rw [a1] at b1
  cases b1
  have := (a2 j hj).symm.trans (b2 j hj2)
  exact hne (Option.some.inj this)
theorem va_T_lt {s : State} {A : Nat → Prop} {ty : FieldType} {t N : Nat} {f : Nat → Value} {H : Heap} (h : va_T ty t N f A s H) : t < H.size := by
  obtain ⟨c1, a1, -⟩ := h
  exact (Array.getElem?_eq_some_iff.mp a1).1
theorem st_a0 {p : Program} {s : State} {m : MethodId} {meth : Method} {c : Code} {b L : Nat} {xs : Nat → Int32} (C0 : lw_At p s m meth c b L xs) : ∃ t : Nat, va_Z R_Pc "KIND_WORTH" "[I" (.ref t) (fun q : Nat => s.heap.size ≤ q) s s.heap ∧ va_T .int t 5 (fun k => .int (zKW k)) (fun q : Nat => s.heap.size ≤ q) s s.heap ∧ t ≠ b := by
  obtain ⟨hx, hb, hr, hml, hown, hts, hX, hbl, hlocks, hgv⟩ := id C0
  exact st_arr (flat_of_before _ hgv) hts (C := R_Pc) (f := "KIND_WORTH") (N := 5) (fn := zKW) (by decide) (by decide +kernel) (by decide +kernel) (by decide +kernel) (by decide +kernel) (by decide +kernel) (by decide +kernel)
theorem st_a1 {p : Program} {s : State} {m : MethodId} {meth : Method} {c : Code} {b L : Nat} {xs : Nat → Int32} (C0 : lw_At p s m meth c b L xs) : ∃ t : Nat, va_Z R_Bd "UP" "[I" (.ref t) (fun q : Nat => s.heap.size ≤ q) s s.heap ∧ va_T .int t 16 (fun k => .int (zUP k)) (fun q : Nat => s.heap.size ≤ q) s s.heap ∧ t ≠ b := by
  obtain ⟨hx, hb, hr, hml, hown, hts, hX, hbl, hlocks, hgv⟩ := id C0
  exact st_arr (flat_of_before _ hgv) hts (C := R_Bd) (f := "UP") (N := 16) (fn := zUP) (by decide) (by decide +kernel) (by decide +kernel) (by decide +kernel) (by decide +kernel) (by decide +kernel) (by decide +kernel)
theorem st_a2 {p : Program} {s : State} {m : MethodId} {meth : Method} {c : Code} {b L : Nat} {xs : Nat → Int32} (C0 : lw_At p s m meth c b L xs) : ∃ t : Nat, va_Z R_Bd "RIGHT" "[I" (.ref t) (fun q : Nat => s.heap.size ≤ q) s s.heap ∧ va_T .int t 16 (fun k => .int (zRT k)) (fun q : Nat => s.heap.size ≤ q) s s.heap ∧ t ≠ b := by
  obtain ⟨hx, hb, hr, hml, hown, hts, hX, hbl, hlocks, hgv⟩ := id C0
  exact st_arr (flat_of_before _ hgv) hts (C := R_Bd) (f := "RIGHT") (N := 16) (fn := zRT) (by decide) (by decide +kernel) (by decide +kernel) (by decide +kernel) (by decide +kernel) (by decide +kernel) (by decide +kernel)
theorem st_a3 {p : Program} {s : State} {m : MethodId} {meth : Method} {c : Code} {b L : Nat} {xs : Nat → Int32} (C0 : lw_At p s m meth c b L xs) : ∃ t : Nat, va_Z R_Bd "FIRST_DIRECTION" "[I" (.ref t) (fun q : Nat => s.heap.size ≤ q) s s.heap ∧ va_T .int t 5 (fun k => .int (zFD k)) (fun q : Nat => s.heap.size ≤ q) s s.heap ∧ t ≠ b := by
  obtain ⟨hx, hb, hr, hml, hown, hts, hX, hbl, hlocks, hgv⟩ := id C0
  exact st_arr (flat_of_before _ hgv) hts (C := R_Bd) (f := "FIRST_DIRECTION") (N := 5) (fn := zFD) (by decide) (by decide +kernel) (by decide +kernel) (by decide +kernel) (by decide +kernel) (by decide +kernel) (by decide +kernel)
theorem st_a4 {p : Program} {s : State} {m : MethodId} {meth : Method} {c : Code} {b L : Nat} {xs : Nat → Int32} (C0 : lw_At p s m meth c b L xs) : ∃ t : Nat, va_Z R_Bd "LAST_DIRECTION" "[I" (.ref t) (fun q : Nat => s.heap.size ≤ q) s s.heap ∧ va_T .int t 5 (fun k => .int (zLD k)) (fun q : Nat => s.heap.size ≤ q) s s.heap ∧ t ≠ b := by
  obtain ⟨hx, hb, hr, hml, hown, hts, hX, hbl, hlocks, hgv⟩ := id C0
  exact st_arr (flat_of_before _ hgv) hts (C := R_Bd) (f := "LAST_DIRECTION") (N := 5) (fn := zLD) (by decide) (by decide +kernel) (by decide +kernel) (by decide +kernel) (by decide +kernel) (by decide +kernel) (by decide +kernel)
theorem st_a5 {p : Program} {s : State} {m : MethodId} {meth : Method} {c : Code} {b L : Nat} {xs : Nat → Int32} (C0 : lw_At p s m meth c b L xs) : ∃ t : Nat, va_Z R_Bd "FARTHEST" "[I" (.ref t) (fun q : Nat => s.heap.size ≤ q) s s.heap ∧ va_T .int t 5 (fun k => .int (zFA k)) (fun q : Nat => s.heap.size ≤ q) s s.heap ∧ t ≠ b := by
  obtain ⟨hx, hb, hr, hml, hown, hts, hX, hbl, hlocks, hgv⟩ := id C0
  exact st_arr (flat_of_before _ hgv) hts (C := R_Bd) (f := "FARTHEST") (N := 5) (fn := zFA) (by decide) (by decide +kernel) (by decide +kernel) (by decide +kernel) (by decide +kernel) (by decide +kernel) (by decide +kernel)
