/-! ===== the law's start: its facts ===== -/
abbrev zFL : List Cond := flatC (Jvm.Cond.and given_1 narrow_1)
theorem arr_prim {s : State} {args : Array Value} {ty : FieldType} (h : (Cond.arrayClass ty).before args s = true) (hp : ∀ C : String, ty ≠ .object C) (ha : ∀ t : FieldType, ty ≠ .array t) : ∃ cA : ClassId, ArrOfT s cA ty ∧ va_RA s cA ty := by
  obtain ⟨c, k, comp, h1, h2, h3⟩ := Cond.arrayClass_spec h
  refine ⟨c, fun n z => ⟨fun k h => (by cases h), k, h2, comp, h3⟩, ?_⟩
  cases ty
  case object C => exact absurd rfl (hp C)
  all_goals exact h1
theorem arr_obj {s : State} {args : Array Value} {C : String} (h : (Cond.arrayOver (.object C)).before args s = true) : ∃ cA : ClassId, ArrOfT s cA (.object C) ∧ va_RA s cA (.object C) := by
  obtain ⟨comp, c, k, f1, f2, f3, f4, f5⟩ := Cond.arrayOver_spec h
  exact ⟨c, fun n z => ⟨fun k h => (by cases h), k, f3, comp, f4⟩, k, comp, f3, f4, f1, f5⟩
theorem zNc_ok : zNc.all (fun q => decide (Cond.not (.castable q.1 q.2) ∈ zFL)) = true := by decide +kernel
theorem zEv_of {p : Program} {s : State} {m : MethodId} {meth : Method} {c : Code} {b L : Nat} {xs : Nat → Int32} (C0 : lw_At p s m meth c b L xs) : ∃ E : zE, E.1 = s ∧ zEv E ∧ va_AO R_Gm E.1 := by
  obtain ⟨hx, hb, hr, hml, hown, hts, hX, hbl, hlocks, hgv⟩ := id C0
  have hs := flat_of_before _ hgv
  have htz : ∀ w ∈ zWs, w.before #[Value.ref b] s = true := fun w hw => hts w (List.mem_filter.mp hw).1
  obtain ⟨c0, i0, k0⟩ := u_known (C := R_Bd) (T := F_Bd) (N := 1) (n := 1) htz wi_Bd (hts (.instantiable R_Bd 1) (by decide +kernel))
  obtain ⟨c1, i1, k1⟩ := u_known (C := R_Gm) (T := F_Gm) (N := 8) (n := 8) htz wi_Gm (hts (.instantiable R_Gm 8) (by decide +kernel))
  obtain ⟨c2, i2, k2⟩ := u_known (C := R_Hs) (T := F_Hs) (N := 2) (n := 2) htz wi_Hs (hts (.instantiable R_Hs 2) (by decide +kernel))
  obtain ⟨c3, i3, k3⟩ := u_known (C := R_Tx) (T := F_Tx) (N := 2) (n := 2) htz wi_Tx (hts (.instantiable R_Tx 2) (by decide +kernel))
  obtain ⟨c4, i4, k4⟩ := u_known (C := R_Ps) (T := F_Ps) (N := 7) (n := 7) htz wi_Ps (hts (.instantiable R_Ps 7) (by decide +kernel))
  obtain ⟨c5, i5, k5⟩ := u_known (C := R_Xx) (T := F_Xx) (N := 4) (n := 4) htz wi_Xx (hts (.instantiable R_Xx 4) (by decide +kernel))
  obtain ⟨a0, ar0, ra0⟩ := arr_prim (htz _ wR_int) (fun _ h => by cases h) (fun _ h => by cases h)
  obtain ⟨a1, ar1, ra1⟩ := arr_prim (htz _ wR_long) (fun _ h => by cases h) (fun _ h => by cases h)
  obtain ⟨a3, ar3, ra3⟩ := arr_prim (htz _ wR_char) (fun _ h => by cases h) (fun _ h => by cases h)
  have hao : (Cond.arrayOver (.object R_Gm)).before #[Value.ref b] s = true := hts (.arrayOver (.object R_Gm)) (by decide +kernel)
  obtain ⟨a4, ar4, ra4⟩ := arr_obj hao
  have hA : ∀ a : Nat, a < s.heap.size → ¬ (fun q : Nat => s.heap.size ≤ q) a := fun a h => Nat.not_le.mpr h
  refine ⟨(s, (fun k => if k = 0 then c0 else if k = 1 then c1 else if k = 2 then c2 else if k = 3 then c3 else if k = 4 then c4 else c5), (fun k => if k = 0 then i0 else if k = 1 then i1 else if k = 2 then i2 else if k = 3 then i3 else if k = 4 then i4 else i5), fun t => if t = 10 then a0 else if t = 11 then a1 else if t = 12 then a0 else if t = 13 then a3 else a4), rfl, ⟨fun w hw hg => zgw_at (State.WarmedH.refl s) hg (hts w hw), ⟨fun k q hq => ?_, fun k q h => by simp at h⟩, fun t h1 h2 => ?_, ?_, ?_, fun own k tx hw => ?_, fun C T hCT => ?_⟩, hao⟩
  · match k, hq with
    | 0, hq => cases hq; exact k0
    | 1, hq => cases hq; exact k1
    | 2, hq => cases hq; exact k2
    | 3, hq => cases hq; exact k3
    | 4, hq => cases hq; exact k4
    | 5, hq => cases hq; exact k5
    | k + 6, hq => simp [zCl] at hq
  · rcases (show t = 10 ∨ t = 11 ∨ t = 12 ∨ t = 13 ∨ t = 14 by omega) with rfl | rfl | rfl | rfl | rfl
    · exact ⟨ar0, ra0⟩
    · exact ⟨ar1, ra1⟩
    · exact ⟨ar0, ra0⟩
    · exact ⟨ar3, ra3⟩
    · exact ⟨ar4, ra4⟩
  · exact vx_Zqof (hts (.laysStatic Bundle.tN "UNASSIGNED_STACK" Bundle.steD) (by decide +kernel)) (hts (.initialized Bundle.tN) (by decide +kernel)) (hs (.isRef (.static Bundle.tN "UNASSIGNED_STACK" Bundle.steD)) (by decide +kernel)) hA
  · exact vx_Zqof (hts (.laysStatic Bundle.tN "SUPPRESSED_SENTINEL" Bundle.listD) (by decide +kernel)) (hts (.initialized Bundle.tN) (by decide +kernel)) (hs (.isRef (.static Bundle.tN "SUPPRESSED_SENTINEL" Bundle.listD)) (by decide +kernel)) hA
  · have h : (Cond.stringRef own k tx).before #[Value.ref b] s = true := hts _ hw
    have hcur : ∃ cur, s.vm.findClass own = some cur := by
      have h1 := h
      simp only [Cond.before, Cond.holds, Cond.value] at h1
      cases hc : s.vm.findClass own with
      | none => simp [hc] at h1
      | some cur => exact ⟨cur, rfl⟩
    obtain ⟨cur, hcur⟩ := hcur
    obtain ⟨_, _, _, a, _, _, _, _, _, hev⟩ := Cond.stringRef_spec hcur h
    exact ⟨a, vk_R.of h hev⟩
  · have h1 := List.all_eq_true.mp zNc_ok (C, T) hCT
    rw [decide_eq_true_eq] at h1
    exact va_Nc.of (hs _ h1)
/-! ===== the law's start: the static arrays ===== -/
theorem st_arr {s : State} {b : Nat} (hs : ∀ c ∈ zFL, c.before #[Value.ref b] s = true) (hts : ∀ w ∈ lw_tbl, w.before #[Value.ref b] s = true) {C f : String} {N : Nat} {fn : Nat → Int32} (hN : N < 2 ^ 31) (h1 : Cond.arrayOf (.static C f "[I") .int ∈ zFL) (h2 : Cond.eq (.length (.static C f "[I")) (.int (Int32.ofNat N)) ∈ zFL) (h3 : (List.range N).all (fun j => decide (Cond.eq (.elem (.static C f "[I") (.int (Int32.ofNat j))) (.int (fn j)) ∈ zFL)) = true) (h4 : Cond.not (.eq (.arg 0) (.static C f "[I")) ∈ zFL) (hl : Cond.laysStatic C f "[I" ∈ lw_tbl) (hi : Cond.initialized C ∈ lw_tbl) :
    ∃ t : Nat, va_Z C f "[I" (.ref t) (fun q : Nat => s.heap.size ≤ q) s s.heap ∧ va_T .int t N (fun j => .int (fn j)) (fun q : Nat => s.heap.size ≤ q) s s.heap ∧ t ≠ b := by
  have hA : ∀ a : Nat, a < s.heap.size → ¬ (fun q : Nat => s.heap.size ≤ q) a := fun a h => Nat.not_le.mpr h
  obtain ⟨t, g1, g2⟩ := va_Tof (f := fun j => .int (fn j)) hN (hs _ h1) (Cond.eq_int (hs _ h2) rfl) (fun j hj => by
    have h9 := List.all_eq_true.mp h3 j (List.mem_range.mpr hj)
    rw [decide_eq_true_eq] at h9
    exact Cond.eq_int (hs _ h9) rfl) hA
  refine ⟨t, va_Zref (hts _ hl) (hts _ hi) g1 hA, g2, fun e => ?_⟩
  subst e
  have h9 := hs _ h4
  have e1 : (Term.arg 0).eval #[Value.ref t] s none [] s = some (.ref t) := rfl
  simp [Cond.before, Cond.holds, Cond.value, e1, g1] at h9
theorem va_T_ne {s : State} {A : Nat → Prop} {t t2 N N2 : Nat} {f f2 : Nat → Value} {H : Heap} (h : va_T .int t N f A s H) (h2 : va_T .int t2 N2 f2 A s H) {j : Nat} (hj : j < N) (hj2 : j < N2) (hne : f j ≠ f2 j) : t ≠ t2 := by
  intro e
  subst e
  obtain ⟨c1, a1, -, -, -, -, a2, -⟩ := h
  obtain ⟨c2, b1, -, -, -, -, b2, -⟩ := h2
  rw [a1] at b1
  cases b1
  have := (a2 j hj).symm.trans (b2 j hj2)
  exact hne (Option.some.inj this)
theorem va_T_lt {s : State} {A : Nat → Prop} {ty : FieldType} {t N : Nat} {f : Nat → Value} {H : Heap} (h : va_T ty t N f A s H) : t < H.size := by
  obtain ⟨c1, a1, -⟩ := h
  exact (Array.getElem?_eq_some_iff.mp a1).1
theorem st_a0 {p : Program} {s : State} {m : MethodId} {meth : Method} {c : Code} {b L : Nat} {xs : Nat → Int32} (C0 : lw_At p s m meth c b L xs) : ∃ t : Nat, va_Z R_Pc "KIND_WORTH" "[I" (.ref t) (fun q : Nat => s.heap.size ≤ q) s s.heap ∧ va_T .int t 5 (fun k => .int (zKW k)) (fun q : Nat => s.heap.size ≤ q) s s.heap ∧ t ≠ b := by
  obtain ⟨hx, hb, hr, hml, hown, hts, hX, hbl, hlocks, hgv⟩ := id C0
  exact st_arr (flat_of_before _ hgv) hts (C := R_Pc) (f := "KIND_WORTH") (N := 5) (fn := zKW) (by decide) (by decide +kernel) (by decide +kernel) (by decide +kernel) (by decide +kernel) (by decide +kernel) (by decide +kernel)
theorem st_a1 {p : Program} {s : State} {m : MethodId} {meth : Method} {c : Code} {b L : Nat} {xs : Nat → Int32} (C0 : lw_At p s m meth c b L xs) : ∃ t : Nat, va_Z R_Bd "UP" "[I" (.ref t) (fun q : Nat => s.heap.size ≤ q) s s.heap ∧ va_T .int t 16 (fun k => .int (zUP k)) (fun q : Nat => s.heap.size ≤ q) s s.heap ∧ t ≠ b := by
  obtain ⟨hx, hb, hr, hml, hown, hts, hX, hbl, hlocks, hgv⟩ := id C0
  exact st_arr (flat_of_before _ hgv) hts (C := R_Bd) (f := "UP") (N := 16) (fn := zUP) (by decide) (by decide +kernel) (by decide +kernel) (by decide +kernel) (by decide +kernel) (by decide +kernel) (by decide +kernel)
theorem st_a2 {p : Program} {s : State} {m : MethodId} {meth : Method} {c : Code} {b L : Nat} {xs : Nat → Int32} (C0 : lw_At p s m meth c b L xs) : ∃ t : Nat, va_Z R_Bd "RIGHT" "[I" (.ref t) (fun q : Nat => s.heap.size ≤ q) s s.heap ∧ va_T .int t 16 (fun k => .int (zRT k)) (fun q : Nat => s.heap.size ≤ q) s s.heap ∧ t ≠ b := by
  obtain ⟨hx, hb, hr, hml, hown, hts, hX, hbl, hlocks, hgv⟩ := id C0
  exact st_arr (flat_of_before _ hgv) hts (C := R_Bd) (f := "RIGHT") (N := 16) (fn := zRT) (by decide) (by decide +kernel) (by decide +kernel) (by decide +kernel) (by decide +kernel) (by decide +kernel) (by decide +kernel)
theorem st_a3 {p : Program} {s : State} {m : MethodId} {meth : Method} {c : Code} {b L : Nat} {xs : Nat → Int32} (C0 : lw_At p s m meth c b L xs) : ∃ t : Nat, va_Z R_Bd "FIRST_DIRECTION" "[I" (.ref t) (fun q : Nat => s.heap.size ≤ q) s s.heap ∧ va_T .int t 5 (fun k => .int (zFD k)) (fun q : Nat => s.heap.size ≤ q) s s.heap ∧ t ≠ b := by
  obtain ⟨hx, hb, hr, hml, hown, hts, hX, hbl, hlocks, hgv⟩ := id C0
  exact st_arr (flat_of_before _ hgv) hts (C := R_Bd) (f := "FIRST_DIRECTION") (N := 5) (fn := zFD) (by decide) (by decide +kernel) (by decide +kernel) (by decide +kernel) (by decide +kernel) (by decide +kernel) (by decide +kernel)
theorem st_a4 {p : Program} {s : State} {m : MethodId} {meth : Method} {c : Code} {b L : Nat} {xs : Nat → Int32} (C0 : lw_At p s m meth c b L xs) : ∃ t : Nat, va_Z R_Bd "LAST_DIRECTION" "[I" (.ref t) (fun q : Nat => s.heap.size ≤ q) s s.heap ∧ va_T .int t 5 (fun k => .int (zLD k)) (fun q : Nat => s.heap.size ≤ q) s s.heap ∧ t ≠ b := by
  obtain ⟨hx, hb, hr, hml, hown, hts, hX, hbl, hlocks, hgv⟩ := id C0
  exact st_arr (flat_of_before _ hgv) hts (C := R_Bd) (f := "LAST_DIRECTION") (N := 5) (fn := zLD) (by decide) (by decide +kernel) (by decide +kernel) (by decide +kernel) (by decide +kernel) (by decide +kernel) (by decide +kernel)
theorem st_a5 {p : Program} {s : State} {m : MethodId} {meth : Method} {c : Code} {b L : Nat} {xs : Nat → Int32} (C0 : lw_At p s m meth c b L xs) : ∃ t : Nat, va_Z R_Bd "FARTHEST" "[I" (.ref t) (fun q : Nat => s.heap.size ≤ q) s s.heap ∧ va_T .int t 5 (fun k => .int (zFA k)) (fun q : Nat => s.heap.size ≤ q) s s.heap ∧ t ≠ b := by
  obtain ⟨hx, hb, hr, hml, hown, hts, hX, hbl, hlocks, hgv⟩ := id C0
  exact st_arr (flat_of_before _ hgv) hts (C := R_Bd) (f := "FARTHEST") (N := 5) (fn := zFA) (by decide) (by decide +kernel) (by decide +kernel) (by decide +kernel) (by decide +kernel) (by decide +kernel) (by decide +kernel)
