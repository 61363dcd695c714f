/-! ===== the law's start: its facts ===== -/
abbrev zFL : List Cond := flatC (Jvm.Cond.and given_1 narrow_1)
theorem arr_prim {s : State} {args : Array Value} {ty : FieldType} (h : (Cond.arrayClass ty).before args s = true) (hp : ∀ C : String, ty ≠ .object C) (ha : ∀ t : FieldType, ty ≠ .array t) : ∃ cA : ClassId, ArrOfT s cA ty ∧ va_RA s cA ty := by
  obtain ⟨c, k, comp, h1, h2, h3⟩ := Cond.arrayClass_spec h
  refine ⟨c, fun n z => ⟨fun k h => (by cases h), k, h2, comp, h3⟩, ?_⟩
  cases ty
  case object C => exact absurd rfl (hp C)
  all_goals exact h1
theorem arr_obj {s : State} {args : Array Value} {C : String} (h : (Cond.arrayOver (.object C)).before args s = true) : ∃ cA : ClassId, ArrOfT s cA (.object C) ∧ va_RA s cA (.object C) := by
  obtain ⟨comp, c, k, f1, f2, f3, f4, f5⟩ := Cond.arrayOver_spec h
  exact ⟨c, fun n z => ⟨fun k h => (by cases h), k, f3, comp, f4⟩, k, comp, f3, f4, f1, f5⟩
theorem zNc_ok : zNc.all (fun q => decide (Cond.not (.castable q.1 q.2) ∈ zFL)) = true := by decide +kernel
theorem zEv_of {p : Program} {s : State} {m : MethodId} {meth : Method} {c : Code} {b L : Nat} {xs : Nat → Int32} (C0 : lw_At p s m meth c b L xs) : ∃ E : zE, E.1 = s ∧ zEv E ∧ va_AO R_Gm E.1 := by
  obtain ⟨hx, hb, hr, hml, hown, hts, hX, hbl, hlocks, hgv⟩ := id C0
  have hs := flat_of_before _ hgv
  have htz : ∀ w ∈ zWs, w.before #[Value.ref b] s = true := fun w hw => hts w (List.mem_filter.mp hw).1
  obtain ⟨c0, i0, k0⟩ := u_known (C := R_Bd) (T := F_Bd) (N := 1) (n := 1) htz wi_Bd (hts (.instantiable R_Bd 1) (by decide +kernel))
  obtain ⟨c1, i1, k1⟩ := u_known (C := R_Gm) (T := F_Gm) (N := 8) (n := 8) htz wi_Gm (hts (.instantiable R_Gm 8) (by decide +kernel))
  obtain ⟨c2, i2, k2⟩ := u_known (C := R_Hs) (T := F_Hs) (N := 2) (n := 2) htz wi_Hs (hts (.instantiable R_Hs 2) (by decide +kernel))
  obtain ⟨c3, i3, k3⟩ := u_known (C := R_Tx) (T := F_Tx) (N := 2) (n := 2) htz wi_Tx (hts (.instantiable R_Tx 2) (by decide +kernel))
  obtain ⟨c4, i4, k4⟩ := u_known (C := R_Ps) (T := F_Ps) (N := 7) (n := 7) htz wi_Ps (hts (.instantiable R_Ps 7) (by decide +kernel))
  obtain ⟨c5, i5, k5⟩ := u_known (C := R_Xx) (T := F_Xx) (N := 4) (n := 4) htz wi_Xx (hts (.instantiable R_Xx 4) (by decide +kernel))
  obtain ⟨c6, i6, k6⟩ := u_known (C := R_Mm) (T := F_Mm) (N := 9) (n := 9) htz wi_Mm (hts (.instantiable R_Mm 9) (by decide +kernel))
  obtain ⟨a0, ar0, ra0⟩ := arr_prim (htz _ wR_int) (fun _ h => by cases h) (fun _ h => by cases h)
  obtain ⟨a1, ar1, ra1⟩ := arr_prim (htz _ wR_long) (fun _ h => by cases h) (fun _ h => by cases h)
  obtain ⟨a2, ar2, ra2⟩ := arr_prim (htz _ wR_double) (fun _ h => by cases h) (fun _ h => by cases h)
  obtain ⟨a3, ar3, ra3⟩ := arr_prim (htz _ wR_char) (fun _ h => by cases h) (fun _ h => by cases h)
  have hao : (Cond.arrayOver (.object R_Gm)).before #[Value.ref b] s = true := hts (.arrayOver (.object R_Gm)) (by decide +kernel)
  obtain ⟨a4, ar4, ra4⟩ := arr_obj hao
  have hA : ∀ a : Nat, a < s.heap.size → ¬ (fun q : Nat => s.heap.size ≤ q) a := fun a h => Nat.not_le.mpr h
  refine ⟨(s, (fun k => if k = 0 then c0 else if k = 1 then c1 else if k = 2 then c2 else if k = 3 then c3 else if k = 4 then c4 else if k = 5 then c5 else c6), (fun k => if k = 0 then i0 else if k = 1 then i1 else if k = 2 then i2 else if k = 3 then i3 else if k = 4 then i4 else if k = 5 then i5 else i6), fun t => if t = 10 then a0 else if t = 11 then a1 else if t = 12 then a2 else if t = 13 then a3 else a4), rfl, ⟨fun w hw hg => zgw_at (State.WarmedH.refl s) hg (hts w hw), ⟨fun k q hq => ?_, fun k q h => by simp at h⟩, fun t h1 h2 => ?_, ?_, ?_, fun own k tx hw => ?_, fun C T hCT => ?_⟩, hao⟩
  · match k, hq with
    | 0, hq => cases hq; exact k0
    | 1, hq => cases hq; exact k1
    | 2, hq => cases hq; exact k2
    | 3, hq => cases hq; exact k3
    | 4, hq => cases hq; exact k4
    | 5, hq => cases hq; exact k5
    | 6, hq => cases hq; exact k6
    | k + 7, hq => simp [zCl] at hq
  · rcases (show t = 10 ∨ t = 11 ∨ t = 12 ∨ t = 13 ∨ t = 14 by omega) with rfl | rfl | rfl | rfl | rfl
    · exact ⟨ar0, ra0⟩
    · exact ⟨ar1, ra1⟩
    · exact ⟨ar2, ra2⟩
    · exact ⟨ar3, ra3⟩
    · exact ⟨ar4, ra4⟩
  · exact vx_Zqof (hts (.laysStatic Bundle.tN "UNASSIGNED_STACK" Bundle.steD) (by decide +kernel)) (hts (.initialized Bundle.tN) (by decide +kernel)) (hs (.isRef (.static Bundle.tN "UNASSIGNED_STACK" Bundle.steD)) (by decide +kernel)) hA
  · exact vx_Zqof (hts (.laysStatic Bundle.tN "SUPPRESSED_SENTINEL" Bundle.listD) (by decide +kernel)) (hts (.initialized Bundle.tN) (by decide +kernel)) (hs (.isRef (.static Bundle.tN "SUPPRESSED_SENTINEL" Bundle.listD)) (by decide +kernel)) hA
  · have h : (Cond.stringRef own k tx).before #[Value.ref b] s = true := hts _ hw
    have hcur : ∃ cur, s.vm.findClass own = some cur := by
      have h1 := h
      simp only [Cond.before, Cond.holds, Cond.value] at h1
      cases hc : s.vm.findClass own with
      | none => simp [hc] at h1
      | some cur => exact ⟨cur, rfl⟩
    obtain ⟨cur, hcur⟩ := hcur
    obtain ⟨_, _, _, a, _, _, _, _, _, hev⟩ := Cond.stringRef_spec hcur h
    exact ⟨a, vk_R.of h hev⟩
  · have h1 := List.all_eq_true.mp zNc_ok (C, T) hCT
    rw [decide_eq_true_eq] at h1
    exact va_Nc.of (hs _ h1)
