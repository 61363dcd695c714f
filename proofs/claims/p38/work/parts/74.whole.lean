-- ===== YOUR PART BEGINS =====
theorem whole_start {p : Program} {e : Env} {s : State} {m : MethodId} {below : List Frame} {meth : Method} {c : Code} (l : Launch) (hflags : l.flags = flags0) {b L : Nat} {xs : Nat → Int32} (hL : L ≤ 260) (C0 : lw_At p s m meth c b L xs) : W p l e room_1 s m #[Value.ref b] below meth c s.heap [] 0 0 (lw_Z below #[Value.ref b] s) (entryFrame m ([Value.ref b] : List Value).toArray 19) := by
  obtain ⟨hx, hb, hr, hml, hown, hts, hX, hbl, hlocks, hgv⟩ := id C0
  obtain ⟨E, hE1, hE, hov⟩ := zEv_of C0
  obtain ⟨st, z0, z1, z2, z3, z4, z5, w0, w1, w2, w3, w4, w5, w6, e6, hlt, hinj⟩ := st_all hL C0
  subst hE1
  have hst : l.stackTraces = false := by
    unfold Launch.stackTraces
    rw [hflags]
    decide
  have hd0 := Drawn.sameBut.refl E.1.drawn lw_cs
  refine W.base ?_
  have hl := lv_entry ([.ref b]) (n := 19) (Nat.le_of_ble_eq_true rfl)
  rw [lg_entry_eq]
  generalize (lg_sl ([.ref b]) ++ List.replicate (19 - (lg_sl ([.ref b])).length) Slot.unset).toArray = ls at hl ⊢
  have hl : lv_has ls 19 [(0, .ref b)] := hl
  have C : zCx E (p, l, e, room_1, E.1.setDrawn E.1.drawn, m, #[Value.ref b], below, meth, c, lw_Z below #[Value.ref b] E.1) code 19 R_Lw meth.name (some .boolean) room_1 := ⟨hE, rfl, hx, hb, hml, hown, State.WarmedH.refl E.1, hlocks, hr, rfl, hst, Nat.le_refl _, fun _ _ => rfl⟩
  have hend : ∀ (h : aH) (sz k n : Nat) (ls : zL), k ≤ 600130 → n ≤ 7301080 → Z E (p, l, e, room_1, E.1.setDrawn E.1.drawn, m, #[Value.ref b], below, meth, c, lw_Z below #[Value.ref b] E.1) h sz k n (1011, ls, [.int (nI 1)]) := by
    intro h sz k n ls hk hn H locs g1 g2 g3 la hla
    refine va_forget (fun q hq => g3 q hq) ?_
    refine W.widen hk hn ?_
    exact lw_ret (pc := 1011) hd0 hx hb hr hlocks (by decide +kernel)
  have K := law_pre C hov hL hlt hinj z0 z1 z2 z3 z4 z5 hend (xs := xs)
  have hH : zH E (hS0 st L xs) (zB E) E.1.heap := by
    refine ⟨Nat.le_refl _, Nat.le_refl _, fun _ _ => rfl, fun a c hc => ?_⟩
    obtain ⟨i, hi, rfl, rfl⟩ := hS0_of hc
    refine ⟨hlt i hi, Or.inr (Or.inr ⟨?_, ?_⟩)⟩
    · match i, hi with
      | 0, _ => rfl
      | 1, _ => rfl
      | 2, _ => rfl
      | 3, _ => rfl
      | 4, _ => rfl
      | 5, _ => rfl
      | 6, _ => rfl
      | i + 7, hi => exact absurd hi (by omega)
    · match i, hi with
      | 0, _ => exact w0
      | 1, _ => exact w1
      | 2, _ => exact w2
      | 3, _ => exact w3
      | 4, _ => exact w4
      | 5, _ => exact w5
      | 6, _ => exact w6
      | i + 7, hi => exact absurd hi (by omega)
  have hl2 : lv_has ls 19 [(0, .ref (st 6))] := by rw [e6]; exact hl
  exact K E.1.heap [] hH (Nat.le_refl _) (fun q hq => (by cases hq)) ls hl2
-- ===== YOUR PART ENDS =====
