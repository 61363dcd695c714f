/-! ===== the first picture ===== -/
theorem one_0 : one_ (fun _ => 0) := fun s _ j k _ _ h1 _ => by
  have : hld (fun _ => 0) j s = false := by unfold hld; simp
  rw [this] at h1
  cases h1
theorem SIM_0 {l : List Nat} {L : Nat} {xs : Nat → Int32} {sz : Nat} (h : ∀ i, i < 53 → (mkD l L xs).1 i < sz) : SIM (mkD l L xs) V0 (P0 l) (fun _ => none) sz 0 := by
  have hF : zGm.F (V0 1, V0 3, V0 4, V0 5, P0 l 1 7, ([] : List zPos)) = fun _ => 0 := by
    funext k
    exact (by decide : pn 0 = 0)
  have hc0 : ∀ s, cnt (fun k => hld (fun _ => 0) k s) 36 = 0 := fun s => by
    have : (fun k => hld (fun _ => 0) k s) = fun _ => false := by funext k; unfold hld; simp
    rw [this]
    rfl
  refine ⟨fun q c hq => (by cases hq), ⟨h, fun q c hq => (by cases hq)⟩, [], 0, [], fun k => 8 + 5 * k, fun _ => 0, 0, rfl, ⟨fun _ => fun _ => 0, fun _ => 0, 0, 0, false, false, none, ?_⟩, Nat.zero_le _, ?_, rfl, ⟨fun _ => 0, fun i hi => (by cases hi), fun i j _ hj => (by cases hj), fun i y hy => (by cases hy)⟩, fun k _ => ⟨rfl, (show 0 < 65536 by decide)⟩, fun k _ => ⟨rfl, (show 0 < 65536 by decide)⟩, rfl, rfl, (by decide)⟩
  · refine ⟨⟨?_, fun k hk => ?_, ?_, fun s hs => ?_⟩, ⟨(by decide), rfl, rfl⟩, ⟨rfl, rfl⟩, ⟨rfl, rfl⟩, ⟨rfl, rfl, fun k hk => (by cases hk), fun _ => rfl⟩, ⟨rfl, rfl⟩, ⟨fun _ => ⟨rfl, rfl, rfl, rfl, rfl⟩, fun h => (by cases h)⟩, ⟨rfl, ?_⟩, fun m hm => (by omega), fun s hs => ?_⟩
    · rw [hF]; exact fun k hk => (show 0 < 128 by decide)
    · rw [hF]
      show (if k = 38 then (-1 : Int32) else 0) = _
      rw [if_neg (by omega)]
      rfl
    · rw [hF]; exact one_0
    · rw [hF, hc0]; exact Nat.zero_le _
    · exact TRm_0 (fun k hk => (show 0 < 128 by decide))
    · rcases (show s = 0 ∨ s = 1 by omega) with rfl | rfl <;> exact ⟨rfl, rfl⟩
  · refine ⟨fun k hk => ?_, fun i hi => (by show 8 + 5 * i ≤ 28; omega), fun i j hi hj hij => (by show 8 + 5 * i + 5 ≤ 8 + 5 * j ∨ 8 + 5 * j + 5 ≤ 8 + 5 * i; omega), rfl, (by decide), fun i y hy => (by cases hy)⟩
    match k, hk with
    | 0, _ => exact ⟨rfl, isG_8, by decide⟩
    | 1, _ => exact ⟨rfl, isG_13, by decide⟩
    | 2, _ => exact ⟨rfl, isG_18, by decide⟩
    | 3, _ => exact ⟨rfl, isG_23, by decide⟩
    | 4, _ => exact ⟨rfl, isG_28, by decide⟩
