/-! ===== the law's start: no piece is there ===== -/
theorem one_0 : one_ (fun _ => 0) := fun s _ j k _ _ h1 _ => by
  have : hld (fun _ => 0) j s = false := by unfold hld; simp
  rw [this] at h1
  cases h1
theorem SU_0 {l : List Nat} {L : Nat} {xs : Nat → Int32} {sz : Nat} (h : ∀ i, zin i → (mkD l L xs).1 i < sz) : SU (mkD l L xs) (vset V0 39 2 (-101)) (P0 l) (fun _ => none) sz (fun _ => 0) 0 := by
  have hF : bF (vset V0 39 2 (-101)) 2 = fun _ => 0 := by
    funext k
    exact (by decide : pn 0 = 0)
  have hh : ∀ k s, hld (fun _ => 0) k s = false := fun k s => by unfold hld; simp
  have hc0 : ∀ s, cnt (fun k => hld (fun _ => 0) k s) 36 = 0 := fun s => by
    have : (fun k => hld (fun _ => 0) k s) = fun _ => false := by funext k; exact hh k s
    rw [this]
    rfl
  have hw0 : ∀ s, wos (fun _ => 0) s 36 = 0 := fun s => by
    have : (fun k => if hld (fun _ => 0) k s then wr ((fun _ => 0 : Nat → Nat) k) else 0) = fun _ => 0 := by
      funext k
      rw [hh k s]
      rfl
    unfold wos
    rw [this]
    rfl
  refine ⟨⟨⟨fun q c hq => (by cases hq), ⟨h, fun q c hq => (by cases hq)⟩, rfl⟩, ⟨hF, fun k _ => (show 0 < 128 by decide), one_0, fun s _ => by rw [hc0]; exact Nat.zero_le _⟩, ⟨by decide, rfl⟩, rfl, rfl, ⟨rfl, fun k hk => by cases hk⟩, ⟨[], fun k => 8 + 5 * k, fun k hk => ?_, fun i hi => (by show 8 + 5 * i ≤ 28; omega), fun i j hi hj hij => (by show 8 + 5 * i + 5 ≤ 8 + 5 * j ∨ 8 + 5 * j + 5 ≤ 8 + 5 * i; omega), rfl, (by decide), fun i y hy => (by cases hy)⟩, fun s hs => ?_⟩, ⟨fun k _ => (show 0 < 128 by decide), fun k _ => ⟨rfl, fun _ => rfl, fun z => absurd rfl z⟩⟩, ⟨rfl, rfl, rfl, fun s hs => ?_⟩, fun _ => ⟨⟨0, fun _ _ _ => rfl⟩, fun x _ s _ _ => hh x s⟩, fun s _ z => absurd z (by omega)⟩
  · match k, hk with
    | 0, _ => exact ⟨rfl, isG_8, by decide⟩
    | 1, _ => exact ⟨rfl, isG_13, by decide⟩
    | 2, _ => exact ⟨rfl, isG_18, by decide⟩
    | 3, _ => exact ⟨rfl, isG_23, by decide⟩
    | 4, _ => exact ⟨rfl, isG_28, by decide⟩
  · rw [hw0]
    rfl
  · rcases (show s = 0 ∨ s = 1 by omega) with rfl | rfl <;> exact ⟨rfl, rfl, rfl, rfl⟩
