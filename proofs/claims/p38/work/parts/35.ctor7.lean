/-- what the constructor leaves behind, step by step -/
def zNX (h : aH) (a sz : Nat) : zO := fun o h2 sz2 => o = .inl none ∧ ∃ (H1 H2 H3 H4 : aH) (S1 S2 S3 : Nat) (g b qa : Nat) (gs bd : Nat → Nat) (tt tc tb tq : Nat),
  (nGm H1 sz g S1 ∧ H1 a = some (5, 0, updV (z0 t_Xx) 0 (.ref g)) ∧ ∀ x, x < sz → x ≠ a → H1 x = h x) ∧
  (S1 ≤ b ∧ iHs (hset H1 b (2, 0, z0 t_Hs)) b (b + 1) qa 5 gs bd H2 S2) ∧
  (S2 ≤ tt ∧ tt < tc ∧ tc < S3 ∧ H3 tt = some (3, 0, updV (updV (z0 t_Tx) 0 (.ref tc)) 1 (.int (nI 0))) ∧ H3 tc = some (13, 60, fun _ => .int 0) ∧ ∀ x, x < S2 → x ≠ a → H3 x = (hset H2 a (5, 0, updV (updV (z0 t_Xx) 0 (.ref g)) 1 (.ref b))) x) ∧
  (S3 ≤ tb ∧ tb < tq ∧ tq < sz2 ∧ H4 tb = some (0, 0, updV (z0 t_Bd) 0 (.ref tq)) ∧ H4 tq = some (10, 36, fun _ => .int 0) ∧ H4 a = some (5, 0, updV (updV (updV (updV (z0 t_Xx) 0 (.ref g)) 1 (.ref b)) 2 (.ref tt)) 3 (.ref tb)) ∧ ∀ x, x < S3 → x ≠ a → H4 x = H3 x) ∧ h2 = H4
set_option maxRecDepth 20000 in
theorem ct_Xx_init {E : zE} (hE : zEv E) {l : Launch} (hl : l.stackTraces = false) (hov : va_AO R_Gm E.1) (h : aH) (a sz : Nat) (ha : h a = some (5, 0, z0 t_Xx)) (has : a < sz) (hB : zB E ≤ a) : zK E l y_Xx_init [.code y_Xx_init c_Xx_init 1 none] rm_Xx_init [.ref a] h sz (zNX h a sz) := by
  refine zK_of hE hl (by decide +kernel) [some (.ref a)] ⟨rfl, rfl, Nat.le_of_ble_eq_true rfl⟩ ?_
  intro G C q
  refine Z_run C it_Xx_init 1 (f2 := (1, [some (.ref a)], [.ref a])) rfl ?_
  refine Z_oinit C it_Xx_init rfl ml_Xx_o wO_in wO_co rfl ⟨by decide, by decide⟩ ?_
  refine sX_Gm C ha has hB (fun H1 S1 hf1 => ?_)
  obtain ⟨⟨g, n1, a1⟩, k1⟩ := hf1
  have s1 : sz < S1 := by obtain ⟨q1, q2, q3, q4, u1, u2, u3, u4, u5, u6, -⟩ := n1; omega
  refine sX_Hs C a1 (by omega) hB hov (fun H2' S2 hf2 => ?_)
  obtain ⟨b, qa, gs, bd, H2, b1, i2, rfl⟩ := hf2
  have s2 : b + 1 < S2 := by have u1 := i2.1; have u2 := i2.2.2.2.2.1; omega
  refine sX_Tx C hset_s (by omega) hB (fun H3 S3 hf3 => ?_)
  obtain ⟨tt, tc, v1, v2, v3, v4, v5, v6, v7⟩ := hf3
  refine sX_Bd C v6 (by omega) hB (fun H4 S4 hf4 => ?_)
  obtain ⟨tb, tq, w1, w2, w3, w4, w5, w6, w7⟩ := hf4
  exact Z_vret C q it_Xx_init rfl ⟨rfl, H1, H2, H3, H4, S1, S2, S3, g, b, qa, gs, bd, tt, tc, tb, tq, ⟨n1, a1, k1⟩, ⟨b1, i2⟩, ⟨v1, v2, v3, v4, v5, v7⟩, ⟨w1, w2, w3, w4, w5, w6, w7⟩, rfl⟩ (by decide) (by decide)
