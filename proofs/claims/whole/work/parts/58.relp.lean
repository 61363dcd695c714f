/-! ===== pieces put and taken away, the start ===== -/
theorem sd_pof : ∀ a, a < 2 → ∀ c, c < 32 → ∀ ld : Bool, sd (pof a c ld) = a ∧ ldr (pof a c ld) = ld := by decide +kernel
theorem hld_pl {F : Nat → Nat} {b p k s : Nat} : hld (plF F b p) k s = if k = b then (p != 0 && sd p == s) else hld F k s := by
  unfold hld plF
  by_cases h : k = b
  · rw [if_pos h, if_pos h]
  · rw [if_neg h, if_neg h]
theorem one_pl {F : Nat → Nat} (h1 : one_ F) {b p : Nat} (hp : ldr p = true → p ≠ 0 → ∀ k, k < 36 → (hld F k (sd p) && ldr (F k)) = false) : one_ (plF F b p) := by
  have key : ∀ s k, (hld (plF F b p) k s && ldr (plF F b p k)) = true → (k = b ∧ p ≠ 0 ∧ sd p = s ∧ ldr p = true) ∨ (k ≠ b ∧ (hld F k s && ldr (F k)) = true) := by
    intro s k h
    rw [hld_pl, Bool.and_eq_true] at h
    obtain ⟨h2, h3⟩ := h
    unfold plF at h3
    by_cases e : k = b
    · rw [if_pos e] at h2 h3
      rw [Bool.and_eq_true, bne_iff_ne, beq_iff_eq] at h2
      exact Or.inl ⟨e, h2.1, h2.2, h3⟩
    · rw [if_neg e] at h2 h3
      exact Or.inr ⟨e, by rw [h2, h3]; rfl⟩
  intro s hs j k hj hk gj gk
  rcases key s j gj with ⟨j1, j2, j3, j4⟩ | ⟨j1, j2⟩
  · rcases key s k gk with ⟨k1, -⟩ | ⟨k1, k2⟩
    · omega
    · have := hp j4 j2 k hk
      rw [j3, k2] at this
      cases this
  · rcases key s k gk with ⟨k1, k2, k3, k4⟩ | ⟨k1, k2⟩
    · have := hp k4 k2 j hj
      rw [k3, j2] at this
      cases this
    · exact h1 s hs j k hj hk j2 k2
theorem cnt_pl {F : Nat → Nat} {b p s : Nat} (hb : b < 36) : cnt (fun k => hld (plF F b p) k s) 36 ≤ cnt (fun k => hld F k s) 36 + 1 := by
  by_cases h : hld (plF F b p) b s = true
  · have e1 : cnt (fun k => hld (plF F b p) k s) 36 = cnt (fun k => k != b && hld (plF F b p) k s) 36 + 1 := cnt_upd (j := b) hb (fun k hk hkb => by rw [show (k != b) = true from bne_iff_ne.mpr hkb, Bool.true_and]) h (by simp)
    have e2 : cnt (fun k => k != b && hld (plF F b p) k s) 36 ≤ cnt (fun k => hld F k s) 36 := cnt_le2 (fun k hk h2 => by
      rw [Bool.and_eq_true, bne_iff_ne, hld_pl] at h2
      rw [if_neg h2.1] at h2
      exact h2.2)
    omega
  · have e2 : cnt (fun k => hld (plF F b p) k s) 36 ≤ cnt (fun k => hld F k s) 36 := cnt_le2 (fun k hk h2 => by
      by_cases e : k = b
      · rw [e] at h2; exact absurd h2 h
      · rw [hld_pl, if_neg e] at h2
        exact h2)
    omega
theorem cnt_ps {F : Nat → Nat} {b p s : Nat} (hs : p = 0 ∨ sd p ≠ s) : cnt (fun k => hld (plF F b p) k s) 36 ≤ cnt (fun k => hld F k s) 36 := cnt_le2 (fun k hk h2 => by
  rw [hld_pl] at h2
  by_cases e : k = b
  · rw [if_pos e, Bool.and_eq_true, bne_iff_ne, beq_iff_eq] at h2
    exact absurd h2 (by rintro ⟨q1, q2⟩; rcases hs with hs | hs; exact q1 hs; exact hs q2)
  · rw [if_neg e] at h2
    exact h2)
theorem TRm_0 {F : Nat → Nat} (hF : okF F) {mv : Nat → Nat} : TRm (fun _ => F) mv 0 0 := ⟨fun _ => hF, fun m hm => by omega, Nat.le_refl 0, fun m h1 h2 => by omega, Or.inl rfl⟩
/-- a change of the board before the game -/
theorem RSc_flat {x x2 : zGm} {z z2 ms : Nat → Int32} {Bd : Nat → Nat → Nat} {mv : Nat → Nat} {tn md bs : Nat} {ov : Bool} {ch : Option Nat} (h : RSc x z ms Bd mv tn md bs ov false ch) {F2 : Nat → Nat} (hx2 : zGm.F x2 = F2) (hf : zGm.f x2 = zGm.f x) (hk : zGm.k x2 = zGm.k x) (hL : zGm.L x2 = zGm.L x) (hF2 : okF F2) (h1 : one_ F2) (h8 : ∀ s, s < 2 → cnt (fun k => hld F2 k s) 36 ≤ 8) (hz : ∀ k, k < 36 → z2 k = nI (mo (F2 k))) (hz2 : ∀ k, 36 ≤ k → k < 42 → z2 k = z k) (hz3 : ∀ k, 44 ≤ k → k < 48 → z2 k = z k) (ha : ∀ s, s < 2 → (zGm.a x2) s = z2 (42 + s) - z2 (45 - s) + z2 (46 + s)) : RSc x2 z2 ms (fun _ => F2) mv tn md bs ov false ch := by
  obtain ⟨⟨a1, a2, a3, a4⟩, ⟨b1, b2, b3⟩, ⟨c1, c2⟩, ⟨d1, d2⟩, ⟨e1, e2, e3, e4⟩, ⟨f1, f2⟩, ⟨g1, g2⟩, ⟨i1, i2⟩, jm, ac⟩ := h
  obtain ⟨q1, q2, q3, q4, q5⟩ := g1 rfl
  subst q2
  subst q3
  refine ⟨⟨by rw [hx2]; exact hF2, by rw [hx2]; exact hz, by rw [hx2]; exact h1, by rw [hx2]; exact h8⟩, ⟨b1, by rw [hf]; exact b2, by rw [hz2 39 (by decide) (by decide)]; exact b3⟩, ⟨by rw [hf]; exact c1, by rw [hz2 40 (by decide) (by decide)]; exact c2⟩, ⟨by rw [hf]; exact d1, by rw [hz2 37 (by decide) (by decide)]; exact d2⟩, ⟨by rw [hf]; exact e1, by rw [hz2 38 (by decide) (by decide)]; exact e2, e3, e4⟩, ⟨by rw [hz2 36 (by decide) (by decide)]; exact f1, by rw [hz2 41 (by decide) (by decide)]; exact f2⟩, ⟨fun _ => ⟨by rw [hL]; exact q1, rfl, rfl, q4, q5⟩, fun q => by cases q⟩, ⟨hx2.symm, TRm_0 hF2⟩, jm, fun s hs => ⟨ha s hs, ?_⟩⟩
  rw [hk, hz3 (44 + s) (by omega) (by omega)]
  exact (ac s hs).2
theorem RSc_put {W : Nat → Nat → Int32} {lv : Value} {L : List zPos} {z ms : Nat → Int32} {Bd : Nat → Nat → Nat} {mv : Nat → Nat} {tn md bs : Nat} {ov : Bool} {ch : Option Nat} (h : RSc (W 1, W 3, W 4, W 5, lv, L) z ms Bd mv tn md bs ov false ch) {a b c : Nat} {ld : Bool} (ha : a < 2) (hb : b < 36) (hc : c < 32) (hc0 : 1 ≤ c) (h8 : cnt (fun k => hld (bF W 2) k a) 36 < 8) (hl : ld = true → lls (fun k => hld (bF W 2) k a && ldr (bF W 2 k)) 36 = none) :
    RSc (W 1, upd (W 3) b (nI (pof a c ld)), upd (W 4) (sd (pof a c ld)) (W 4 (sd (pof a c ld)) + nI (wr (pof a c ld))), W 5, lv, L) (upd (upd z b (nI (mo (pof a c ld)))) (42 + a) (upd z b (nI (mo (pof a c ld))) (42 + a) + nI (wr (pof a c ld)))) ms (fun _ => plF (bF W 2) b (pof a c ld)) mv tn md bs ov false ch := by
  have hh := h
  obtain ⟨⟨a1, a2, a3, a4⟩, -, -, -, -, -, -, -, -, ac⟩ := h
  obtain ⟨s1, s2⟩ := sd_pof a ha c hc ld
  have hp := pof_lt (ld := ld) ha hc
  have hp0 : pof a c ld ≠ 0 := pof_ne hc0
  have hF : okF (bF W 2) := a1
  have hx : zGm.F (W 1, upd (W 3) b (nI (pof a c ld)), upd (W 4) (sd (pof a c ld)) (W 4 (sd (pof a c ld)) + nI (wr (pof a c ld))), W 5, lv, L) = plF (bF W 2) b (pof a c ld) := by
    funext k
    show pn (upd (W 3) b (nI (pof a c ld)) k) = plF (bF W 2) b (pof a c ld) k
    unfold upd plF
    split
    · exact pn_nI (by omega)
    · rfl
  refine RSc_flat hh hx rfl rfl rfl (okF_pl hF hp) (one_pl a3 (fun q1 q2 k hk => ?_)) (fun s hs => ?_) (fun k hk => ?_) (fun k h1 h2 => ?_) (fun k h1 h2 => ?_) (fun s hs => ?_)
  · rw [s1]
    rw [s2] at q1
    exact lls_none.mp (hl q1) k hk
  · by_cases e : s = a
    · subst e
      exact Nat.le_trans (cnt_pl hb) h8
    · exact Nat.le_trans (cnt_ps (Or.inr (by rw [s1]; omega))) (a4 s hs)
  · rw [upd_n (by omega)]
    unfold plF
    by_cases e : k = b
    · rw [e, upd_s, if_pos rfl]
    · rw [upd_n e, if_neg e]
      exact a2 k hk
  · rw [upd_n (by omega), upd_n (by omega)]
  · rw [upd_n (by omega), upd_n (by omega)]
  · show upd (W 4) (sd (pof a c ld)) (W 4 (sd (pof a c ld)) + nI (wr (pof a c ld))) s = _
    obtain ⟨ac1, -⟩ := ac s hs
    have ac1 : W 4 s = z (42 + s) - z (45 - s) + z (46 + s) := ac1
    rw [s1]
    by_cases e : s = a
    · subst e
      rw [upd_s, upd_s, upd_n (by omega), upd_n (by omega), upd_n (by omega), upd_n (by omega), upd_n (by omega), ac1]
      grind
    · rw [upd_n e, upd_n (by omega), upd_n (by omega), upd_n (by omega), upd_n (by omega), upd_n (by omega), upd_n (by omega), ac1]
theorem RSc_take {W : Nat → Nat → Int32} {lv : Value} {L : List zPos} {z ms : Nat → Int32} {Bd : Nat → Nat → Nat} {mv : Nat → Nat} {tn md bs : Nat} {ov : Bool} {ch : Option Nat} (h : RSc (W 1, W 3, W 4, W 5, lv, L) z ms Bd mv tn md bs ov false ch) {a : Nat} (ha : a < 36) :
    RSc (W 1, upd (W 3) a (nI 0), upd (W 4) (sd (bF W 2 a)) (W 4 (sd (bF W 2 a)) - nI (wr (bF W 2 a))), W 5, lv, L) (upd (upd z (42 + sd (bF W 2 a)) (z (42 + sd (bF W 2 a)) - nI (wr (bF W 2 a)))) a (nI 0)) ms (fun _ => plF (bF W 2) a 0) mv tn md bs ov false ch := by
  have hh := h
  obtain ⟨⟨a1, a2, a3, a4⟩, -, -, -, -, -, -, -, -, ac⟩ := h
  have hF : okF (bF W 2) := a1
  have hsd := sd_le (bF W 2 a)
  have hx : zGm.F (W 1, upd (W 3) a (nI 0), upd (W 4) (sd (bF W 2 a)) (W 4 (sd (bF W 2 a)) - nI (wr (bF W 2 a))), W 5, lv, L) = plF (bF W 2) a 0 := by
    funext k
    show pn (upd (W 3) a (nI 0) k) = plF (bF W 2) a 0 k
    unfold upd plF
    split
    · exact pn_nI (by omega)
    · rfl
  refine RSc_flat hh hx rfl rfl rfl (okF_pl hF (by omega)) (one_pl a3 (fun q1 q2 k hk => absurd rfl q2)) (fun s hs => ?_) (fun k hk => ?_) (fun k h1 h2 => ?_) (fun k h1 h2 => ?_) (fun s hs => ?_)
  · exact Nat.le_trans (cnt_ps (Or.inl rfl)) (a4 s hs)
  · unfold plF
    by_cases e : k = a
    · rw [e, upd_s, if_pos rfl]
      rfl
    · rw [upd_n e, upd_n (by omega), if_neg e]
      exact a2 k hk
  · rw [upd_n (by omega), upd_n (by omega)]
  · rw [upd_n (by omega), upd_n (by omega)]
  · show upd (W 4) (sd (bF W 2 a)) (W 4 (sd (bF W 2 a)) - nI (wr (bF W 2 a))) s = _
    obtain ⟨ac1, -⟩ := ac s hs
    have ac1 : W 4 s = z (42 + s) - z (45 - s) + z (46 + s) := ac1
    by_cases e : s = sd (bF W 2 a)
    · rw [← e, upd_s, upd_n (by omega), upd_s, upd_n (by omega), upd_n (by omega), upd_n (by omega), upd_n (by omega), ac1]
      grind
    · rw [upd_n e, upd_n (by omega), upd_n (by omega), upd_n (by omega), upd_n (by omega), upd_n (by omega), upd_n (by omega), ac1]
theorem RSc_start {W : Nat → Nat → Int32} {lv lv2 : Value} {L : List zPos} {z ms : Nat → Int32} {Bd : Nat → Nat → Nat} {mv : Nat → Nat} {tn md bs : Nat} {ov : Bool} {ch : Option Nat} (h : RSc (W 1, W 3, W 4, W 5, lv, L) z ms Bd mv tn md bs ov false ch) :
    RSc (upd (W 1) 5 (bI (mvs (bF W 2) tn 36 == 0)), W 3, W 4, W 5, lv2, (tn, pq4 (bF W 2), n1t tn (bF W 2) L) :: L) (upd (upd z 36 (nI 1)) 37 (bI (mvo (bF W 2) 0 36 == 0))) ms (fun _ => bF W 2) mv tn md bs (mvs (bF W 2) tn 36 == 0) true ch := by
  obtain ⟨⟨a1, a2, a3, a4⟩, ⟨b1, b2, b3⟩, ⟨c1, c2⟩, ⟨d1, d2⟩, ⟨e1, e2, e3, e4⟩, ⟨f1, f2⟩, ⟨g1, g2⟩, ⟨i1, i2⟩, jm, ac⟩ := h
  obtain ⟨q1, q2, q3, q4, q5⟩ := g1 rfl
  subst q2
  subst q3
  subst q4
  subst q5
  have q1 : L = [] := q1
  subst q1
  have hF : okF (bF W 2) := a1
  refine ⟨⟨a1, fun k hk => by rw [upd_n (by omega), upd_n (by omega)]; exact a2 k hk, a3, a4⟩, ⟨b1, ?_, by rw [upd_n (by decide), upd_n (by decide)]; exact b3⟩, ⟨?_, by rw [upd_n (by decide), upd_n (by decide)]; exact c2⟩, ⟨rfl, by rw [upd_s, mvs_mvo hF]⟩, ⟨?_, by rw [upd_n (by decide), upd_n (by decide)]; exact e2, e3, fun _ => e4 rfl⟩, ⟨by rw [upd_n (by decide), upd_s]; rfl, by rw [upd_n (by decide), upd_n (by decide)]; exact f2⟩, ⟨fun q => (by cases q), fun _ => ⟨rfl, rfl⟩⟩, ⟨rfl, TRm_0 hF⟩, jm, fun s hs => ?_⟩
  · exact b2
  · exact c1
  · exact e1
  · rw [upd_n (by omega), upd_n (by omega), upd_n (by omega), upd_n (by omega), upd_n (by omega), upd_n (by omega), upd_n (by omega), upd_n (by omega)]
    exact ac s hs
