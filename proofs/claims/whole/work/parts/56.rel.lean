/-! ===== a game of the class and a state of the model ===== -/
def RSc (x : zGm) (z ms : Nat → Int32) (Bd : Nat → Nat → Nat) (mv : Nat → Nat) (tn md bs : Nat) (ov st : Bool) (ch : Option Nat) : Prop :=
  (okF (zGm.F x) ∧ (∀ k, k < 36 → z k = nI (mo (zGm.F x k))) ∧ one_ (zGm.F x) ∧ (∀ s, s < 2 → cnt (fun k => hld (zGm.F x) k s) 36 ≤ 8)) ∧
  (tn < 2 ∧ (zGm.f x) 3 = nI tn ∧ z 39 = nI tn) ∧ ((zGm.f x) 4 = nI md ∧ z 40 = nI md) ∧ ((zGm.f x) 5 = bI ov ∧ z 37 = bI ov) ∧
  ((zGm.f x) 6 = oI ch ∧ z 38 = oI ch ∧ (∀ k, ch = some k → k < 2) ∧ (ov = false → ch = none)) ∧ (z 36 = bI st ∧ z 41 = nI bs) ∧
  ((st = false → zGm.L x = [] ∧ md = 0 ∧ bs = 0 ∧ tn = 0 ∧ ov = false) ∧ (st = true → zGm.L x = trL Bd md ∧ tn = md % 2)) ∧
  (Bd md = zGm.F x ∧ TRm Bd mv md bs) ∧ (∀ m, m < md → ms m = nI (mv m)) ∧
  (∀ s, s < 2 → (zGm.a x) s = z (42 + s) - z (45 - s) + z (46 + s) ∧ (zGm.k x) s = z (44 + s))
def RS (x : zGm) (z ms : Nat → Int32) (md : Nat) : Prop := ∃ Bd mv tn bs ov st ch, RSc x z ms Bd mv tn md bs ov st ch
theorem RSc_ext {x : zGm} {z z2 ms ms2 : Nat → Int32} {Bd : Nat → Nat → Nat} {mv : Nat → Nat} {tn md bs : Nat} {ov st : Bool} {ch : Option Nat} (h : RSc x z ms Bd mv tn md bs ov st ch) (hz : ∀ k, k < 48 → z2 k = z k) (hm : ∀ k, k < md → ms2 k = ms k) : RSc x z2 ms2 Bd mv tn md bs ov st ch := by
  obtain ⟨⟨a1, a2, a3, a4⟩, ⟨b1, b2, b3⟩, ⟨c1, c2⟩, ⟨d1, d2⟩, ⟨e1, e2, e3, e4⟩, ⟨f1, f2⟩, g, i, j, k⟩ := h
  refine ⟨⟨a1, fun k hk => by rw [hz k (by omega)]; exact a2 k hk, a3, a4⟩, ⟨b1, b2, by rw [hz 39 (by decide)]; exact b3⟩, ⟨c1, by rw [hz 40 (by decide)]; exact c2⟩, ⟨d1, by rw [hz 37 (by decide)]; exact d2⟩, ⟨e1, by rw [hz 38 (by decide)]; exact e2, e3, e4⟩, ⟨by rw [hz 36 (by decide)]; exact f1, by rw [hz 41 (by decide)]; exact f2⟩, g, i, fun m hm2 => by rw [hm m hm2]; exact j m hm2, fun s hs => ?_⟩
  rw [hz (42 + s) (by omega), hz (45 - s) (by omega), hz (46 + s) (by omega), hz (44 + s) (by omega)]
  exact k s hs
theorem RS_ext {x : zGm} {z z2 ms ms2 : Nat → Int32} {md : Nat} (h : RS x z ms md) (hz : ∀ k, k < 48 → z2 k = z k) (hm : ∀ k, k < md → ms2 k = ms k) : RS x z2 ms2 md := by
  obtain ⟨Bd, mv, tn, bs, ov, st, ch, h⟩ := h
  exact ⟨Bd, mv, tn, bs, ov, st, ch, RSc_ext h hz hm⟩
theorem RSc_L {x : zGm} {z ms : Nat → Int32} {Bd : Nat → Nat → Nat} {mv : Nat → Nat} {tn md bs : Nat} {ov st : Bool} {ch : Option Nat} (h : RSc x z ms Bd mv tn md bs ov st ch) : (!(zGm.L x).isEmpty) = st := by
  obtain ⟨-, -, -, -, -, -, ⟨g1, g2⟩, -⟩ := h
  cases st with
  | false => rw [(g1 rfl).1]; rfl
  | true => rw [(g2 rfl).1, trL_ne]; rfl
/-- the chain's counts stay small -/
theorem RSc_n1t {x : zGm} {z ms : Nat → Int32} {Bd : Nat → Nat → Nat} {mv : Nat → Nat} {tn md bs : Nat} {ov st : Bool} {ch : Option Nat} (h : RSc x z ms Bd mv tn md bs ov st ch) (t : Nat) (F : Nat → Nat) : n1t t F (zGm.L x) ≤ md + 2 := by
  obtain ⟨-, -, -, -, -, -, ⟨g1, g2⟩, -⟩ := h
  unfold n1t
  cases st with
  | false =>
    rw [(g1 rfl).1]
    show 1 + 0 ≤ _
    omega
  | true =>
    rw [(g2 rfl).1]
    have := tbf_le (Bd := Bd) (t := t) (n := md) (a := pq4 F)
    omega
theorem RSc_tmz {x : zGm} {z ms : Nat → Int32} {Bd : Nat → Nat → Nat} {mv : Nat → Nat} {tn md bs : Nat} {ov st : Bool} {ch : Option Nat} (h : RSc x z ms Bd mv tn md bs ov st ch) : tmz (zGm.L x) = if st then tmM (zGm.F x) mv md bs else 0 := by
  obtain ⟨-, -, -, -, -, -, ⟨g1, g2⟩, ⟨i1, i2⟩, -⟩ := h
  cases st with
  | false => rw [(g1 rfl).1]; rfl
  | true =>
    rw [(g2 rfl).1, if_pos rfl, ← i1]
    cases md with
    | zero =>
      unfold tmM
      rw [show 0 - bs = 0 by omega]
      rfl
    | succ m =>
      rw [tmM_n1t i2]
      rfl
theorem RSc_pcs {x : zGm} {z ms : Nat → Int32} {Bd : Nat → Nat → Nat} {mv : Nat → Nat} {tn md bs : Nat} {ov st : Bool} {ch : Option Nat} (h : RSc x z ms Bd mv tn md bs ov st ch) : pcs_ (zGm.F x) ≤ 16 := by
  obtain ⟨⟨-, -, -, h4⟩, -⟩ := h
  have h0 := h4 0 (by decide)
  have h1 := h4 1 (by decide)
  have : ∀ n : Nat, cnt (fun k => zGm.F x k != 0) n = cnt (fun k => hld (zGm.F x) k 0) n + cnt (fun k => hld (zGm.F x) k 1) n := by
    intro n
    induction n with
    | zero => rfl
    | succ n ih =>
      have e0 : cnt (fun k => zGm.F x k != 0) (n + 1) = cnt (fun k => zGm.F x k != 0) n + if (zGm.F x n != 0) = true then 1 else 0 := rfl
      have e1 : cnt (fun k => hld (zGm.F x) k 0) (n + 1) = cnt (fun k => hld (zGm.F x) k 0) n + if hld (zGm.F x) n 0 = true then 1 else 0 := rfl
      have e2 : cnt (fun k => hld (zGm.F x) k 1) (n + 1) = cnt (fun k => hld (zGm.F x) k 1) n + if hld (zGm.F x) n 1 = true then 1 else 0 := rfl
      rw [e0, e1, e2, ih]
      have hs := sd_le (zGm.F x n)
      unfold hld
      by_cases h9 : zGm.F x n = 0
      · simp [h9]
      · rcases (show sd (zGm.F x n) = 0 ∨ sd (zGm.F x n) = 1 by omega) with g | g
        · simp [h9, g]; omega
        · simp [h9, g]; omega
  unfold pcs_
  rw [this 36]
  omega
/-! the pieces behind a move -/
theorem lra_tb : ∀ a, a < 128 → ∀ v, v < 128 → ldr (lra a v) = ldr a ∧ wr (lra a v) = wr a + wst (lrn a v) := by decide +kernel
theorem hld_mv {F : Nat → Nat} (hF : okF F) {a b : Nat} (ha : a < 36) (hb : b < 36) (hab : a ≠ b) (h0 : F a ≠ 0) {k s : Nat} (hk : k < 36) : hld (mvF F a b) k s = if k = a then false else if k = b then hld F a s else hld F k s := by
  unfold hld mvF
  by_cases h1 : k = a
  · rw [if_pos h1, if_pos h1]; rfl
  · rw [if_neg h1, if_neg h1]
    by_cases h2 : k = b
    · rw [if_pos h2, if_pos h2, crr_lra, (sd_lra _ (hF a ha) _ (hF b hb)).1]
      have e1 : (lra (F a) (F b) != 0) = true := bne_iff_ne.mpr (lra_ne h0)
      have e2 : (F a != 0) = true := bne_iff_ne.mpr h0
      rw [e1, e2]
    · rw [if_neg h2, if_neg h2]
theorem ldr_mv {F : Nat → Nat} (hF : okF F) {a b : Nat} (ha : a < 36) (hb : b < 36) {k : Nat} (hka : k ≠ a) : ldr (mvF F a b k) = if k = b then ldr (F a) else ldr (F k) := by
  unfold mvF
  rw [if_neg hka]
  by_cases h2 : k = b
  · rw [if_pos h2, if_pos h2, crr_lra, (lra_tb _ (hF a ha) _ (hF b hb)).1]
  · rw [if_neg h2, if_neg h2]
theorem one_mv {F : Nat → Nat} (hF : okF F) (h1 : one_ F) {a b : Nat} (ha : a < 36) (hb : b < 36) (hab : a ≠ b) (h0 : F a ≠ 0) : one_ (mvF F a b) := by
  have key : ∀ s k, k < 36 → (hld (mvF F a b) k s && ldr (mvF F a b k)) = true → k ≠ a ∧ (hld F (if k = b then a else k) s && ldr (F (if k = b then a else k))) = true := by
    intro s k hk h
    rw [hld_mv hF ha hb hab h0 hk] at h
    by_cases e : k = a
    · rw [if_pos e] at h; cases h
    · rw [if_neg e, ldr_mv hF ha hb e] at h
      refine ⟨e, ?_⟩
      by_cases e2 : k = b
      · rw [if_pos e2, if_pos e2] at h; rw [if_pos e2]; exact h
      · rw [if_neg e2, if_neg e2] at h; rw [if_neg e2]; exact h
  intro s hs j k hj hk gj gk
  obtain ⟨j1, j2⟩ := key s j hj gj
  obtain ⟨k1, k2⟩ := key s k hk gk
  have := h1 s hs _ _ (by split <;> omega) (by split <;> omega) j2 k2
  by_cases e1 : j = b
  · rw [if_pos e1] at this
    by_cases e2 : k = b
    · omega
    · rw [if_neg e2] at this; omega
  · rw [if_neg e1] at this
    by_cases e2 : k = b
    · rw [if_pos e2] at this; omega
    · rw [if_neg e2] at this; exact this
theorem cnt_le2 {b c : Nat → Bool} {n : Nat} (h : ∀ k, k < n → b k = true → c k = true) : cnt b n ≤ cnt c n := by
  induction n with
  | zero => exact Nat.le_refl 0
  | succ n ih =>
    have e1 : cnt b (n + 1) = cnt b n + if b n then 1 else 0 := rfl
    have e2 : cnt c (n + 1) = cnt c n + if c n then 1 else 0 := rfl
    have h3 := ih (fun k hk => h k (by omega))
    rw [e1, e2]
    by_cases hb : b n = true
    · rw [if_pos hb, if_pos (h n (by omega) hb)]
      omega
    · rw [if_neg hb]
      omega
theorem cnt_mv {F : Nat → Nat} (hF : okF F) {a b : Nat} (ha : a < 36) (hb : b < 36) (hab : a ≠ b) (h0 : F a ≠ 0) (s : Nat) : cnt (fun k => hld (mvF F a b) k s) 36 ≤ cnt (fun k => hld F k s) 36 := by
  cases hs : hld F a s with
  | false =>
    refine cnt_le2 (fun k hk h => ?_)
    rw [hld_mv hF ha hb hab h0 hk] at h
    split at h
    · cases h
    · split at h
      · rw [hs] at h; cases h
      · exact h
  | true =>
    have e1 : cnt (fun k => hld F k s) 36 = cnt (fun k => k != a && hld F k s) 36 + 1 := cnt_upd (j := a) ha (fun k hk hka => by rw [show (k != a) = true from bne_iff_ne.mpr hka, Bool.true_and]) hs (by simp)
    have e2 : cnt (fun k => hld (mvF F a b) k s) 36 = cnt (fun k => k != b && hld (mvF F a b) k s) 36 + 1 := cnt_upd (j := b) hb (fun k hk hkb => by rw [show (k != b) = true from bne_iff_ne.mpr hkb, Bool.true_and]) (by rw [hld_mv hF ha hb hab h0 hb, if_neg (Ne.symm hab), if_pos rfl]; exact hs) (by simp)
    have e3 : cnt (fun k => k != b && hld (mvF F a b) k s) 36 ≤ cnt (fun k => k != a && hld F k s) 36 := cnt_le2 (fun k hk h => by
      rw [Bool.and_eq_true, bne_iff_ne] at h
      obtain ⟨h1, h2⟩ := h
      rw [hld_mv hF ha hb hab h0 hk] at h2
      by_cases e : k = a
      · rw [if_pos e] at h2; cases h2
      · rw [if_neg e, if_neg h1] at h2
        rw [Bool.and_eq_true, bne_iff_ne]
        exact ⟨e, h2⟩)
    omega
