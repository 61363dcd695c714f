/-! ===== how often a board came up: the class's chain of positions, the model's moves taken back ===== -/
def eqv (F G : Nat → Nat) : Prop := ∀ k, k < 36 → F k = G k
theorem eqv_r (F : Nat → Nat) : eqv F F := fun _ _ => rfl
theorem eqv_s {F G : Nat → Nat} (h : eqv F G) : eqv G F := fun k hk => (h k hk).symm
theorem eqv_t {F G K : Nat → Nat} (h : eqv F G) (h2 : eqv G K) : eqv F K := fun k hk => (h k hk).trans (h2 k hk)
theorem eqp_eqv {F G : Nat → Nat} : ∀ {n : Nat}, eqp F G n = true ↔ ∀ k, k < n → F k = G k := by
  intro n
  induction n with
  | zero => simp [eqp]
  | succ n ih =>
    unfold eqp
    rw [Bool.and_eq_true, ih, beq_iff_eq]
    constructor
    · rintro ⟨h1, h2⟩ k hk
      by_cases e : k = n
      · rw [e]; exact h2
      · exact h1 k (by omega)
    · intro h
      exact ⟨fun k hk => h k (by omega), h n (by omega)⟩
theorem or_inj {x y p q : Nat} (hp : p < 128) (hq : q < 128) (h : x * 128 ||| p = y * 128 ||| q) : x = y ∧ p = q := by
  have e : ∀ a b : Nat, b < 128 → a * 128 ||| b = a * 128 + b := fun a b hb => by
    rw [show a * 128 = a * 2 ^ 7 from rfl, Nat.mul_comm a (2 ^ 7), ← Nat.two_pow_add_eq_or_of_lt hb]
  rw [e x p hp, e y q hq] at h
  omega
theorem qtr_inj {F G : Nat → Nat} (hF : okF F) (hG : okF G) {q : Nat} : ∀ {n : Nat}, q * 36 / 4 + n ≤ 36 → qtr F q n = qtr G q n → ∀ k, k < n → F (q * 36 / 4 + k) = G (q * 36 / 4 + k) := by
  intro n
  induction n with
  | zero => intro _ _ k hk; omega
  | succ n ih =>
    intro hn h k hk
    unfold qtr at h
    obtain ⟨h1, h2⟩ := or_inj (hF _ (by omega)) (hG _ (by omega)) h
    by_cases e : k = n
    · rw [e]; exact h2
    · exact ih (by omega) h1 k (by omega)
theorem qtr_ext {F G : Nat → Nat} (h : eqv F G) {q : Nat} : ∀ {n : Nat}, q * 36 / 4 + n ≤ 36 → qtr F q n = qtr G q n := by
  intro n
  induction n with
  | zero => intro _; rfl
  | succ n ih =>
    intro hn
    unfold qtr
    rw [ih (by omega), h _ (by omega)]
theorem pq4_inj {F G : Nat → Nat} (hF : okF F) (hG : okF G) (h : ∀ i, i < 4 → pq4 F i = pq4 G i) : eqv F G := by
  intro k hk
  have h0 := qtr_inj hF hG (q := 0) (n := 9) (by decide) (h 0 (by decide))
  have h1 := qtr_inj hF hG (q := 1) (n := 9) (by decide) (h 1 (by decide))
  have h2 := qtr_inj hF hG (q := 2) (n := 9) (by decide) (h 2 (by decide))
  have h3 := qtr_inj hF hG (q := 3) (n := 9) (by decide) (h 3 (by decide))
  rcases (show k < 9 ∨ (9 ≤ k ∧ k < 18) ∨ (18 ≤ k ∧ k < 27) ∨ 27 ≤ k by omega) with g | g | g | g
  · have := h0 k g
    simpa using this
  · have := h1 (k - 9) (by omega)
    rw [show 1 * 36 / 4 + (k - 9) = k by omega] at this
    exact this
  · have := h2 (k - 18) (by omega)
    rw [show 2 * 36 / 4 + (k - 18) = k by omega] at this
    exact this
  · have := h3 (k - 27) (by omega)
    rw [show 3 * 36 / 4 + (k - 27) = k by omega] at this
    exact this
/-- the chain of positions of the boards Bd 0 to Bd n -/
def trL (Bd : Nat → Nat → Nat) : Nat → List zPos
  | 0 => [(0, pq4 (Bd 0), 1)]
  | n + 1 => ((n + 1) % 2, pq4 (Bd (n + 1)), n1t ((n + 1) % 2) (Bd (n + 1)) (trL Bd n)) :: trL Bd n
theorem trL_ext {B C : Nat → Nat → Nat} : ∀ {n : Nat}, (∀ i, i ≤ n → B i = C i) → trL B n = trL C n := by
  intro n
  induction n with
  | zero => intro h; unfold trL; rw [h 0 (Nat.le_refl 0)]
  | succ n ih =>
    intro h
    unfold trL
    rw [h (n + 1) (Nat.le_refl _), ih (fun i hi => h i (by omega))]
theorem trL_ne {B : Nat → Nat → Nat} {n : Nat} : (trL B n).isEmpty = false := by
  cases n <;> rfl
/-- of the boards Bd 0 to Bd n with the side t to move, those that are F -/
def c9 (Bd : Nat → Nat → Nat) (t : Nat) (F : Nat → Nat) : Nat → Nat := cnt (fun i => i % 2 == t && eqp (Bd i) F 36)
theorem tbf_c9 {Bd : Nat → Nat → Nat} (hB : ∀ i, okF (Bd i)) {t : Nat} : ∀ {n : Nat} {F : Nat → Nat}, okF F → tbf t (pq4 F) (trL Bd n) = c9 Bd t F (n + 1) := by
  intro n
  induction n with
  | zero =>
    intro F hF
    have e : c9 Bd t F 1 = c9 Bd t F 0 + if (0 % 2 == t && eqp (Bd 0) F 36) = true then 1 else 0 := rfl
    rw [e]
    unfold trL tbf
    show (if lkl t (pq4 F) (0, pq4 (Bd 0), 1) then 1 else tbf t (pq4 F) []) = _
    by_cases h : (0 % 2 == t && eqp (Bd 0) F 36) = true
    · rw [if_pos h]
      have h2 : lkl t (pq4 F) (0, pq4 (Bd 0), 1) = true := by
        rw [Bool.and_eq_true, beq_iff_eq, eqp_eqv] at h
        have hq : ∀ i, i < 4 → pq4 F i = pq4 (Bd 0) i := fun i hi => qtr_ext (eqv_s h.2) (by omega)
        have ht : t = 0 := by omega
        unfold lkl
        dsimp only
        rw [ht, hq 0 (by decide), hq 1 (by decide), hq 2 (by decide), hq 3 (by decide)]
        simp
      rw [if_pos h2]
      rfl
    · rw [if_neg h]
      have h2 : ¬ lkl t (pq4 F) (0, pq4 (Bd 0), 1) = true := by
        intro z
        unfold lkl at z
        dsimp only at z
        simp only [Bool.and_eq_true, beq_iff_eq] at z
        refine h ?_
        rw [Bool.and_eq_true, beq_iff_eq, eqp_eqv]
        refine ⟨by omega, ?_⟩
        refine eqv_s (pq4_inj hF (hB 0) (fun i hi => ?_))
        rcases (show i = 0 ∨ i = 1 ∨ i = 2 ∨ i = 3 by omega) with rfl | rfl | rfl | rfl
        · exact z.1.1.1.2
        · exact z.1.1.2
        · exact z.1.2
        · exact z.2
      rw [if_neg h2]
      rfl
  | succ n ih =>
    intro F hF
    have e : c9 Bd t F (n + 1 + 1) = c9 Bd t F (n + 1) + if ((n + 1) % 2 == t && eqp (Bd (n + 1)) F 36) = true then 1 else 0 := rfl
    rw [e]
    unfold trL tbf
    by_cases h : ((n + 1) % 2 == t && eqp (Bd (n + 1)) F 36) = true
    · rw [if_pos h]
      rw [Bool.and_eq_true, beq_iff_eq, eqp_eqv] at h
      have h2 : lkl t (pq4 F) ((n + 1) % 2, pq4 (Bd (n + 1)), n1t ((n + 1) % 2) (Bd (n + 1)) (trL Bd n)) = true := by
        have hq : ∀ i, i < 4 → pq4 F i = pq4 (Bd (n + 1)) i := fun i hi => qtr_ext (eqv_s h.2) (by omega)
        unfold lkl
        dsimp only
        rw [h.1, hq 0 (by decide), hq 1 (by decide), hq 2 (by decide), hq 3 (by decide)]
        simp
      rw [if_pos h2]
      show n1t ((n + 1) % 2) (Bd (n + 1)) (trL Bd n) = _
      unfold n1t
      rw [h.1, ih (hB (n + 1))]
      have e2 : c9 Bd t (Bd (n + 1)) (n + 1) = c9 Bd t F (n + 1) := cnt_ext (fun i hi => by
        congr 1
        rw [Bool.eq_iff_iff, eqp_eqv, eqp_eqv]
        exact ⟨fun z => eqv_t z h.2, fun z => eqv_t z (eqv_s h.2)⟩)
      rw [e2]
      omega
    · rw [if_neg h]
      have h2 : ¬ lkl t (pq4 F) ((n + 1) % 2, pq4 (Bd (n + 1)), n1t ((n + 1) % 2) (Bd (n + 1)) (trL Bd n)) = true := by
        intro z
        unfold lkl at z
        dsimp only at z
        simp only [Bool.and_eq_true, beq_iff_eq] at z
        refine h ?_
        rw [Bool.and_eq_true, beq_iff_eq, eqp_eqv]
        refine ⟨by omega, ?_⟩
        refine eqv_s (pq4_inj hF (hB (n + 1)) (fun i hi => ?_))
        rcases (show i = 0 ∨ i = 1 ∨ i = 2 ∨ i = 3 by omega) with rfl | rfl | rfl | rfl
        · exact z.1.1.1.2
        · exact z.1.1.2
        · exact z.1.2
        · exact z.2
      rw [if_neg h2, ih hF]
      rfl
theorem tbf_le {Bd : Nat → Nat → Nat} {t : Nat} : ∀ {n : Nat} {a : Nat → Nat}, tbf t a (trL Bd n) ≤ n + 1 := by
  intro n
  induction n generalizing t with
  | zero =>
    intro a
    unfold trL tbf
    split
    · exact Nat.le_refl 1
    · exact Nat.zero_le _
  | succ n ih =>
    intro a
    unfold trL tbf
    split
    · show n1t _ _ _ ≤ _
      unfold n1t
      have := ih (t := (n + 1) % 2) (a := pq4 (Bd (n + 1)))
      omega
    · have := ih (t := t) (a := a)
      omega
/-- the moves mv led from board to board; the last capture is ahead of the bs-th board -/
def TRm (Bd : Nat → Nat → Nat) (mv : Nat → Nat) (md bs : Nat) : Prop := (∀ i, okF (Bd i)) ∧ (∀ m, m < md → mv m < 1296 ∧ mv m / 36 ≠ mv m % 36 ∧ Bd m (mv m / 36) ≠ 0 ∧ Bd (m + 1) = mvF (Bd m) (mv m / 36) (mv m % 36)) ∧ bs ≤ md ∧ (∀ m, bs ≤ m → m < md → Bd m (mv m % 36) = 0) ∧ (bs = 0 ∨ Bd (bs - 1) (mv (bs - 1) % 36) ≠ 0)
theorem lra_00 : ∀ a, a < 128 → lra a 0 = a := lra_0
theorem unm_mvF {B G : Nat → Nat} (hB : okF B) {a b : Nat} (ha : a < 36) (hb : b < 36) (hab : a ≠ b) (h0 : B b = 0) (hG : eqv G (mvF B a b)) : eqv (unm G a b) B := by
  intro k hk
  unfold unm
  by_cases h1 : k = b
  · rw [if_pos h1, h1, h0]
  · rw [if_neg h1]
    by_cases h2 : k = a
    · rw [if_pos h2, hG b hb, h2]
      unfold mvF
      rw [if_neg (Ne.symm hab), if_pos rfl, crr_lra, h0, lra_0 _ (hB a ha)]
    · rw [if_neg h2, hG k hk]
      unfold mvF
      rw [if_neg h2, if_neg h1]
theorem tmc_c9 {Bd : Nat → Nat → Nat} {mv : Nat → Nat} {md bs : Nat} (h : TRm Bd mv md bs) {F : Nat → Nat} : ∀ {j x : Nat} {G : Nat → Nat}, x = bs + j → x ≤ md → eqv G (Bd x) → tmc F mv md j x G = cnt (fun i => (md - (bs + i)) % 2 == 0 && eqp (Bd (bs + i)) F 36) j := by
  intro j
  induction j with
  | zero => intro x G hx hm hG; rfl
  | succ j ih =>
    intro x G hx hm hG
    have e : cnt (fun i => (md - (bs + i)) % 2 == 0 && eqp (Bd (bs + i)) F 36) (j + 1) = cnt (fun i => (md - (bs + i)) % 2 == 0 && eqp (Bd (bs + i)) F 36) j + if ((md - (bs + j)) % 2 == 0 && eqp (Bd (bs + j)) F 36) = true then 1 else 0 := rfl
    rw [e]
    unfold tmc
    obtain ⟨h1, h2, h3, h4, h5⟩ := h
    have hx1 : x - 1 = bs + j := by omega
    obtain ⟨g1, g2, g3, g4⟩ := h2 (x - 1) (by omega)
    have hG2 : eqv G (mvF (Bd (x - 1)) (mv (x - 1) / 36) (mv (x - 1) % 36)) := by
      rw [← g4, show x - 1 + 1 = x by omega]
      exact hG
    have hu := unm_mvF (h1 (x - 1)) (by omega) (by omega) g2 (h4 (x - 1) (by omega) (by omega)) hG2
    rw [ih (x := x - 1) hx1 (by omega) hu]
    have he : eqp (unm G (mv (x - 1) / 36) (mv (x - 1) % 36)) F 36 = eqp (Bd (bs + j)) F 36 := by
      rw [Bool.eq_iff_iff, eqp_eqv, eqp_eqv]
      rw [hx1] at hu
      rw [hx1]
      exact ⟨fun z => eqv_t (eqv_s hu) z, fun z => eqv_t hu z⟩
    rw [he, hx1]
    omega
theorem pcs_le {F : Nat → Nat} {a b : Nat} (ha : a < 36) (hb : b < 36) (hab : a ≠ b) (h0 : F a ≠ 0) : pcs_ (mvF F a b) ≤ pcs_ F ∧ (F b ≠ 0 → pcs_ (mvF F a b) < pcs_ F) := by
  by_cases hb0 : F b = 0
  · refine ⟨?_, fun z => absurd hb0 z⟩
    have e1 : pcs_ (mvF F a b) = cnt (fun k => k != a && mvF F a b k != 0) 36 := cnt_ext (fun k hk => by
      by_cases e : k = a
      · subst e; simp [mvF]
      · simp [e])
    have e2 : cnt (fun k => mvF F a b k != 0) 36 = cnt (fun k => k != b && F k != 0 && k != a) 36 + 1 := by
      refine cnt_upd (j := b) hb (fun k hk hkb => ?_) ?_ ?_
      · show (mvF F a b k != 0) = (k != b && F k != 0 && k != a)
        unfold mvF
        by_cases e : k = a
        · rw [if_pos e, e]; simp
        · rw [if_neg e, if_neg hkb, show (k != b) = true from bne_iff_ne.mpr hkb, show (k != a) = true from bne_iff_ne.mpr e, Bool.true_and, Bool.and_true]
      · show (mvF F a b b != 0) = true
        unfold mvF
        rw [if_neg (Ne.symm hab), if_pos rfl, crr_lra]
        exact bne_iff_ne.mpr (lra_ne h0)
      · simp
    have e3 : cnt (fun k => F k != 0) 36 = cnt (fun k => k != b && F k != 0 && k != a) 36 + 1 := by
      refine cnt_upd (j := a) ha (fun k hk hka => ?_) (by simp [h0]) (by simp)
      show (F k != 0) = (k != b && F k != 0 && k != a)
      by_cases e : k = b
      · rw [e, hb0]; simp
      · rw [show (k != b) = true from bne_iff_ne.mpr e, show (k != a) = true from bne_iff_ne.mpr hka, Bool.true_and, Bool.and_true]
    show cnt (fun k => mvF F a b k != 0) 36 ≤ cnt (fun k => F k != 0) 36
    omega
  · have := pcs_mv (F := F) ha hab h0 hb0
    exact ⟨by omega, fun _ => by omega⟩
theorem pcs_eqv {F G : Nat → Nat} (h : eqv F G) : pcs_ F = pcs_ G := cnt_ext (fun k hk => by rw [h k hk])
theorem tr_pcs {Bd : Nat → Nat → Nat} {mv : Nat → Nat} {md bs : Nat} (h : TRm Bd mv md bs) {i : Nat} : ∀ {d : Nat}, i + d ≤ md → pcs_ (Bd (i + d)) ≤ pcs_ (Bd i) := by
  intro d
  induction d with
  | zero => intro _; exact Nat.le_refl _
  | succ d ih =>
    intro hd
    obtain ⟨h1, h2, h3⟩ := h
    obtain ⟨g1, g2, g3, g4⟩ := h2 (i + d) (by omega)
    have := ih (by omega)
    rw [show i + (d + 1) = i + d + 1 by omega, g4]
    have := (pcs_le (F := Bd (i + d)) (by omega) (by omega) g2 g3).1
    omega
theorem tr_lt {Bd : Nat → Nat → Nat} {mv : Nat → Nat} {md bs : Nat} (h : TRm Bd mv md bs) {i : Nat} (hi : i < bs) : ¬ eqv (Bd i) (Bd md) := by
  intro he
  have h0 := h
  obtain ⟨h1, h2, h3, h4, h5⟩ := h
  have e := pcs_eqv he
  obtain ⟨g1, g2, g3, g4⟩ := h2 (bs - 1) (by omega)
  have a1 := tr_pcs h0 (i := i) (d := bs - 1 - i) (by omega)
  rw [show i + (bs - 1 - i) = bs - 1 by omega] at a1
  have a2 := (pcs_le (F := Bd (bs - 1)) (by omega) (by omega) g2 g3).2 (by rcases h5 with h5 | h5; omega; exact h5)
  rw [← g4, show bs - 1 + 1 = bs by omega] at a2
  have a3 := tr_pcs h0 (i := bs) (d := md - bs) (by omega)
  rw [show bs + (md - bs) = md by omega] at a3
  omega
theorem cnt_shift {b : Nat → Bool} {m : Nat} : ∀ {n : Nat}, (∀ i, i < m → b i = false) → cnt b (m + n) = cnt (fun i => b (m + i)) n := by
  intro n
  induction n with
  | zero =>
    intro h
    have e : cnt b m = cnt (fun _ => false) m := cnt_ext h
    have e2 : ∀ k : Nat, cnt (fun _ => false) k = 0 := by
      intro k
      induction k with
      | zero => rfl
      | succ k ih =>
        have : cnt (fun _ => false) (k + 1) = cnt (fun _ => false) k + 0 := rfl
        rw [this, ih]
    rw [Nat.add_zero, e, e2]
    rfl
  | succ n ih =>
    intro h
    have e1 : cnt b (m + n + 1) = cnt b (m + n) + if b (m + n) then 1 else 0 := rfl
    have e2 : cnt (fun i => b (m + i)) (n + 1) = cnt (fun i => b (m + i)) n + if b (m + n) then 1 else 0 := rfl
    rw [← Nat.add_assoc, e1, e2, ih h]
/-- the model counts what the class's chain holds -/
theorem tmM_n1t {Bd : Nat → Nat → Nat} {mv : Nat → Nat} {md bs : Nat} (h : TRm Bd mv (md + 1) bs) : tmM (Bd (md + 1)) mv (md + 1) bs = n1t ((md + 1) % 2) (Bd (md + 1)) (trL Bd md) := by
  have h0 := h
  obtain ⟨h1, h2, h3, h4, h5⟩ := h
  unfold tmM n1t
  rw [tbf_c9 h1 (h1 (md + 1)), tmc_c9 h0 (x := md + 1) (by omega) (Nat.le_refl _) (eqv_r _)]
  congr 1
  have e : c9 Bd ((md + 1) % 2) (Bd (md + 1)) (md + 1) = cnt (fun i => (fun j => j % 2 == (md + 1) % 2 && eqp (Bd j) (Bd (md + 1)) 36) (bs + i)) (md + 1 - bs) := by
    have e9 := cnt_shift (b := fun j => j % 2 == (md + 1) % 2 && eqp (Bd j) (Bd (md + 1)) 36) (m := bs) (n := md + 1 - bs) (fun i hi => by
      have h9 : eqp (Bd i) (Bd (md + 1)) 36 = false := by
        rw [← Bool.not_eq_true, eqp_eqv]
        exact tr_lt h0 hi
      rw [h9, Bool.and_false])
    rw [show bs + (md + 1 - bs) = md + 1 by omega] at e9
    exact e9
  rw [e]
  refine cnt_ext (fun i hi => ?_)
  dsimp only
  congr 1
  rw [Bool.eq_iff_iff, beq_iff_eq, beq_iff_eq]
  omega
