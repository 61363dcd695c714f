/-! ===== the model's answers are the class's ===== -/
theorem cnt_ext {b c : Nat → Bool} {n : Nat} (h : ∀ k, k < n → b k = c k) : cnt b n = cnt c n := smp_ext (fun k hk => by rw [h k hk])
theorem popc_bm (b : Nat → Bool) : popc (bm b 36) = cnt b 36 := cnt_ext (fun k hk => by rw [bm_tb]; simp [hk])
theorem popc_sqs (F : Nat → Nat) (s : Nat) : popc (sqs F s) = cnt (fun k => hld F k s) 36 := popc_bm _
theorem sdo_hq {F : Nat → Nat} (hF : okF F) {a b : Nat} (ha : a < 36) (hb : b < 36) (h0 : F a ≠ 0) : (sdo (F a) != sdo (F b)) = !hld F b (sd (F a)) := by
  have h1 : sdo (F a) = some (sd (F a)) := by unfold sdo; rw [if_neg h0]
  rw [h1]
  unfold sdo hld
  by_cases h2 : F b = 0
  · simp [h2]
  · rw [if_neg h2]
    by_cases h3 : sd (F b) = sd (F a)
    · simp [h3, h2]
    · have h4 : ¬ sd (F a) = sd (F b) := fun z => h3 z.symm
      have e1 : (some (sd (F a)) != some (sd (F b))) = true := bne_iff_ne.mpr (fun z => h4 (Option.some.inj z))
      have e2 : (sd (F b) == sd (F a)) = false := by simp [h3]
      rw [e1, e2, Bool.and_false]
      rfl
theorem gfa_cmv {F : Nat → Nat} (hF : okF F) {a b s : Nat} (ha : a < 36) (hb : b < 36) (h0 : F a ≠ 0) (hs : s = sd (F a)) : (gfa F a s).testBit b = cmv F a b := by
  subst hs
  unfold gfa cmv
  rw [Nat.testBit_and, gfr_gop hF ha hb, sdo_hq hF ha hb h0, Nat.testBit_xor, Nat.testBit_two_pow_sub_one]
  unfold sqs
  rw [bm_tb]
  simp only [hb, decide_true, Bool.true_and]
  rw [Bool.and_comm]
  congr 1
  cases hld F b (sd (F a)) <;> rfl
theorem bm_gfa {F : Nat → Nat} (hF : okF F) {a : Nat} (ha : a < 36) (h0 : F a ≠ 0) : bm (cmv F a) 36 = gfa F a (sd (F a)) := by
  apply Nat.eq_of_testBit_eq
  intro i
  rw [bm_tb]
  by_cases hi : i < 36
  · rw [gfa_cmv hF ha hi h0 rfl]
    simp [hi]
  · have h1 : (gfa F a (sd (F a))).testBit i = false := Nat.testBit_lt_two_pow (Nat.lt_of_lt_of_le (gfa_lt F a _) (Nat.pow_le_pow_right (by decide) (by omega)))
    rw [h1]
    simp [hi]
theorem hld_sd {F : Nat → Nat} {k s : Nat} (h : hld F k s = true) : F k ≠ 0 ∧ sd (F k) = s := by
  unfold hld at h
  rw [Bool.and_eq_true, bne_iff_ne, beq_iff_eq] at h
  exact h
theorem mvs_mvo {F : Nat → Nat} (hF : okF F) (s : Nat) : mvo F s 36 = mvs F s 36 := by
  unfold mvo mvs
  refine smp_ext (fun a ha => ?_)
  cases h : hld F a s with
  | false =>
    have : cnt (fun b => false && cmv F a b) 36 = 0 := by
      have h9 : cnt (fun b => false && cmv F a b) 36 = cnt (fun _ => false) 36 := cnt_ext (fun k hk => rfl)
      rw [h9]
      rfl
    simpa using this
  | true =>
    obtain ⟨h0, h1⟩ := hld_sd h
    rw [if_pos rfl]
    unfold popc
    exact cnt_ext (fun b hb => by rw [Bool.true_and]; exact (gfa_cmv hF ha hb h0 h1.symm).symm)
theorem cga_cnt {F : Nat → Nat} (hF : okF F) (s : Nat) {t : Nat} (ht : t < 36) : cga F s t 36 = cnt (fun k => hld F k s && gop F (stp (F k)) k t 5) 36 := by
  unfold cga
  exact cnt_ext (fun k hk => by rw [gfr_gop hF hk ht])
theorem gsf_cnt {F : Nat → Nat} (hF : okF F) (s : Nat) {t : Nat} (ht : t < 36) : popc (gsf F s t) = cnt (fun k => hld F k s && gop F (stp (F k)) k t 5) 36 := by
  unfold popc
  exact cnt_ext (fun k hk => gsf_gop hF hk ht)
theorem cnt_pos {b : Nat → Bool} {n : Nat} : 0 < cnt b n ↔ ∃ k, k < n ∧ b k = true := by
  induction n with
  | zero => simp [cnt, smp]
  | succ n ih =>
    have e : cnt b (n + 1) = cnt b n + if b n then 1 else 0 := rfl
    rw [e]
    constructor
    · intro h
      by_cases hb : b n = true
      · exact ⟨n, by omega, hb⟩
      · rw [if_neg hb] at h
        obtain ⟨k, h1, h2⟩ := ih.mp (by omega)
        exact ⟨k, by omega, h2⟩
    · rintro ⟨k, h1, h2⟩
      by_cases hk : k = n
      · subst hk
        rw [if_pos h2]
        omega
      · have := ih.mpr ⟨k, by omega, h2⟩
        omega
theorem gby_bm {F : Nat → Nat} (hF : okF F) (s : Nat) : bm (fun t => decide (0 < cnt (fun k => hld F k s && gop F (stp (F k)) k t 5) 36)) 36 = gby F s 36 := by
  apply Nat.eq_of_testBit_eq
  intro t
  rw [bm_tb]
  by_cases ht : t < 36
  · rw [Bool.eq_iff_iff]
    unfold gby
    rw [orp_tb]
    simp only [ht, decide_true, Bool.true_and, decide_eq_true_eq]
    rw [cnt_pos]
    constructor
    · rintro ⟨k, hk, h⟩
      rw [Bool.and_eq_true] at h
      refine ⟨k, hk, ?_⟩
      rw [if_pos h.1, gfr_gop hF hk ht]
      exact h.2
    · rintro ⟨k, hk, h⟩
      refine ⟨k, hk, ?_⟩
      split at h
      · next h1 =>
        rw [gfr_gop hF hk ht] at h
        rw [h1, h]
        rfl
      · simp at h
  · have h1 : (gby F s 36).testBit t = false := Nat.testBit_lt_two_pow (Nat.lt_of_lt_of_le (gby_lt F s 36) (Nat.pow_le_pow_right (by decide) (by omega)))
    rw [h1]
    simp [ht]
theorem knw_cnt {F : Nat → Nat} (hF : okF F) (s : Nat) {i : Nat} (hi : i < 5) : popc (knw F s i) = cnt (fun k => hld F k s && kn (stp (F k)) i) 36 := by
  unfold knw
  rw [popc_bm]
  exact cnt_ext (fun k hk => by rw [kn_stp _ (hF k hk) i hi])
/-- a side has one leader at most -/
def one_ (F : Nat → Nat) : Prop := ∀ s, s < 2 → ∀ j k, j < 36 → k < 36 → (hld F j s && ldr (F j)) = true → (hld F k s && ldr (F k)) = true → j = k
theorem ffr_none {b : Nat → Bool} : ∀ {n i : Nat}, ffr b n i = none ↔ ∀ k, i ≤ k → k < i + n → b k = false := by
  intro n
  induction n with
  | zero => intro i; simp [ffr]; intro k h1 h2; omega
  | succ n ih =>
    intro i
    unfold ffr
    by_cases h : b i = true
    · rw [if_pos h]
      constructor
      · intro z; cases z
      · intro z
        have := z i (Nat.le_refl i) (by omega)
        rw [h] at this
        cases this
    · rw [if_neg h, ih]
      constructor
      · intro z k h1 h2
        by_cases e : k = i
        · subst e; simpa using h
        · exact z k (by omega) (by omega)
      · intro z k h1 h2
        exact z k (by omega) (by omega)
theorem lls_none {b : Nat → Bool} : ∀ {n : Nat}, lls b n = none ↔ ∀ k, k < n → b k = false := by
  intro n
  induction n with
  | zero => simp [lls]
  | succ n ih =>
    unfold lls
    by_cases h : b n = true
    · rw [if_pos h]
      constructor
      · intro z; cases z
      · intro z
        have := z n (by omega)
        rw [h] at this
        cases this
    · rw [if_neg h, ih]
      constructor
      · intro z k h1
        by_cases e : k = n
        · subst e; simpa using h
        · exact z k (by omega)
      · intro z k h1
        exact z k (by omega)
theorem lsq_lls {F : Nat → Nat} (h1 : one_ F) {s : Nat} (hs : s < 2) : lls (fun k => hld F k s && ldr (F k)) 36 = lsq F s := by
  unfold lsq
  cases ha : lls (fun k => hld F k s && ldr (F k)) 36 with
  | none =>
    rw [lls_none] at ha
    symm
    rw [ffr_none]
    intro k _ hk
    exact ha k (by omega)
  | some j =>
    have hj := lls_lt ha
    cases hb : ffr (fun k => hld F k s && ldr (F k)) 36 0 with
    | none =>
      rw [ffr_none] at hb
      have := hb j (Nat.zero_le j) (by omega)
      rw [hj.2] at this
      cases this
    | some k =>
      have hk := ffr_lt hb
      rw [h1 s hs j k hj.1 (by omega) hj.2 hk.2.2]
theorem rsn_whm {F : Nat → Nat} (hF : okF F) (L : List zPos) (ov : Bool) {t a b : Nat} (ha : a < 36) (hb : b < 36) : rsn L ov F t a b = whm (!L.isEmpty) ov F t a b := by
  unfold rsn whm
  cases L with
  | nil => rfl
  | cons p L =>
    simp only [List.isEmpty_cons, Bool.not_false, Bool.false_eq_true, if_false, if_true]
    by_cases h1 : ov = true
    · simp [h1]
    · rw [if_neg h1, if_neg h1]
      by_cases h2 : hld F a t = true
      · rw [if_pos h2, if_pos h2]
        by_cases h3 : hld F b t = true
        · rw [if_pos h3, if_pos h3]
        · rw [if_neg h3, if_neg h3, gfa_cmv hF ha hb (hld_sd h2).1 rfl]
      · rw [if_neg h2, if_neg h2]
/-! exchanges -/
theorem chs_chb {F : Nat → Nat} {m : Nat} : ∀ {n : Nat}, chs F m n = chb F m.testBit n := by
  intro n
  induction n with
  | zero => rfl
  | succ n ih =>
    unfold chs chb
    rw [ih]
    cases chb F m.testBit n <;> rfl
theorem chb_ext {F : Nat → Nat} {b c : Nat → Bool} : ∀ {n : Nat}, (∀ k, k < n → b k = c k) → chb F b n = chb F c n := by
  intro n
  induction n with
  | zero => intro h; rfl
  | succ n ih =>
    intro h
    unfold chb
    rw [h n (by omega), ih (fun k hk => h k (by omega))]
theorem chs_cam {F : Nat → Nat} (hF : okF F) (s : Nat) {t : Nat} (ht : t < 36) : chs F (gsf F s t) 36 = cam F s t := by
  rw [chs_chb]
  exact chb_ext (fun k hk => gsf_gop hF hk ht)
theorem exN_exM {q : Nat} (hq : q < 36) : ∀ {d : Nat} {F : Nat → Nat}, okF F → exN d F q = exM d F q := by
  intro d
  induction d with
  | zero => intro F hF; rfl
  | succ d ih =>
    intro F hF
    unfold exN exM
    rw [chs_cam hF _ hq]
    cases h : cam F (1 - sd (F q)) q with
    | none => rfl
    | some k =>
      have hk := (chb_lt h).1
      dsimp only
      rw [ih (okF_mv hF hk)]
/-- how many pieces there are -/
def pcs_ (F : Nat → Nat) : Nat := cnt (fun k => F k != 0) 36
theorem cnt_upd {b c : Nat → Bool} {j : Nat} : ∀ {n : Nat}, j < n → (∀ k, k < n → k ≠ j → b k = c k) → b j = true → c j = false → cnt b n = cnt c n + 1 := by
  intro n
  induction n with
  | zero => intro h; omega
  | succ n ih =>
    intro h h1 h2 h3
    have e1 : cnt b (n + 1) = cnt b n + if b n then 1 else 0 := rfl
    have e2 : cnt c (n + 1) = cnt c n + if c n then 1 else 0 := rfl
    rw [e1, e2]
    by_cases e : j = n
    · subst e
      rw [h2, h3, cnt_ext (fun k hk => h1 k (by omega) (by omega))]
      simp
    · rw [h1 n (by omega) (Ne.symm e), ih (by omega) (fun k hk hkj => h1 k (by omega) hkj) h2 h3]
      omega
theorem crr_lra (F : Nat → Nat) (a b : Nat) : crr F a b = lra (F a) (F b) := rfl
theorem pcs_mv {F : Nat → Nat} {a b : Nat} (ha : a < 36) (hab : a ≠ b) (h0 : F a ≠ 0) (hb0 : F b ≠ 0) : pcs_ F = pcs_ (mvF F a b) + 1 := by
  unfold pcs_
  refine cnt_upd ha (fun k hk hka => ?_) (by simp [h0]) (by simp [mvF])
  show (F k != 0) = (mvF F a b k != 0)
  unfold mvF
  rw [if_neg hka]
  by_cases hkb : k = b
  · rw [if_pos hkb, hkb, crr_lra]
    have e1 : (F b != 0) = true := bne_iff_ne.mpr hb0
    have e2 : (lra (F a) (F b) != 0) = true := bne_iff_ne.mpr (lra_ne h0)
    rw [e1, e2]
  · rw [if_neg hkb]
theorem cab_ne {F : Nat → Nat} {s t k : Nat} (h : cab F s t k = true) : F k ≠ 0 ∧ sd (F k) = s ∧ k ≠ t := by
  unfold cab at h
  rw [Bool.and_eq_true] at h
  obtain ⟨h1, h2⟩ := h
  rw [gop_tb] at h2
  obtain ⟨i, -, -, h3, -⟩ := h2
  exact ⟨(hld_sd h1).1, (hld_sd h1).2, h3⟩
theorem exT_of {q : Nat} (hq : q < 36) : ∀ {d : Nat} {F : Nat → Nat}, F q ≠ 0 → pcs_ F ≤ d → exT d F q := by
  intro d
  induction d with
  | zero =>
    intro F h0 hp
    have : 0 < pcs_ F := cnt_pos.mpr ⟨q, hq, by simp [h0]⟩
    omega
  | succ d ih =>
    intro F h0 hp
    unfold exT
    cases h : cam F (1 - sd (F q)) q with
    | none => trivial
    | some k =>
      obtain ⟨hk, hc⟩ := chb_lt h
      obtain ⟨h1, h2, h3⟩ := cab_ne hc
      have h4 := pcs_mv hk h3 h1 h0
      refine ih ?_ (by omega)
      unfold mvF
      rw [if_neg (Ne.symm h3), if_pos rfl, crr_lra]
      exact lra_ne h1
theorem wkp_wkq {F : Nat → Nat} (hF : okF F) {s : Nat} : ∀ {n : Nat}, n ≤ 36 → wkp F s n = wkq F s n := by
  intro n
  induction n with
  | zero => intro h; rfl
  | succ n ih =>
    intro h
    unfold wkp wkq
    rw [ih (by omega), exN_exM (by omega) hF]
theorem lis_flt {T : Nat → Nat} {n : Nat} : lis T n = (flt T n == none) := by
  unfold lis flt fmf
  cases h : ffr (fun k => !fit T k) n 0 with
  | none =>
    show (n % 5 == 4 && n == n) = ((if n % 5 = 4 then none else some n) == none)
    by_cases h5 : n % 5 = 4
    · simp [h5]
    · simp [h5]
  | some k =>
    have hk := ffr_lt h
    show (n % 5 == 4 && k == n) = (some k == none)
    have : (k == n) = false := by simp; omega
    rw [this, Bool.and_false]
    rfl
theorem fmf_flt {T : Nat → Nat} {n : Nat} (h : lis T n = false) : flt T n = some (fmf T n) := by
  unfold lis at h
  unfold flt fmf at *
  cases hf : ffr (fun k => !fit T k) n 0 with
  | none =>
    rw [hf] at h
    have h5 : ¬ n % 5 = 4 := by
      intro z
      rw [z] at h
      simp at h
    show (if n % 5 = 4 then none else some n) = some n
    rw [if_neg h5]
  | some k => rfl
theorem acc_cpt {F : Nat → Nat} (hF : okF F) (L : List zPos) {s b : Nat} : acc_ L F s b false = cpt (!L.isEmpty) F s b := by
  unfold acc_ cpt
  rw [popc_sqs]
  simp
theorem acc_cpl {F : Nat → Nat} (hF : okF F) (h1 : one_ F) (L : List zPos) {s b : Nat} (hs : s < 2) : acc_ L F s b true = (cpt (!L.isEmpty) F s b && (lls (fun k => hld F k s && ldr (F k)) 36 == none)) := by
  unfold acc_ cpt
  rw [popc_sqs, lsq_lls h1 hs]
  cases lsq F s <;> simp [Bool.and_assoc]
