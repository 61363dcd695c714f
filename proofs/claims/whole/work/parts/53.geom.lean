/-! ===== the class's lines and the model's steps are the same ===== -/
def urN (d : Nat) : Nat := match d with
  | 0 => 3 | 1 => 1 | 2 => 2 | 3 => 2 | 4 => 3 | 5 => 3 | 6 => 1 | 7 => 1
  | 8 => 4 | 9 => 4 | 10 => 3 | 11 => 3 | 12 => 1 | 13 => 1 | 14 => 0 | _ => 0
def rtN (d : Nat) : Nat := match d with
  | 0 => 2 | 1 => 2 | 2 => 3 | 3 => 1 | 4 => 3 | 5 => 1 | 6 => 3 | 7 => 1
  | 8 => 3 | 9 => 1 | 10 => 4 | 11 => 0 | 12 => 4 | 13 => 0 | 14 => 3 | _ => 1
def nxN (d r c : Nat) : Option (Nat × Nat) := if 2 ≤ r + urN d ∧ r + urN d < 8 ∧ 2 ≤ c + rtN d ∧ c + rtN d < 8 then some (r + urN d - 2, c + rtN d - 2) else none
theorem nx_N : ∀ d, d < 16 → ∀ r, r < 6 → ∀ c, c < 6 → nx d r c = nxN d r c := by decide +kernel
def pth (d : Nat) : Nat → Nat → Nat → List Nat
  | 0, _, _ => []
  | n + 1, r, c => match nxN d r c with
    | none => []
    | some (r2, c2) => (6 * r2 + c2) :: pth d n r2 c2
def vis (F : Nat → Nat) : List Nat → Nat → Bool
  | [], _ => false
  | q :: l, t => (q == t) || (F q == 0 && vis F l t)
/-- what lies ahead of t in a list -/
def pre (t : Nat) : List Nat → Option (List Nat)
  | [] => none
  | q :: l => if q == t then some [] else (pre t l).map (q :: ·)
theorem vis_pre {F : Nat → Nat} {t : Nat} : ∀ {l : List Nat}, vis F l t = true ↔ ∃ p, pre t l = some p ∧ p.all (fun q => F q == 0) = true := by
  intro l
  induction l with
  | nil => simp [vis, pre]
  | cons q l ih =>
    unfold vis pre
    by_cases h : q = t
    · simp [h]
    · have hb : (q == t) = false := by simp [h]
      rw [hb]
      simp only [Bool.false_or, Bool.and_eq_true, Bool.false_eq_true, if_false, ih, Option.map_eq_some_iff]
      constructor
      · rintro ⟨h1, p, h2, h3⟩
        exact ⟨q :: p, ⟨p, h2, rfl⟩, by rw [List.all_cons, h1, h3]; rfl⟩
      · rintro ⟨p, ⟨p2, h2, rfl⟩, h3⟩
        rw [List.all_cons, Bool.and_eq_true] at h3
        exact ⟨h3.1, p2, h2, h3.2⟩
theorem nxN_b {d r c r2 c2 : Nat} (h : nxN d r c = some (r2, c2)) : r2 < 6 ∧ c2 < 6 := by
  unfold nxN at h
  split at h
  · cases h; omega
  · cases h
theorem lmk_vis {F : Nat → Nat} {d t : Nat} (hd : d < 16) : ∀ {n r c : Nat}, r < 6 → c < 6 → (lmk F d n r c).testBit t = vis F (pth d n r c) t := by
  intro n
  induction n with
  | zero => intro r c hr hc; simp [lmk, pth, vis]
  | succ n ih =>
    intro r c hr hc
    unfold lmk pth
    rw [nx_N d hd r hr c hc]
    cases h : nxN d r c with
    | none => simp [vis]
    | some x =>
      obtain ⟨r2, c2⟩ := x
      obtain ⟨b1, b2⟩ := nxN_b h
      dsimp only
      unfold vis
      rw [Nat.testBit_or, Nat.testBit_two_pow]
      by_cases hF : F (6 * r2 + c2) = 0
      · rw [if_pos hF, ih b1 b2]
        have hb : (F (6 * r2 + c2) == 0) = true := by rw [hF]; rfl
        rw [hb, Bool.true_and]
        by_cases e : 6 * r2 + c2 = t <;> simp [e]
      · rw [if_neg hF]
        have hb : (F (6 * r2 + c2) == 0) = false := by simp [hF]
        rw [hb, Bool.false_and, Bool.or_false, Nat.zero_testBit, Bool.or_false]
        by_cases e : 6 * r2 + c2 = t <;> simp [e]
def kok (i f t : Nat) : Bool := if i = 0 then dnN f t + acN f t == 1 else if i = 1 then dnN f t == 1 && acN f t == 1 else if i = 2 then dnN f t * acN f t == 2 else if i = 3 then (dnN f t == 0 && acN f t != 0) || (dnN f t != 0 && acN f t == 0) else dnN f t == acN f t && dnN f t != 0
def bti (i f t : Nat) : List Nat := if i < 3 then [] else (List.range (bln f t - 1)).map (fun j => bst f t (j + 1))
def tbi (i f t : Nat) : Bool := ((List.range (ndN i)).filterMap (fun u => pre t (pth (fdN i + u) (faN i) (f / 6) (f % 6)))) == (if kok i f t then [bti i f t] else [])
theorem tb_i : ∀ i, i < 5 → ∀ f, f < 36 → ∀ t, t < 36 → tbi i f t = true := by decide +kernel
theorem tb_y : ∀ i, i < 5 → ∀ f, f < 36 → ∀ t, t < 36 → (kok i f t == kok i t f && (!kok i f t || bti i t f == (bti i f t).reverse)) = true := by decide +kernel
theorem tb_0 : ∀ i, i < 5 → ∀ f, f < 36 → kok i f f = false := by decide +kernel
theorem clq_all {F : Nat → Nat} {f t : Nat} : ∀ {n : Nat}, clq F f t n = ((List.range n).map (fun j => bst f t (j + 1))).all (fun q => F q == 0) := by
  intro n
  induction n with
  | zero => rfl
  | succ n ih =>
    unfold clq
    rw [ih, List.range_succ, List.map_append, List.all_append]
    simp
theorem ldb_k {F : Nat → Nat} {i f t : Nat} (hi : i < 5) : ldb F i f t = (kok i f t && (bti i f t).all (fun q => F q == 0)) := by
  unfold ldb kok bti
  rcases (show i = 0 ∨ i = 1 ∨ i = 2 ∨ i = 3 ∨ i = 4 by omega) with rfl | rfl | rfl | rfl | rfl
  · simp
  · simp
  · simp
  · rw [clr, clq_all]; rfl
  · rw [clr, clq_all]; rfl
theorem ldb_y {F : Nat → Nat} {i f t : Nat} (hi : i < 5) (hf : f < 36) (ht : t < 36) : ldb F i t f = ldb F i f t := by
  rw [ldb_k hi, ldb_k hi]
  have h := tb_y i hi f hf t ht
  rw [Bool.and_eq_true, beq_iff_eq] at h
  rw [← h.1]
  cases hk : kok i f t with
  | false => rfl
  | true =>
    rw [hk] at h
    have h2 : bti i t f = (bti i f t).reverse := by simpa using h.2
    rw [h2, List.all_reverse]
theorem lok_ldb {F : Nat → Nat} {i f t : Nat} (hi : i < 5) (hf : f < 36) (ht : t < 36) : (lok F f i).testBit t = ldb F i f t := by
  rw [Bool.eq_iff_iff, ldb_k hi]
  unfold lok
  rw [orp_tb]
  have hT := tb_i i hi f hf t ht
  unfold tbi at hT
  rw [beq_iff_eq] at hT
  have hn := nd_b i hi
  have hv : ∀ u, u < ndN i → ((lnm F f (fdN i + u) (faN i)).testBit t = true ↔ ∃ p, pre t (pth (fdN i + u) (faN i) (f / 6) (f % 6)) = some p ∧ p.all (fun q => F q == 0) = true) := fun u hu => by
    unfold lnm
    have hnn : ndN i = ldN i + 1 - fdN i := rfl
    rw [lmk_vis (by omega) (by omega) (by omega)]
    exact vis_pre
  constructor
  · rintro ⟨u, hu, h⟩
    obtain ⟨p, h1, h2⟩ := (hv u hu).mp h
    have hm : p ∈ (List.range (ndN i)).filterMap (fun u => pre t (pth (fdN i + u) (faN i) (f / 6) (f % 6))) := List.mem_filterMap.mpr ⟨u, List.mem_range.mpr hu, h1⟩
    rw [hT] at hm
    by_cases hk : kok i f t = true
    · rw [if_pos hk, List.mem_singleton] at hm
      rw [hk, ← hm, h2]
      rfl
    · rw [if_neg hk] at hm
      cases hm
  · intro h
    rw [Bool.and_eq_true] at h
    have hm : bti i f t ∈ (List.range (ndN i)).filterMap (fun u => pre t (pth (fdN i + u) (faN i) (f / 6) (f % 6))) := by
      rw [hT, if_pos h.1]
      exact List.mem_singleton.mpr rfl
    obtain ⟨u, hu, h1⟩ := List.mem_filterMap.mp hm
    exact ⟨u, List.mem_range.mp hu, (hv u (List.mem_range.mp hu)).mpr ⟨_, h1, h.2⟩⟩
theorem kn_stp : ∀ p, p < 128 → ∀ i, i < 5 → kn (stp p) i = kn p i := by decide +kernel
theorem gop_tb {F : Nat → Nat} {st f t : Nat} : ∀ {n : Nat}, gop F st f t n = true ↔ ∃ i, i < n ∧ kn st i = true ∧ f ≠ t ∧ ldb F i f t = true := by
  intro n
  induction n with
  | zero => simp [gop]
  | succ n ih =>
    unfold gop
    rw [Bool.or_eq_true, ih]
    constructor
    · rintro (⟨i, h1, h2⟩ | h)
      · exact ⟨i, by omega, h2⟩
      · simp only [Bool.and_eq_true, bne_iff_ne] at h
        exact ⟨n, by omega, h.1, h.2.1, h.2.2⟩
    · rintro ⟨i, h1, h2, h3, h4⟩
      by_cases e : i = n
      · subst e
        exact Or.inr (by simp [h2, h3, h4])
      · exact Or.inl ⟨i, by omega, h2, h3, h4⟩
theorem ldb_ne {F : Nat → Nat} {i f t : Nat} (hi : i < 5) (hf : f < 36) (h : ldb F i f t = true) : f ≠ t := by
  intro e
  subst e
  rw [ldb_k hi, tb_0 i hi f hf] at h
  cases h
theorem gfr_gop {F : Nat → Nat} (hF : okF F) {f t : Nat} (hf : f < 36) (ht : t < 36) : (gfr F f).testBit t = gop F (stp (F f)) f t 5 := by
  rw [Bool.eq_iff_iff, gop_tb]
  unfold gfr
  rw [orp_tb]
  constructor
  · rintro ⟨i, hi, h⟩
    split at h
    · next hk =>
      rw [lok_ldb hi hf ht] at h
      exact ⟨i, hi, by rw [kn_stp _ (hF f hf) i hi]; exact hk, ldb_ne hi hf h, h⟩
    · simp at h
  · rintro ⟨i, hi, h1, h2, h3⟩
    refine ⟨i, hi, ?_⟩
    rw [if_pos (by rw [← kn_stp _ (hF f hf) i hi]; exact h1), lok_ldb hi hf ht]
    exact h3
theorem gsf_gop {F : Nat → Nat} (hF : okF F) {s f t : Nat} (hf : f < 36) (ht : t < 36) : (gsf F s t).testBit f = (hld F f s && gop F (stp (F f)) f t 5) := by
  rw [Bool.eq_iff_iff, Bool.and_eq_true, gop_tb]
  unfold gsf
  rw [orp_tb]
  constructor
  · rintro ⟨i, hi, h⟩
    rw [Nat.testBit_and, Bool.and_eq_true, lok_ldb hi ht hf, ldb_y hi hf ht] at h
    unfold knw at h
    rw [bm_tb] at h
    have h2 := h.2
    simp only [Bool.and_eq_true] at h2
    exact ⟨h2.2.1, i, hi, by rw [kn_stp _ (hF f hf) i hi]; exact h2.2.2, ldb_ne hi hf h.1, h.1⟩
  · rintro ⟨h0, i, hi, h1, h2, h3⟩
    refine ⟨i, hi, ?_⟩
    rw [Nat.testBit_and, Bool.and_eq_true, lok_ldb hi ht hf, ldb_y hi hf ht]
    refine ⟨h3, ?_⟩
    unfold knw
    rw [bm_tb]
    rw [kn_stp _ (hF f hf) i hi] at h1
    simp [hf, h0, h1]
