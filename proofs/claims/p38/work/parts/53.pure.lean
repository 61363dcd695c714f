/-! ===== what whole proved of boards, exchanges and positions, without a model ===== -/
def lra (a v : Nat) : Nat := a ||| lrn a v
theorem lra_0 : ∀ a, a < 128 → lra a 0 = a := by decide +kernel
def dnZ (f t : Nat) : Int := (t / 6 : Nat) - (f / 6 : Nat)
def acZ (f t : Nat) : Int := (t % 6 : Nat) - (f % 6 : Nat)
def dnN (f t : Nat) : Nat := (dnZ f t).natAbs
def acN (f t : Nat) : Nat := (acZ f t).natAbs
def stZ (f t : Nat) : Int := 6 * (dnZ f t).sign + (acZ f t).sign
/-- the square j paces from f towards t -/
def bst (f t j : Nat) : Nat := ((f : Int) + (j : Int) * stZ f t).toNat
def bln (f t : Nat) : Nat := Nat.max (dnN f t) (acN f t)
/-- whether the squares 1 to n paces from f towards t are empty -/
def clq (F : Nat → Nat) (f t : Nat) : Nat → Bool
  | 0 => true
  | n + 1 => clq F f t n && F (bst f t (n + 1)) == 0
def clr (F : Nat → Nat) (f t : Nat) : Bool := clq F f t (bln f t - 1)
def ldb (F : Nat → Nat) (i f t : Nat) : Bool := if i = 0 then dnN f t + acN f t == 1 else if i = 1 then dnN f t == 1 && acN f t == 1 else if i = 2 then dnN f t * acN f t == 2 else (if i = 3 then (dnN f t == 0 && acN f t != 0) || (dnN f t != 0 && acN f t == 0) else dnN f t == acN f t && dnN f t != 0) && clr F f t
def gop (F : Nat → Nat) (st f t : Nat) : Nat → Bool
  | 0 => false
  | n + 1 => gop F st f t n || (kn st n && (f != t && ldb F n f t))
theorem hld_ne {F : Nat → Nat} {k s : Nat} (h : hld F k s = true) : F k ≠ 0 := by
  intro h2
  rw [hld_f1 h2] at h
  cases h
theorem cnt_le {b : Nat → Bool} {n : Nat} : cnt b n ≤ n := by
  have := smp_le (f := fun k => if b k then 1 else 0) (c := 1) (n := n) (fun k _ => by split <;> omega)
  unfold cnt
  omega
theorem bI_eq1 {b : Bool} : bI b = nI 1 ↔ b = true := by cases b <;> decide
/-- the cheapest piece among those that have b, of several the lowest -/
def chb (F : Nat → Nat) (b : Nat → Bool) : Nat → Option Nat
  | 0 => none
  | n + 1 => if b n then (match chb F b n with
    | none => some n
    | some k => if wr (F n) < wr (F k) then some n else some k) else chb F b n
theorem chb_lt {F : Nat → Nat} {b : Nat → Bool} : ∀ {n k : Nat}, chb F b n = some k → k < n ∧ b k = true := by
  intro n
  induction n with
  | zero => intro k h; cases h
  | succ n ih =>
    intro k h
    unfold chb at h
    split at h
    · next ht =>
      split at h
      · cases h; exact ⟨by omega, ht⟩
      · next k2 hk2 =>
        have := ih hk2
        split at h
        · cases h; exact ⟨by omega, ht⟩
        · cases h; exact ⟨by omega, this.2⟩
    · have := ih h
      exact ⟨by omega, this.2⟩
def cab (F : Nat → Nat) (s t k : Nat) : Bool := hld F k s && gop F (stp (F k)) k t 5
def cam (F : Nat → Nat) (s t : Nat) : Option Nat := chb F (cab F s t) 36
/-- what an exchange is worth in the model, d captures deep at most -/
def exM : Nat → (Nat → Nat) → Nat → Nat
  | 0, _, _ => 0
  | d + 1, F, q => match cam F (1 - sd (F q)) q with
    | none => 0
    | some k => wr (F q) - exM d (mvF F k q) q
/-- .. and d captures are enough -/
def exT : Nat → (Nat → Nat) → Nat → Prop
  | 0, _, _ => False
  | d + 1, F, q => match cam F (1 - sd (F q)) q with
    | none => True
    | some k => exT d (mvF F k q) q
theorem exM_le (d : Nat) (F : Nat → Nat) (q : Nat) : exM d F q ≤ 35 := by
  cases d with
  | zero => exact Nat.zero_le _
  | succ d =>
    unfold exM
    split
    · exact Nat.zero_le _
    · have := wr_le (F q)
      omega
def gfd (g : Nat → Nat) : Nat → Nat → Nat
  | 0, w => w
  | m + 1, w => gfd g m (g m - w)
theorem gfd_ext {g g2 : Nat → Nat} : ∀ {m w : Nat}, (∀ k, k < m → g k = g2 k) → gfd g m w = gfd g2 m w := by
  intro m
  induction m with
  | zero => intro w h; rfl
  | succ m ih =>
    intro w h
    unfold gfd
    rw [h m (by omega), ih (fun k hk => h k (by omega))]
theorem sd_lra : ∀ a, a < 128 → ∀ v, v < 128 → sd (lra a v) = sd a ∧ lra a v < 128 := by decide +kernel
theorem lra_ne {a v : Nat} (h : a ≠ 0) : lra a v ≠ 0 := by
  unfold lra
  intro h2
  exact h (Nat.eq_zero_of_le_zero (by rw [← h2]; exact Nat.left_le_or))
def wkq (F : Nat → Nat) (s : Nat) : Nat → Nat × Option Nat
  | 0 => (0, none)
  | n + 1 => if hld F n s then (if (wkq F s n).1 < exM 16 F n then (exM 16 F n, some n) else wkq F s n) else wkq F s n
def eqp (G F : Nat → Nat) : Nat → Bool
  | 0 => true
  | n + 1 => eqp G F n && G n == F n
theorem upd_s {f : Nat → Int32} {i : Nat} {x : Int32} : upd f i x i = x := by simp [upd]
theorem upd_n {f : Nat → Int32} {i j : Nat} {x : Int32} (h : j ≠ i) : upd f i x j = f j := by simp [upd, h]
theorem pof_ne {a c : Nat} {ld : Bool} (hc : 1 ≤ c) : pof a c ld ≠ 0 := by
  unfold pof
  omega
/-- the class's memory behind a move -/
def mvC (V : Nat → Nat → Int32) (L : List zPos) (tn md : Nat) (ch : Option Nat) (a b : Nat) : Nat → Nat → Int32 := vset (mvV V a b tn md (ldr (bF V 2 b))) 1 5 (bI (ovr (if ldr (bF V 2 b) then some tn else ch) (n1t (1 - tn) (mvF (bF V 2) a b) L) (mvs (mvF (bF V 2) a b) (1 - tn) 36)))
def mvL (V : Nat → Nat → Int32) (L : List zPos) (tn a b : Nat) : List zPos := (1 - tn, pq4 (mvF (bF V 2) a b), n1t (1 - tn) (mvF (bF V 2) a b) L) :: L
def urN (d : Nat) : Nat := match d with
  | 0 => 3 | 1 => 1 | 2 => 2 | 3 => 2 | 4 => 3 | 5 => 3 | 6 => 1 | 7 => 1
  | 8 => 4 | 9 => 4 | 10 => 3 | 11 => 3 | 12 => 1 | 13 => 1 | 14 => 0 | _ => 0
def rtN (d : Nat) : Nat := match d with
  | 0 => 2 | 1 => 2 | 2 => 3 | 3 => 1 | 4 => 3 | 5 => 1 | 6 => 3 | 7 => 1
  | 8 => 3 | 9 => 1 | 10 => 4 | 11 => 0 | 12 => 4 | 13 => 0 | 14 => 3 | _ => 1
def nxN (d r c : Nat) : Option (Nat × Nat) := if 2 ≤ r + urN d ∧ r + urN d < 8 ∧ 2 ≤ c + rtN d ∧ c + rtN d < 8 then some (r + urN d - 2, c + rtN d - 2) else none
theorem nx_N : ∀ d, d < 16 → ∀ r, r < 6 → ∀ c, c < 6 → nx d r c = nxN d r c := by decide +kernel
def pth (d : Nat) : Nat → Nat → Nat → List Nat
  | 0, _, _ => []
  | n + 1, r, c => match nxN d r c with
    | none => []
    | some (r2, c2) => (6 * r2 + c2) :: pth d n r2 c2
def vis (F : Nat → Nat) : List Nat → Nat → Bool
  | [], _ => false
  | q :: l, t => (q == t) || (F q == 0 && vis F l t)
/-- what lies ahead of t in a list -/
def pre (t : Nat) : List Nat → Option (List Nat)
  | [] => none
  | q :: l => if q == t then some [] else (pre t l).map (q :: ·)
theorem vis_pre {F : Nat → Nat} {t : Nat} : ∀ {l : List Nat}, vis F l t = true ↔ ∃ p, pre t l = some p ∧ p.all (fun q => F q == 0) = true := by
  intro l
  induction l with
  | nil => simp [vis, pre]
  | cons q l ih =>
    unfold vis pre
    by_cases h : q = t
    · simp [h]
    · have hb : (q == t) = false := by simp [h]
      rw [hb]
      simp only [Bool.false_or, Bool.and_eq_true, Bool.false_eq_true, if_false, ih, Option.map_eq_some_iff]
      constructor
      · rintro ⟨h1, p, h2, h3⟩
        exact ⟨q :: p, ⟨p, h2, rfl⟩, by rw [List.all_cons, h1, h3]; rfl⟩
      · rintro ⟨p, ⟨p2, h2, rfl⟩, h3⟩
        rw [List.all_cons, Bool.and_eq_true] at h3
        exact ⟨h3.1, p2, h2, h3.2⟩
theorem nxN_b {d r c r2 c2 : Nat} (h : nxN d r c = some (r2, c2)) : r2 < 6 ∧ c2 < 6 := by
  unfold nxN at h
  split at h
  · cases h; omega
  · cases h
theorem lmk_vis {F : Nat → Nat} {d t : Nat} (hd : d < 16) : ∀ {n r c : Nat}, r < 6 → c < 6 → (lmk F d n r c).testBit t = vis F (pth d n r c) t := by
  intro n
  induction n with
  | zero => intro r c hr hc; simp [lmk, pth, vis]
  | succ n ih =>
    intro r c hr hc
    unfold lmk pth
    rw [nx_N d hd r hr c hc]
    cases h : nxN d r c with
    | none => simp [vis]
    | some x =>
      obtain ⟨r2, c2⟩ := x
      obtain ⟨b1, b2⟩ := nxN_b h
      dsimp only
      unfold vis
      rw [Nat.testBit_or, Nat.testBit_two_pow]
      by_cases hF : F (6 * r2 + c2) = 0
      · rw [if_pos hF, ih b1 b2]
        have hb : (F (6 * r2 + c2) == 0) = true := by rw [hF]; rfl
        rw [hb, Bool.true_and]
        by_cases e : 6 * r2 + c2 = t <;> simp [e]
      · rw [if_neg hF]
        have hb : (F (6 * r2 + c2) == 0) = false := by simp [hF]
        rw [hb, Bool.false_and, Bool.or_false, Nat.zero_testBit, Bool.or_false]
        by_cases e : 6 * r2 + c2 = t <;> simp [e]
def kok (i f t : Nat) : Bool := if i = 0 then dnN f t + acN f t == 1 else if i = 1 then dnN f t == 1 && acN f t == 1 else if i = 2 then dnN f t * acN f t == 2 else if i = 3 then (dnN f t == 0 && acN f t != 0) || (dnN f t != 0 && acN f t == 0) else dnN f t == acN f t && dnN f t != 0
def bti (i f t : Nat) : List Nat := if i < 3 then [] else (List.range (bln f t - 1)).map (fun j => bst f t (j + 1))
def tbi (i f t : Nat) : Bool := ((List.range (ndN i)).filterMap (fun u => pre t (pth (fdN i + u) (faN i) (f / 6) (f % 6)))) == (if kok i f t then [bti i f t] else [])
theorem tb_i : ∀ i, i < 5 → ∀ f, f < 36 → ∀ t, t < 36 → tbi i f t = true := by decide +kernel
theorem tb_y : ∀ i, i < 5 → ∀ f, f < 36 → ∀ t, t < 36 → (kok i f t == kok i t f && (!kok i f t || bti i t f == (bti i f t).reverse)) = true := by decide +kernel
theorem tb_0 : ∀ i, i < 5 → ∀ f, f < 36 → kok i f f = false := by decide +kernel
theorem clq_all {F : Nat → Nat} {f t : Nat} : ∀ {n : Nat}, clq F f t n = ((List.range n).map (fun j => bst f t (j + 1))).all (fun q => F q == 0) := by
  intro n
  induction n with
  | zero => rfl
  | succ n ih =>
    unfold clq
    rw [ih, List.range_succ, List.map_append, List.all_append]
    simp
theorem ldb_k {F : Nat → Nat} {i f t : Nat} (hi : i < 5) : ldb F i f t = (kok i f t && (bti i f t).all (fun q => F q == 0)) := by
  unfold ldb kok bti
  rcases (show i = 0 ∨ i = 1 ∨ i = 2 ∨ i = 3 ∨ i = 4 by omega) with rfl | rfl | rfl | rfl | rfl
  · simp
  · simp
  · simp
  · rw [clr, clq_all]; rfl
  · rw [clr, clq_all]; rfl
theorem ldb_y {F : Nat → Nat} {i f t : Nat} (hi : i < 5) (hf : f < 36) (ht : t < 36) : ldb F i t f = ldb F i f t := by
  rw [ldb_k hi, ldb_k hi]
  have h := tb_y i hi f hf t ht
  rw [Bool.and_eq_true, beq_iff_eq] at h
  rw [← h.1]
  cases hk : kok i f t with
  | false => rfl
  | true =>
    rw [hk] at h
    have h2 : bti i t f = (bti i f t).reverse := by simpa using h.2
    rw [h2, List.all_reverse]
theorem lok_ldb {F : Nat → Nat} {i f t : Nat} (hi : i < 5) (hf : f < 36) (ht : t < 36) : (lok F f i).testBit t = ldb F i f t := by
  rw [Bool.eq_iff_iff, ldb_k hi]
  unfold lok
  rw [orp_tb]
  have hT := tb_i i hi f hf t ht
  unfold tbi at hT
  rw [beq_iff_eq] at hT
  have hn := nd_b i hi
  have hv : ∀ u, u < ndN i → ((lnm F f (fdN i + u) (faN i)).testBit t = true ↔ ∃ p, pre t (pth (fdN i + u) (faN i) (f / 6) (f % 6)) = some p ∧ p.all (fun q => F q == 0) = true) := fun u hu => by
    unfold lnm
    have hnn : ndN i = ldN i + 1 - fdN i := rfl
    rw [lmk_vis (by omega) (by omega) (by omega)]
    exact vis_pre
  constructor
  · rintro ⟨u, hu, h⟩
    obtain ⟨p, h1, h2⟩ := (hv u hu).mp h
    have hm : p ∈ (List.range (ndN i)).filterMap (fun u => pre t (pth (fdN i + u) (faN i) (f / 6) (f % 6))) := List.mem_filterMap.mpr ⟨u, List.mem_range.mpr hu, h1⟩
    rw [hT] at hm
    by_cases hk : kok i f t = true
    · rw [if_pos hk, List.mem_singleton] at hm
      rw [hk, ← hm, h2]
      rfl
    · rw [if_neg hk] at hm
      cases hm
  · intro h
    rw [Bool.and_eq_true] at h
    have hm : bti i f t ∈ (List.range (ndN i)).filterMap (fun u => pre t (pth (fdN i + u) (faN i) (f / 6) (f % 6))) := by
      rw [hT, if_pos h.1]
      exact List.mem_singleton.mpr rfl
    obtain ⟨u, hu, h1⟩ := List.mem_filterMap.mp hm
    exact ⟨u, List.mem_range.mp hu, (hv u (List.mem_range.mp hu)).mpr ⟨_, h1, h.2⟩⟩
theorem kn_stp : ∀ p, p < 128 → ∀ i, i < 5 → kn (stp p) i = kn p i := by decide +kernel
theorem gop_tb {F : Nat → Nat} {st f t : Nat} : ∀ {n : Nat}, gop F st f t n = true ↔ ∃ i, i < n ∧ kn st i = true ∧ f ≠ t ∧ ldb F i f t = true := by
  intro n
  induction n with
  | zero => simp [gop]
  | succ n ih =>
    unfold gop
    rw [Bool.or_eq_true, ih]
    constructor
    · rintro (⟨i, h1, h2⟩ | h)
      · exact ⟨i, by omega, h2⟩
      · simp only [Bool.and_eq_true, bne_iff_ne] at h
        exact ⟨n, by omega, h.1, h.2.1, h.2.2⟩
    · rintro ⟨i, h1, h2, h3, h4⟩
      by_cases e : i = n
      · subst e
        exact Or.inr (by simp [h2, h3, h4])
      · exact Or.inl ⟨i, by omega, h2, h3, h4⟩
theorem ldb_ne {F : Nat → Nat} {i f t : Nat} (hi : i < 5) (hf : f < 36) (h : ldb F i f t = true) : f ≠ t := by
  intro e
  subst e
  rw [ldb_k hi, tb_0 i hi f hf] at h
  cases h
theorem gfr_gop {F : Nat → Nat} (hF : okF F) {f t : Nat} (hf : f < 36) (ht : t < 36) : (gfr F f).testBit t = gop F (stp (F f)) f t 5 := by
  rw [Bool.eq_iff_iff, gop_tb]
  unfold gfr
  rw [orp_tb]
  constructor
  · rintro ⟨i, hi, h⟩
    split at h
    · next hk =>
      rw [lok_ldb hi hf ht] at h
      exact ⟨i, hi, by rw [kn_stp _ (hF f hf) i hi]; exact hk, ldb_ne hi hf h, h⟩
    · simp at h
  · rintro ⟨i, hi, h1, h2, h3⟩
    refine ⟨i, hi, ?_⟩
    rw [if_pos (by rw [← kn_stp _ (hF f hf) i hi]; exact h1), lok_ldb hi hf ht]
    exact h3
theorem gsf_gop {F : Nat → Nat} (hF : okF F) {s f t : Nat} (hf : f < 36) (ht : t < 36) : (gsf F s t).testBit f = (hld F f s && gop F (stp (F f)) f t 5) := by
  rw [Bool.eq_iff_iff, Bool.and_eq_true, gop_tb]
  unfold gsf
  rw [orp_tb]
  constructor
  · rintro ⟨i, hi, h⟩
    rw [Nat.testBit_and, Bool.and_eq_true, lok_ldb hi ht hf, ldb_y hi hf ht] at h
    unfold knw at h
    rw [bm_tb] at h
    have h2 := h.2
    simp only [Bool.and_eq_true] at h2
    exact ⟨h2.2.1, i, hi, by rw [kn_stp _ (hF f hf) i hi]; exact h2.2.2, ldb_ne hi hf h.1, h.1⟩
  · rintro ⟨h0, i, hi, h1, h2, h3⟩
    refine ⟨i, hi, ?_⟩
    rw [Nat.testBit_and, Bool.and_eq_true, lok_ldb hi ht hf, ldb_y hi hf ht]
    refine ⟨h3, ?_⟩
    unfold knw
    rw [bm_tb]
    rw [kn_stp _ (hF f hf) i hi] at h1
    simp [hf, h0, h1]

theorem cnt_ext {b c : Nat → Bool} {n : Nat} (h : ∀ k, k < n → b k = c k) : cnt b n = cnt c n := smp_ext (fun k hk => by rw [h k hk])
theorem popc_bm (b : Nat → Bool) : popc (bm b 36) = cnt b 36 := cnt_ext (fun k hk => by rw [bm_tb]; simp [hk])
theorem popc_sqs (F : Nat → Nat) (s : Nat) : popc (sqs F s) = cnt (fun k => hld F k s) 36 := popc_bm _
theorem hld_sd {F : Nat → Nat} {k s : Nat} (h : hld F k s = true) : F k ≠ 0 ∧ sd (F k) = s := by
  unfold hld at h
  rw [Bool.and_eq_true, bne_iff_ne, beq_iff_eq] at h
  exact h
theorem cga_cnt {F : Nat → Nat} (hF : okF F) (s : Nat) {t : Nat} (ht : t < 36) : cga F s t 36 = cnt (fun k => hld F k s && gop F (stp (F k)) k t 5) 36 := by
  unfold cga
  exact cnt_ext (fun k hk => by rw [gfr_gop hF hk ht])
theorem gsf_cnt {F : Nat → Nat} (hF : okF F) (s : Nat) {t : Nat} (ht : t < 36) : popc (gsf F s t) = cnt (fun k => hld F k s && gop F (stp (F k)) k t 5) 36 := by
  unfold popc
  exact cnt_ext (fun k hk => gsf_gop hF hk ht)
theorem cnt_pos {b : Nat → Bool} {n : Nat} : 0 < cnt b n ↔ ∃ k, k < n ∧ b k = true := by
  induction n with
  | zero => simp [cnt, smp]
  | succ n ih =>
    have e : cnt b (n + 1) = cnt b n + if b n then 1 else 0 := rfl
    rw [e]
    constructor
    · intro h
      by_cases hb : b n = true
      · exact ⟨n, by omega, hb⟩
      · rw [if_neg hb] at h
        obtain ⟨k, h1, h2⟩ := ih.mp (by omega)
        exact ⟨k, by omega, h2⟩
    · rintro ⟨k, h1, h2⟩
      by_cases hk : k = n
      · subst hk
        rw [if_pos h2]
        omega
      · have := ih.mpr ⟨k, by omega, h2⟩
        omega
theorem knw_cnt {F : Nat → Nat} (hF : okF F) (s : Nat) {i : Nat} (hi : i < 5) : popc (knw F s i) = cnt (fun k => hld F k s && kn (stp (F k)) i) 36 := by
  unfold knw
  rw [popc_bm]
  exact cnt_ext (fun k hk => by rw [kn_stp _ (hF k hk) i hi])
/-- a side has one leader at most -/
def one_ (F : Nat → Nat) : Prop := ∀ s, s < 2 → ∀ j k, j < 36 → k < 36 → (hld F j s && ldr (F j)) = true → (hld F k s && ldr (F k)) = true → j = k
theorem ffr_none {b : Nat → Bool} : ∀ {n i : Nat}, ffr b n i = none ↔ ∀ k, i ≤ k → k < i + n → b k = false := by
  intro n
  induction n with
  | zero => intro i; simp [ffr]; intro k h1 h2; omega
  | succ n ih =>
    intro i
    unfold ffr
    by_cases h : b i = true
    · rw [if_pos h]
      constructor
      · intro z; cases z
      · intro z
        have := z i (Nat.le_refl i) (by omega)
        rw [h] at this
        cases this
    · rw [if_neg h, ih]
      constructor
      · intro z k h1 h2
        by_cases e : k = i
        · subst e; simpa using h
        · exact z k (by omega) (by omega)
      · intro z k h1 h2
        exact z k (by omega) (by omega)
theorem chs_chb {F : Nat → Nat} {m : Nat} : ∀ {n : Nat}, chs F m n = chb F m.testBit n := by
  intro n
  induction n with
  | zero => rfl
  | succ n ih =>
    unfold chs chb
    rw [ih]
    cases chb F m.testBit n <;> rfl
theorem chb_ext {F : Nat → Nat} {b c : Nat → Bool} : ∀ {n : Nat}, (∀ k, k < n → b k = c k) → chb F b n = chb F c n := by
  intro n
  induction n with
  | zero => intro h; rfl
  | succ n ih =>
    intro h
    unfold chb
    rw [h n (by omega), ih (fun k hk => h k (by omega))]
theorem chs_cam {F : Nat → Nat} (hF : okF F) (s : Nat) {t : Nat} (ht : t < 36) : chs F (gsf F s t) 36 = cam F s t := by
  rw [chs_chb]
  exact chb_ext (fun k hk => gsf_gop hF hk ht)
theorem exN_exM {q : Nat} (hq : q < 36) : ∀ {d : Nat} {F : Nat → Nat}, okF F → exN d F q = exM d F q := by
  intro d
  induction d with
  | zero => intro F hF; rfl
  | succ d ih =>
    intro F hF
    unfold exN exM
    rw [chs_cam hF _ hq]
    cases h : cam F (1 - sd (F q)) q with
    | none => rfl
    | some k =>
      have hk := (chb_lt h).1
      dsimp only
      rw [ih (okF_mv hF hk)]
/-- how many pieces there are -/
def pcs_ (F : Nat → Nat) : Nat := cnt (fun k => F k != 0) 36
theorem cnt_upd {b c : Nat → Bool} {j : Nat} : ∀ {n : Nat}, j < n → (∀ k, k < n → k ≠ j → b k = c k) → b j = true → c j = false → cnt b n = cnt c n + 1 := by
  intro n
  induction n with
  | zero => intro h; omega
  | succ n ih =>
    intro h h1 h2 h3
    have e1 : cnt b (n + 1) = cnt b n + if b n then 1 else 0 := rfl
    have e2 : cnt c (n + 1) = cnt c n + if c n then 1 else 0 := rfl
    rw [e1, e2]
    by_cases e : j = n
    · subst e
      rw [h2, h3, cnt_ext (fun k hk => h1 k (by omega) (by omega))]
      simp
    · rw [h1 n (by omega) (Ne.symm e), ih (by omega) (fun k hk hkj => h1 k (by omega) hkj) h2 h3]
      omega
theorem crr_lra (F : Nat → Nat) (a b : Nat) : crr F a b = lra (F a) (F b) := rfl
theorem pcs_mv {F : Nat → Nat} {a b : Nat} (ha : a < 36) (hab : a ≠ b) (h0 : F a ≠ 0) (hb0 : F b ≠ 0) : pcs_ F = pcs_ (mvF F a b) + 1 := by
  unfold pcs_
  refine cnt_upd ha (fun k hk hka => ?_) (by simp [h0]) (by simp [mvF])
  show (F k != 0) = (mvF F a b k != 0)
  unfold mvF
  rw [if_neg hka]
  by_cases hkb : k = b
  · rw [if_pos hkb, hkb, crr_lra]
    have e1 : (F b != 0) = true := bne_iff_ne.mpr hb0
    have e2 : (lra (F a) (F b) != 0) = true := bne_iff_ne.mpr (lra_ne h0)
    rw [e1, e2]
  · rw [if_neg hkb]
theorem cab_ne {F : Nat → Nat} {s t k : Nat} (h : cab F s t k = true) : F k ≠ 0 ∧ sd (F k) = s ∧ k ≠ t := by
  unfold cab at h
  rw [Bool.and_eq_true] at h
  obtain ⟨h1, h2⟩ := h
  rw [gop_tb] at h2
  obtain ⟨i, -, -, h3, -⟩ := h2
  exact ⟨(hld_sd h1).1, (hld_sd h1).2, h3⟩
theorem exT_of {q : Nat} (hq : q < 36) : ∀ {d : Nat} {F : Nat → Nat}, F q ≠ 0 → pcs_ F ≤ d → exT d F q := by
  intro d
  induction d with
  | zero =>
    intro F h0 hp
    have : 0 < pcs_ F := cnt_pos.mpr ⟨q, hq, by simp [h0]⟩
    omega
  | succ d ih =>
    intro F h0 hp
    unfold exT
    cases h : cam F (1 - sd (F q)) q with
    | none => trivial
    | some k =>
      obtain ⟨hk, hc⟩ := chb_lt h
      obtain ⟨h1, h2, h3⟩ := cab_ne hc
      have h4 := pcs_mv hk h3 h1 h0
      refine ih ?_ (by omega)
      unfold mvF
      rw [if_neg (Ne.symm h3), if_pos rfl, crr_lra]
      exact lra_ne h1
theorem wkp_wkq {F : Nat → Nat} (hF : okF F) {s : Nat} : ∀ {n : Nat}, n ≤ 36 → wkp F s n = wkq F s n := by
  intro n
  induction n with
  | zero => intro h; rfl
  | succ n ih =>
    intro h
    unfold wkp wkq
    rw [ih (by omega), exN_exM (by omega) hF]
def eqv (F G : Nat → Nat) : Prop := ∀ k, k < 36 → F k = G k
theorem eqv_r (F : Nat → Nat) : eqv F F := fun _ _ => rfl
theorem eqv_s {F G : Nat → Nat} (h : eqv F G) : eqv G F := fun k hk => (h k hk).symm
theorem eqv_t {F G K : Nat → Nat} (h : eqv F G) (h2 : eqv G K) : eqv F K := fun k hk => (h k hk).trans (h2 k hk)
theorem eqp_eqv {F G : Nat → Nat} : ∀ {n : Nat}, eqp F G n = true ↔ ∀ k, k < n → F k = G k := by
  intro n
  induction n with
  | zero => simp [eqp]
  | succ n ih =>
    unfold eqp
    rw [Bool.and_eq_true, ih, beq_iff_eq]
    constructor
    · rintro ⟨h1, h2⟩ k hk
      by_cases e : k = n
      · rw [e]; exact h2
      · exact h1 k (by omega)
    · intro h
      exact ⟨fun k hk => h k (by omega), h n (by omega)⟩
theorem or_inj {x y p q : Nat} (hp : p < 128) (hq : q < 128) (h : x * 128 ||| p = y * 128 ||| q) : x = y ∧ p = q := by
  have e : ∀ a b : Nat, b < 128 → a * 128 ||| b = a * 128 + b := fun a b hb => by
    rw [show a * 128 = a * 2 ^ 7 from rfl, Nat.mul_comm a (2 ^ 7), ← Nat.two_pow_add_eq_or_of_lt hb]
  rw [e x p hp, e y q hq] at h
  omega
theorem qtr_inj {F G : Nat → Nat} (hF : okF F) (hG : okF G) {q : Nat} : ∀ {n : Nat}, q * 36 / 4 + n ≤ 36 → qtr F q n = qtr G q n → ∀ k, k < n → F (q * 36 / 4 + k) = G (q * 36 / 4 + k) := by
  intro n
  induction n with
  | zero => intro _ _ k hk; omega
  | succ n ih =>
    intro hn h k hk
    unfold qtr at h
    obtain ⟨h1, h2⟩ := or_inj (hF _ (by omega)) (hG _ (by omega)) h
    by_cases e : k = n
    · rw [e]; exact h2
    · exact ih (by omega) h1 k (by omega)
theorem qtr_ext {F G : Nat → Nat} (h : eqv F G) {q : Nat} : ∀ {n : Nat}, q * 36 / 4 + n ≤ 36 → qtr F q n = qtr G q n := by
  intro n
  induction n with
  | zero => intro _; rfl
  | succ n ih =>
    intro hn
    unfold qtr
    rw [ih (by omega), h _ (by omega)]
theorem pq4_inj {F G : Nat → Nat} (hF : okF F) (hG : okF G) (h : ∀ i, i < 4 → pq4 F i = pq4 G i) : eqv F G := by
  intro k hk
  have h0 := qtr_inj hF hG (q := 0) (n := 9) (by decide) (h 0 (by decide))
  have h1 := qtr_inj hF hG (q := 1) (n := 9) (by decide) (h 1 (by decide))
  have h2 := qtr_inj hF hG (q := 2) (n := 9) (by decide) (h 2 (by decide))
  have h3 := qtr_inj hF hG (q := 3) (n := 9) (by decide) (h 3 (by decide))
  rcases (show k < 9 ∨ (9 ≤ k ∧ k < 18) ∨ (18 ≤ k ∧ k < 27) ∨ 27 ≤ k by omega) with g | g | g | g
  · have := h0 k g
    simpa using this
  · have := h1 (k - 9) (by omega)
    rw [show 1 * 36 / 4 + (k - 9) = k by omega] at this
    exact this
  · have := h2 (k - 18) (by omega)
    rw [show 2 * 36 / 4 + (k - 18) = k by omega] at this
    exact this
  · have := h3 (k - 27) (by omega)
    rw [show 3 * 36 / 4 + (k - 27) = k by omega] at this
    exact this
/-- the chain of positions of the boards Bd 0 to Bd n -/
def trL (Bd : Nat → Nat → Nat) : Nat → List zPos
  | 0 => [(0, pq4 (Bd 0), 1)]
  | n + 1 => ((n + 1) % 2, pq4 (Bd (n + 1)), n1t ((n + 1) % 2) (Bd (n + 1)) (trL Bd n)) :: trL Bd n
theorem trL_ext {B C : Nat → Nat → Nat} : ∀ {n : Nat}, (∀ i, i ≤ n → B i = C i) → trL B n = trL C n := by
  intro n
  induction n with
  | zero => intro h; unfold trL; rw [h 0 (Nat.le_refl 0)]
  | succ n ih =>
    intro h
    unfold trL
    rw [h (n + 1) (Nat.le_refl _), ih (fun i hi => h i (by omega))]
theorem trL_ne {B : Nat → Nat → Nat} {n : Nat} : (trL B n).isEmpty = false := by
  cases n <;> rfl
/-- of the boards Bd 0 to Bd n with the side t to move, those that are F -/
def c9 (Bd : Nat → Nat → Nat) (t : Nat) (F : Nat → Nat) : Nat → Nat := cnt (fun i => i % 2 == t && eqp (Bd i) F 36)
theorem tbf_c9 {Bd : Nat → Nat → Nat} (hB : ∀ i, okF (Bd i)) {t : Nat} : ∀ {n : Nat} {F : Nat → Nat}, okF F → tbf t (pq4 F) (trL Bd n) = c9 Bd t F (n + 1) := by
  intro n
  induction n with
  | zero =>
    intro F hF
    have e : c9 Bd t F 1 = c9 Bd t F 0 + if (0 % 2 == t && eqp (Bd 0) F 36) = true then 1 else 0 := rfl
    rw [e]
    unfold trL tbf
    show (if lkl t (pq4 F) (0, pq4 (Bd 0), 1) then 1 else tbf t (pq4 F) []) = _
    by_cases h : (0 % 2 == t && eqp (Bd 0) F 36) = true
    · rw [if_pos h]
      have h2 : lkl t (pq4 F) (0, pq4 (Bd 0), 1) = true := by
        rw [Bool.and_eq_true, beq_iff_eq, eqp_eqv] at h
        have hq : ∀ i, i < 4 → pq4 F i = pq4 (Bd 0) i := fun i hi => qtr_ext (eqv_s h.2) (by omega)
        have ht : t = 0 := by omega
        unfold lkl
        dsimp only
        rw [ht, hq 0 (by decide), hq 1 (by decide), hq 2 (by decide), hq 3 (by decide)]
        simp
      rw [if_pos h2]
      rfl
    · rw [if_neg h]
      have h2 : ¬ lkl t (pq4 F) (0, pq4 (Bd 0), 1) = true := by
        intro z
        unfold lkl at z
        dsimp only at z
        simp only [Bool.and_eq_true, beq_iff_eq] at z
        refine h ?_
        rw [Bool.and_eq_true, beq_iff_eq, eqp_eqv]
        refine ⟨by omega, ?_⟩
        refine eqv_s (pq4_inj hF (hB 0) (fun i hi => ?_))
        rcases (show i = 0 ∨ i = 1 ∨ i = 2 ∨ i = 3 by omega) with rfl | rfl | rfl | rfl
        · exact z.1.1.1.2
        · exact z.1.1.2
        · exact z.1.2
        · exact z.2
      rw [if_neg h2]
      rfl
  | succ n ih =>
    intro F hF
    have e : c9 Bd t F (n + 1 + 1) = c9 Bd t F (n + 1) + if ((n + 1) % 2 == t && eqp (Bd (n + 1)) F 36) = true then 1 else 0 := rfl
    rw [e]
    unfold trL tbf
    by_cases h : ((n + 1) % 2 == t && eqp (Bd (n + 1)) F 36) = true
    · rw [if_pos h]
      rw [Bool.and_eq_true, beq_iff_eq, eqp_eqv] at h
      have h2 : lkl t (pq4 F) ((n + 1) % 2, pq4 (Bd (n + 1)), n1t ((n + 1) % 2) (Bd (n + 1)) (trL Bd n)) = true := by
        have hq : ∀ i, i < 4 → pq4 F i = pq4 (Bd (n + 1)) i := fun i hi => qtr_ext (eqv_s h.2) (by omega)
        unfold lkl
        dsimp only
        rw [h.1, hq 0 (by decide), hq 1 (by decide), hq 2 (by decide), hq 3 (by decide)]
        simp
      rw [if_pos h2]
      show n1t ((n + 1) % 2) (Bd (n + 1)) (trL Bd n) = _
      unfold n1t
      rw [h.1, ih (hB (n + 1))]
      have e2 : c9 Bd t (Bd (n + 1)) (n + 1) = c9 Bd t F (n + 1) := cnt_ext (fun i hi => by
        congr 1
        rw [Bool.eq_iff_iff, eqp_eqv, eqp_eqv]
        exact ⟨fun z => eqv_t z h.2, fun z => eqv_t z (eqv_s h.2)⟩)
      rw [e2]
      omega
    · rw [if_neg h]
      have h2 : ¬ lkl t (pq4 F) ((n + 1) % 2, pq4 (Bd (n + 1)), n1t ((n + 1) % 2) (Bd (n + 1)) (trL Bd n)) = true := by
        intro z
        unfold lkl at z
        dsimp only at z
        simp only [Bool.and_eq_true, beq_iff_eq] at z
        refine h ?_
        rw [Bool.and_eq_true, beq_iff_eq, eqp_eqv]
        refine ⟨by omega, ?_⟩
        refine eqv_s (pq4_inj hF (hB (n + 1)) (fun i hi => ?_))
        rcases (show i = 0 ∨ i = 1 ∨ i = 2 ∨ i = 3 by omega) with rfl | rfl | rfl | rfl
        · exact z.1.1.1.2
        · exact z.1.1.2
        · exact z.1.2
        · exact z.2
      rw [if_neg h2, ih hF]
      rfl
theorem tbf_le {Bd : Nat → Nat → Nat} {t : Nat} : ∀ {n : Nat} {a : Nat → Nat}, tbf t a (trL Bd n) ≤ n + 1 := by
  intro n
  induction n generalizing t with
  | zero =>
    intro a
    unfold trL tbf
    split
    · exact Nat.le_refl 1
    · exact Nat.zero_le _
  | succ n ih =>
    intro a
    unfold trL tbf
    split
    · show n1t _ _ _ ≤ _
      unfold n1t
      have := ih (t := (n + 1) % 2) (a := pq4 (Bd (n + 1)))
      omega
    · have := ih (t := t) (a := a)
      omega
theorem pcs_le {F : Nat → Nat} {a b : Nat} (ha : a < 36) (hb : b < 36) (hab : a ≠ b) (h0 : F a ≠ 0) : pcs_ (mvF F a b) ≤ pcs_ F ∧ (F b ≠ 0 → pcs_ (mvF F a b) < pcs_ F) := by
  by_cases hb0 : F b = 0
  · refine ⟨?_, fun z => absurd hb0 z⟩
    have e1 : pcs_ (mvF F a b) = cnt (fun k => k != a && mvF F a b k != 0) 36 := cnt_ext (fun k hk => by
      by_cases e : k = a
      · subst e; simp [mvF]
      · simp [e])
    have e2 : cnt (fun k => mvF F a b k != 0) 36 = cnt (fun k => k != b && F k != 0 && k != a) 36 + 1 := by
      refine cnt_upd (j := b) hb (fun k hk hkb => ?_) ?_ ?_
      · show (mvF F a b k != 0) = (k != b && F k != 0 && k != a)
        unfold mvF
        by_cases e : k = a
        · rw [if_pos e, e]; simp
        · rw [if_neg e, if_neg hkb, show (k != b) = true from bne_iff_ne.mpr hkb, show (k != a) = true from bne_iff_ne.mpr e, Bool.true_and, Bool.and_true]
      · show (mvF F a b b != 0) = true
        unfold mvF
        rw [if_neg (Ne.symm hab), if_pos rfl, crr_lra]
        exact bne_iff_ne.mpr (lra_ne h0)
      · simp
    have e3 : cnt (fun k => F k != 0) 36 = cnt (fun k => k != b && F k != 0 && k != a) 36 + 1 := by
      refine cnt_upd (j := a) ha (fun k hk hka => ?_) (by simp [h0]) (by simp)
      show (F k != 0) = (k != b && F k != 0 && k != a)
      by_cases e : k = b
      · rw [e, hb0]; simp
      · rw [show (k != b) = true from bne_iff_ne.mpr e, show (k != a) = true from bne_iff_ne.mpr hka, Bool.true_and, Bool.and_true]
    show cnt (fun k => mvF F a b k != 0) 36 ≤ cnt (fun k => F k != 0) 36
    omega
  · have := pcs_mv (F := F) ha hab h0 hb0
    exact ⟨by omega, fun _ => by omega⟩
theorem lra_tb : ∀ a, a < 128 → ∀ v, v < 128 → ldr (lra a v) = ldr a ∧ wr (lra a v) = wr a + wst (lrn a v) := by decide +kernel
theorem hld_mv {F : Nat → Nat} (hF : okF F) {a b : Nat} (ha : a < 36) (hb : b < 36) (hab : a ≠ b) (h0 : F a ≠ 0) {k s : Nat} (hk : k < 36) : hld (mvF F a b) k s = if k = a then false else if k = b then hld F a s else hld F k s := by
  unfold hld mvF
  by_cases h1 : k = a
  · rw [if_pos h1, if_pos h1]; rfl
  · rw [if_neg h1, if_neg h1]
    by_cases h2 : k = b
    · rw [if_pos h2, if_pos h2, crr_lra, (sd_lra _ (hF a ha) _ (hF b hb)).1]
      have e1 : (lra (F a) (F b) != 0) = true := bne_iff_ne.mpr (lra_ne h0)
      have e2 : (F a != 0) = true := bne_iff_ne.mpr h0
      rw [e1, e2]
    · rw [if_neg h2, if_neg h2]
theorem ldr_mv {F : Nat → Nat} (hF : okF F) {a b : Nat} (ha : a < 36) (hb : b < 36) {k : Nat} (hka : k ≠ a) : ldr (mvF F a b k) = if k = b then ldr (F a) else ldr (F k) := by
  unfold mvF
  rw [if_neg hka]
  by_cases h2 : k = b
  · rw [if_pos h2, if_pos h2, crr_lra, (lra_tb _ (hF a ha) _ (hF b hb)).1]
  · rw [if_neg h2, if_neg h2]
theorem one_mv {F : Nat → Nat} (hF : okF F) (h1 : one_ F) {a b : Nat} (ha : a < 36) (hb : b < 36) (hab : a ≠ b) (h0 : F a ≠ 0) : one_ (mvF F a b) := by
  have key : ∀ s k, k < 36 → (hld (mvF F a b) k s && ldr (mvF F a b k)) = true → k ≠ a ∧ (hld F (if k = b then a else k) s && ldr (F (if k = b then a else k))) = true := by
    intro s k hk h
    rw [hld_mv hF ha hb hab h0 hk] at h
    by_cases e : k = a
    · rw [if_pos e] at h; cases h
    · rw [if_neg e, ldr_mv hF ha hb e] at h
      refine ⟨e, ?_⟩
      by_cases e2 : k = b
      · rw [if_pos e2, if_pos e2] at h; rw [if_pos e2]; exact h
      · rw [if_neg e2, if_neg e2] at h; rw [if_neg e2]; exact h
  intro s hs j k hj hk gj gk
  obtain ⟨j1, j2⟩ := key s j hj gj
  obtain ⟨k1, k2⟩ := key s k hk gk
  have := h1 s hs _ _ (by split <;> omega) (by split <;> omega) j2 k2
  by_cases e1 : j = b
  · rw [if_pos e1] at this
    by_cases e2 : k = b
    · omega
    · rw [if_neg e2] at this; omega
  · rw [if_neg e1] at this
    by_cases e2 : k = b
    · rw [if_pos e2] at this; omega
    · rw [if_neg e2] at this; exact this
theorem cnt_le2 {b c : Nat → Bool} {n : Nat} (h : ∀ k, k < n → b k = true → c k = true) : cnt b n ≤ cnt c n := by
  induction n with
  | zero => exact Nat.le_refl 0
  | succ n ih =>
    have e1 : cnt b (n + 1) = cnt b n + if b n then 1 else 0 := rfl
    have e2 : cnt c (n + 1) = cnt c n + if c n then 1 else 0 := rfl
    have h3 := ih (fun k hk => h k (by omega))
    rw [e1, e2]
    by_cases hb : b n = true
    · rw [if_pos hb, if_pos (h n (by omega) hb)]
      omega
    · rw [if_neg hb]
      omega
theorem cnt_mv {F : Nat → Nat} (hF : okF F) {a b : Nat} (ha : a < 36) (hb : b < 36) (hab : a ≠ b) (h0 : F a ≠ 0) (s : Nat) : cnt (fun k => hld (mvF F a b) k s) 36 ≤ cnt (fun k => hld F k s) 36 := by
  cases hs : hld F a s with
  | false =>
    refine cnt_le2 (fun k hk h => ?_)
    rw [hld_mv hF ha hb hab h0 hk] at h
    split at h
    · cases h
    · split at h
      · rw [hs] at h; cases h
      · exact h
  | true =>
    have e1 : cnt (fun k => hld F k s) 36 = cnt (fun k => k != a && hld F k s) 36 + 1 := cnt_upd (j := a) ha (fun k hk hka => by rw [show (k != a) = true from bne_iff_ne.mpr hka, Bool.true_and]) hs (by simp)
    have e2 : cnt (fun k => hld (mvF F a b) k s) 36 = cnt (fun k => k != b && hld (mvF F a b) k s) 36 + 1 := cnt_upd (j := b) hb (fun k hk hkb => by rw [show (k != b) = true from bne_iff_ne.mpr hkb, Bool.true_and]) (by rw [hld_mv hF ha hb hab h0 hb, if_neg (Ne.symm hab), if_pos rfl]; exact hs) (by simp)
    have e3 : cnt (fun k => k != b && hld (mvF F a b) k s) 36 ≤ cnt (fun k => k != a && hld F k s) 36 := cnt_le2 (fun k hk h => by
      rw [Bool.and_eq_true, bne_iff_ne] at h
      obtain ⟨h1, h2⟩ := h
      rw [hld_mv hF ha hb hab h0 hk] at h2
      by_cases e : k = a
      · rw [if_pos e] at h2; cases h2
      · rw [if_neg e, if_neg h1] at h2
        rw [Bool.and_eq_true, bne_iff_ne]
        exact ⟨e, h2⟩)
    omega

theorem mvC_F {W : Nat → Nat → Int32} {L : List zPos} {tn md : Nat} {ch : Option Nat} {a b : Nat} (hF : okF (bF W 2)) (ha : a < 36) : bF (mvC W L tn md ch a b) 2 = mvF (bF W 2) a b := by
  rw [← bF_mv (tn := tn) (md := md) (ld := ldr (bF W 2 b)) hF ha]
  funext k
  rfl
theorem mvC_14 {W : Nat → Nat → Int32} {L : List zPos} {tn md : Nat} {ch : Option Nat} {a b : Nat} : mvC W L tn md ch a b 1 4 = nI (md + 1) ∧ mvC W L tn md ch a b 1 3 = nI (1 - tn) ∧ mvC W L tn md ch a b 1 5 = bI (ovr (if ldr (bF W 2 b) then some tn else ch) (n1t (1 - tn) (mvF (bF W 2) a b) L) (mvs (mvF (bF W 2) a b) (1 - tn) 36)) := ⟨rfl, rfl, rfl⟩
theorem mvC_16 {W : Nat → Nat → Int32} {L : List zPos} {tn md : Nat} {ch : Option Nat} {a b : Nat} : mvC W L tn md ch a b 1 6 = if ldr (bF W 2 b) then nI tn else W 1 6 := by
  unfold mvC mvV
  cases ldr (bF W 2 b) <;> rfl
theorem mvC_4 {W : Nat → Nat → Int32} {L : List zPos} {tn md : Nat} {ch : Option Nat} {a b : Nat} : mvC W L tn md ch a b 4 = upd (upd (W 4) tn (W 4 tn + nI (wst (lrn (bF W 2 a) (bF W 2 b))))) (1 - tn) (upd (W 4) tn (W 4 tn + nI (wst (lrn (bF W 2 a) (bF W 2 b)))) (1 - tn) - nI (wr (bF W 2 b))) := by
  unfold mvC mvV
  cases ldr (bF W 2 b) <;> rfl
theorem mvC_5 {W : Nat → Nat → Int32} {L : List zPos} {tn md : Nat} {ch : Option Nat} {a b : Nat} : mvC W L tn md ch a b 5 = upd (W 5) tn (W 5 tn + nI (wr (bF W 2 b))) := by
  unfold mvC mvV
  cases ldr (bF W 2 b) <;> rfl
theorem mvC_o {W : Nat → Nat → Int32} {L : List zPos} {tn md : Nat} {ch : Option Nat} {a b c : Nat} (hc : 6 ≤ c) : mvC W L tn md ch a b c = W c := by
  unfold mvC mvV mvB
  rw [vset_n (by omega), vset_n (by omega), vset_n (by omega), vset_n (by omega), vset_n (by omega)]
  cases ldr (bF W 2 b)
  · show mvA W a b tn c = W c
    unfold mvA
    rw [vset_n (by omega), vset_n (by omega), vset_n (by omega)]
  · show vset (mvA W a b tn) 1 6 (nI tn) c = W c
    rw [vset_n (by omega)]
    unfold mvA
    rw [vset_n (by omega), vset_n (by omega), vset_n (by omega)]
theorem sd_pof : ∀ a, a < 2 → ∀ c, c < 32 → ∀ ld : Bool, sd (pof a c ld) = a ∧ ldr (pof a c ld) = ld := by decide +kernel
theorem hld_pl {F : Nat → Nat} {b p k s : Nat} : hld (plF F b p) k s = if k = b then (p != 0 && sd p == s) else hld F k s := by
  unfold hld plF
  by_cases h : k = b
  · rw [if_pos h, if_pos h]
  · rw [if_neg h, if_neg h]
theorem one_pl {F : Nat → Nat} (h1 : one_ F) {b p : Nat} (hp : ldr p = true → p ≠ 0 → ∀ k, k < 36 → (hld F k (sd p) && ldr (F k)) = false) : one_ (plF F b p) := by
  have key : ∀ s k, (hld (plF F b p) k s && ldr (plF F b p k)) = true → (k = b ∧ p ≠ 0 ∧ sd p = s ∧ ldr p = true) ∨ (k ≠ b ∧ (hld F k s && ldr (F k)) = true) := by
    intro s k h
    rw [hld_pl, Bool.and_eq_true] at h
    obtain ⟨h2, h3⟩ := h
    unfold plF at h3
    by_cases e : k = b
    · rw [if_pos e] at h2 h3
      rw [Bool.and_eq_true, bne_iff_ne, beq_iff_eq] at h2
      exact Or.inl ⟨e, h2.1, h2.2, h3⟩
    · rw [if_neg e] at h2 h3
      exact Or.inr ⟨e, by rw [h2, h3]; rfl⟩
  intro s hs j k hj hk gj gk
  rcases key s j gj with ⟨j1, j2, j3, j4⟩ | ⟨j1, j2⟩
  · rcases key s k gk with ⟨k1, -⟩ | ⟨k1, k2⟩
    · omega
    · have := hp j4 j2 k hk
      rw [j3, k2] at this
      cases this
  · rcases key s k gk with ⟨k1, k2, k3, k4⟩ | ⟨k1, k2⟩
    · have := hp k4 k2 j hj
      rw [k3, j2] at this
      cases this
    · exact h1 s hs j k hj hk j2 k2
theorem cnt_pl {F : Nat → Nat} {b p s : Nat} (hb : b < 36) : cnt (fun k => hld (plF F b p) k s) 36 ≤ cnt (fun k => hld F k s) 36 + 1 := by
  by_cases h : hld (plF F b p) b s = true
  · have e1 : cnt (fun k => hld (plF F b p) k s) 36 = cnt (fun k => k != b && hld (plF F b p) k s) 36 + 1 := cnt_upd (j := b) hb (fun k hk hkb => by rw [show (k != b) = true from bne_iff_ne.mpr hkb, Bool.true_and]) h (by simp)
    have e2 : cnt (fun k => k != b && hld (plF F b p) k s) 36 ≤ cnt (fun k => hld F k s) 36 := cnt_le2 (fun k hk h2 => by
      rw [Bool.and_eq_true, bne_iff_ne, hld_pl] at h2
      rw [if_neg h2.1] at h2
      exact h2.2)
    omega
  · have e2 : cnt (fun k => hld (plF F b p) k s) 36 ≤ cnt (fun k => hld F k s) 36 := cnt_le2 (fun k hk h2 => by
      by_cases e : k = b
      · rw [e] at h2; exact absurd h2 h
      · rw [hld_pl, if_neg e] at h2
        exact h2)
    omega
theorem cnt_ps {F : Nat → Nat} {b p s : Nat} (hs : p = 0 ∨ sd p ≠ s) : cnt (fun k => hld (plF F b p) k s) 36 ≤ cnt (fun k => hld F k s) 36 := cnt_le2 (fun k hk h2 => by
  rw [hld_pl] at h2
  by_cases e : k = b
  · rw [if_pos e, Bool.and_eq_true, bne_iff_ne, beq_iff_eq] at h2
    exact absurd h2 (by rintro ⟨q1, q2⟩; rcases hs with hs | hs; exact q1 hs; exact hs q2)
  · rw [if_neg e] at h2
    exact h2)
