/-! ===== steps as the model sees them: rows and columns apart, the squares between ===== -/
def sgI (x : Int32) : Int32 := if x ≤ 0 then (if 0 ≤ x then nI 0 else -1) else nI 1
def szI (x : Int32) : Int32 := if 0 ≤ x then x else -x
def dnZ (f t : Nat) : Int := (t / 6 : Nat) - (f / 6 : Nat)
def acZ (f t : Nat) : Int := (t % 6 : Nat) - (f % 6 : Nat)
def dnN (f t : Nat) : Nat := (dnZ f t).natAbs
def acN (f t : Nat) : Nat := (acZ f t).natAbs
def stZ (f t : Nat) : Int := 6 * (dnZ f t).sign + (acZ f t).sign
/-- the square j paces from f towards t -/
def bst (f t j : Nat) : Nat := ((f : Int) + (j : Int) * stZ f t).toNat
def bln (f t : Nat) : Nat := Nat.max (dnN f t) (acN f t)
/-- in a straight line, straight or diagonal -/
def aln (f t : Nat) : Bool := (dnN f t == 0 || (acN f t == 0 || dnN f t == acN f t)) && f != t
def sDI (f t : Nat) : Int32 := sgI (nI (t / 6) - nI (f / 6))
def sAI (f t : Nat) : Int32 := sgI (nI (t % 6) - nI (f % 6))
theorem tg_0 : ∀ f, f < 36 → ∀ t, t < 36 → aln f t = true → nI f + nI 6 * sDI f t + sAI f t = nI (bst f t 1) ∧ 1 ≤ bln f t ∧ bln f t ≤ 5 ∧ bst f t (bln f t) = t := by decide +kernel
def tgb (f t j : Nat) : Bool := !(aln f t && (decide (1 ≤ j) && decide (j < bln f t))) || (nI (bst f t j) + (nI 6 * sDI f t + sAI f t) == nI (bst f t (j + 1)) && (decide (bst f t j < 36) && bst f t j != t))
theorem tg_b : ∀ f, f < 36 → ∀ t, t < 36 → ∀ j, j < 5 → tgb f t j = true := by decide +kernel
theorem tg_1 (f : Nat) (hf : f < 36) (t : Nat) (ht : t < 36) (hal : aln f t = true) (j : Nat) (hj : j < 5) (h1 : 1 ≤ j) (h2 : j < bln f t) : nI (bst f t j) + (nI 6 * sDI f t + sAI f t) = nI (bst f t (j + 1)) ∧ bst f t j < 36 ∧ bst f t j ≠ t := by
  have h := tg_b f hf t ht j hj
  simp only [tgb, hal, h1, h2, decide_true, Bool.and_self, Bool.not_true, Bool.false_or, Bool.and_eq_true, beq_iff_eq, decide_eq_true_eq, bne_iff_ne] at h
  exact h
theorem tg_d : ∀ f, f < 36 → ∀ t, t < 36 → szI (nI (t / 6) - nI (f / 6)) = nI (dnN f t) ∧ szI (nI (t % 6) - nI (f % 6)) = nI (acN f t) ∧ dnN f t ≤ 5 ∧ acN f t ≤ 5 := by decide +kernel
theorem tg_a : ∀ f, f < 36 → ∀ t, t < 36 → ((dnN f t = 0 ∧ ¬ acN f t = 0) ∨ (¬ dnN f t = 0 ∧ acN f t = 0) ∨ (dnN f t = acN f t ∧ ¬ dnN f t = 0)) → aln f t = true := by decide +kernel
/-- whether the squares 1 to n paces from f towards t are empty -/
def clq (F : Nat → Nat) (f t : Nat) : Nat → Bool
  | 0 => true
  | n + 1 => clq F f t n && F (bst f t (n + 1)) == 0
def clr (F : Nat → Nat) (f t : Nat) : Bool := clq F f t (bln f t - 1)
def ldb (F : Nat → Nat) (i f t : Nat) : Bool := if i = 0 then dnN f t + acN f t == 1 else if i = 1 then dnN f t == 1 && acN f t == 1 else if i = 2 then dnN f t * acN f t == 2 else (if i = 3 then (dnN f t == 0 && acN f t != 0) || (dnN f t != 0 && acN f t == 0) else dnN f t == acN f t && dnN f t != 0) && clr F f t
def gop (F : Nat → Nat) (st f t : Nat) : Nat → Bool
  | 0 => false
  | n + 1 => gop F st f t n || (kn st n && (f != t && ldb F n f t))
theorem tb_kn1 : ∀ p, p < 128 → ∀ i, i < 5 → ((nI p >>> (nI i &&& 31)) &&& nI 1 = nI 1 ↔ kn p i = true) := by decide +kernel
def cmv (F : Nat → Nat) (a b : Nat) : Bool := sdo (F a) != sdo (F b) && gop F (stp (F a)) a b 5
theorem sdo_q : ∀ p, p < 128 → ∀ s, s < 128 → (oI (sdo p) = oI (sdo s) ↔ sdo p = sdo s) := by decide +kernel
/-- the last of n places that has b -/
def lls (b : Nat → Bool) : Nat → Option Nat
  | 0 => none
  | n + 1 => if b n then some n else lls b n
theorem lls_lt {b : Nat → Bool} : ∀ {n k : Nat}, lls b n = some k → k < n ∧ b k = true := by
  intro n
  induction n with
  | zero => intro k h; cases h
  | succ n ih =>
    intro k h
    unfold lls at h
    split at h
    · cases h; exact ⟨by omega, by assumption⟩
    · have := ih h
      exact ⟨by omega, this.2⟩
def mvo (F : Nat → Nat) (s : Nat) : Nat → Nat := smp (fun a => cnt (fun b => hld F a s && cmv F a b) 36)
theorem hld_ne {F : Nat → Nat} {k s : Nat} (h : hld F k s = true) : F k ≠ 0 := by
  intro h2
  rw [hld_f1 h2] at h
  cases h
theorem cnt_le {b : Nat → Bool} {n : Nat} : cnt b n ≤ n := by
  have := smp_le (f := fun k => if b k then 1 else 0) (c := 1) (n := n) (fun k _ => by split <;> omega)
  unfold cnt
  omega
theorem mvo_le {F : Nat → Nat} {s n : Nat} : mvo F s n ≤ 36 * n := smp_le (fun _ _ => cnt_le)
theorem lN_or0 {a : Nat} (h : a < 2 ^ 36) : lN a ||| lN 0 = lN a := by
  rw [lN_or (by omega) (by omega), Nat.or_zero]
/-- how a move is refused, as the model finds it -/
def whm (st ov : Bool) (F : Nat → Nat) (t a b : Nat) : Nat := if st then (if ov then 1 else if hld F a t then (if hld F b t then 3 else if cmv F a b then 0 else 4) else 2) else 1
theorem bI_eq1 {b : Bool} : bI b = nI 1 ↔ b = true := by cases b <;> decide
set_option maxRecDepth 20000 in
theorem ct_Mm_sign {E : zE} (hE : zEv E) {l : Launch} (hl : l.stackTraces = false) (x : Int32) (h : aH) (sz : Nat) : zM E l y_Mm_sign [.code y_Mm_sign c_Mm_sign 1 (some .int)] rm_Mm_sign [.int x] h sz (zRet (some (.int (sgI x))) h sz) := by
  refine zM_of hE hl (by decide +kernel) [some (.int x)] ⟨rfl, rfl, Nat.le_of_ble_eq_true rfl⟩ ?_
  intro G C q htb
  refine Z_run C it_Mm_sign 1 (f2 := (1, [some (.int x)], [.int x])) rfl ?_
  refine Z_br C it_Mm_sign rfl rfl (fun hc1 => ?_) (fun hc1 => ?_)
  · skip
    refine Z_run C it_Mm_sign 1 (f2 := (9, [some (.int x)], [.int x])) rfl ?_
    refine Z_br C it_Mm_sign rfl rfl (fun hc2 => ?_) (fun hc2 => ?_)
    · skip
      refine Z_run C it_Mm_sign 1 (f2 := (17, [some (.int x)], [.int (nI 0)])) rfl ?_
      exact Z_iret C q.e it_Mm_sign rfl (zRet_i (by simp [sgI, hc1, hc2])) (by decide) (by decide)
    · skip
      refine Z_run C it_Mm_sign 2 (f2 := (17, [some (.int x)], [.int ((-1))])) rfl ?_
      exact Z_iret C q.e it_Mm_sign rfl (zRet_i (by simp [sgI, hc1, hc2])) (by decide) (by decide)
  · skip
    refine Z_run C it_Mm_sign 2 (f2 := (17, [some (.int x)], [.int (nI 1)])) rfl ?_
    exact Z_iret C q.e it_Mm_sign rfl (zRet_i (by simp [sgI, hc1])) (by decide) (by decide)
set_option maxRecDepth 20000 in
theorem ct_Mm_size {E : zE} (hE : zEv E) {l : Launch} (hl : l.stackTraces = false) (x : Int32) (h : aH) (sz : Nat) : zM E l y_Mm_size [.code y_Mm_size c_Mm_size 1 (some .int)] rm_Mm_size [.int x] h sz (zRet (some (.int (szI x))) h sz) := by
  refine zM_of hE hl (by decide +kernel) [some (.int x)] ⟨rfl, rfl, Nat.le_of_ble_eq_true rfl⟩ ?_
  intro G C q htb
  refine Z_run C it_Mm_size 1 (f2 := (1, [some (.int x)], [.int x])) rfl ?_
  refine Z_br C it_Mm_size rfl rfl (fun hc1 => ?_) (fun hc1 => ?_)
  · skip
    refine Z_run C it_Mm_size 1 (f2 := (10, [some (.int x)], [.int x])) rfl ?_
    exact Z_iret C q.e it_Mm_size rfl (zRet_i (by simp [szI, hc1])) (by decide) (by decide)
  · skip
    refine Z_run C it_Mm_size 3 (f2 := (10, [some (.int x)], [.int (-x)])) rfl ?_
    exact Z_iret C q.e it_Mm_size rfl (zRet_i (by simp [szI, hc1])) (by decide) (by decide)
set_option maxRecDepth 20000 in
theorem lp_Mm_isClear_z {E : zE} {G : zG} {O : zO} (C : zCx E G c_Mm_isClear 8 y_Mm_isClear.cls y_Mm_isClear.name (some .boolean) rm_Mm_isClear) (q : zEndX E G O rm_Mm_isClear.cells rm_Mm_isClear.slots)  {D : zD} (hD : zDok E D) {V : Nat → Nat → Int32} {P : Nat → Nat → Value} {PH : aH} {F : Nat → Nat} (hF : okF F) (hz : ∀ k, k < 36 → V 38 k = nI (mo (F k))) {f t : Nat} (hf : f < 36) (ht : t < 36) (hal : aln f t = true) {sz : Nat} (hO : O (.inl (some (.int (bI (clr F f t))))) (HM D V P PH) sz) : ∀ (j i : Nat), bln f t - i < j → 1 ≤ i → i ≤ bln f t → Z E G (HM D V P PH) sz 0 0 (43, [some (.ref (D.1 37)), some (.int (nI f)), some (.int (nI t)), some (.int (nI 0)), some (.int (sDI f t)), some (.int (sAI f t)), some (.int (bI (clq F f t (i - 1)))), some (.int (nI (bst f t i)))], []) := by
  intro j
  induction j with
  | zero =>
    intro i h1 h2 h3
    omega
  | succ j ih =>
    intro i h1 h2 h3
    have hb5 := (tg_0 f hf t ht hal).2.2.1
    refine Z_run C it_Mm_isClear 2 (f2 := (46, [some (.ref (D.1 37)), some (.int (nI f)), some (.int (nI t)), some (.int (nI 0)), some (.int (sDI f t)), some (.int (sAI f t)), some (.int (bI (clq F f t (i - 1)))), some (.int (nI (bst f t i)))], [.int (nI t), .int (nI (bst f t i))])) rfl ?_
    refine Z_br C it_Mm_isClear rfl rfl (fun hc1 => ?_) (fun hc1 => ?_)
    · have h9 : i = bln f t := Classical.byContradiction (fun z9 => (tg_1 f hf t ht hal i (by omega) (by omega) (by omega)).2.2 (by have z8 := hc1; exact nI_inj32 (by have := (tg_1 f hf t ht hal i (by omega) (by omega) (by omega)).2.1; omega) (by omega) z8))
      have hO9 : O (.inl (some (.int (bI (clq F f t (i - 1)))))) (HM D V P PH) sz := by rw [h9]; exact hO
      refine Z_run C it_Mm_isClear 1 (f2 := (103, [some (.ref (D.1 37)), some (.int (nI f)), some (.int (nI t)), some (.int (nI 0)), some (.int (sDI f t)), some (.int (sAI f t)), some (.int (bI (clq F f t (i - 1)))), some (.int (nI (bst f t i)))], [.int (bI (clq F f t (i - 1)))])) rfl ?_
      exact Z_zret C q.e it_Mm_isClear rfl bI_v (hO9) (by decide) (by decide)
    · have hne : ¬ i = bln f t := fun z9 => hc1 (by rw [z9, (tg_0 f hf t ht hal).2.2.2])
      obtain ⟨hs1, hs2, hs3⟩ := tg_1 f hf t ht hal i (by have := (tg_0 f hf t ht hal).2.2.1; omega) (by omega) (by omega)
      have hFb := hF _ hs2
      have hmo := mo_lt hFb
      refine Z_run C it_Mm_isClear 1 (f2 := (51, [some (.ref (D.1 37)), some (.int (nI f)), some (.int (nI t)), some (.int (nI 0)), some (.int (sDI f t)), some (.int (sAI f t)), some (.int (bI (clq F f t (i - 1)))), some (.int (nI (bst f t i)))], [.int (bI (clq F f t (i - 1)))])) rfl ?_
      refine Z_br C it_Mm_isClear rfl rfl (fun hc2 => ?_) (fun hc2 => ?_)
      · replace hc2 := bI_0.mp hc2
        refine Z_run C it_Mm_isClear 11 (f2 := (43, [some (.ref (D.1 37)), some (.int (nI f)), some (.int (nI t)), some (.int (nI 0)), some (.int (sDI f t)), some (.int (sAI f t)), some (.int (nI 0)), some (.int (nI (bst f t i) + ((nI 6 * sDI f t) + sAI f t)))], [])) rfl ?_
        have z6 : clq F f t i = false := by have h0 : i = (i - 1) + 1 := (by omega); rw [h0]; unfold clq; rw [← h0]; first | (simp [hc2]; done) | (simp [hc2, hc4]; done)
        have e6 : nI 0 = bI (clq F f t i) := by rw [z6]; rfl
        rw [hs1]
        have e1 : nI 0 = bI (clq F f t i) := e6
        refine (congrArg (fun z9 => Z E G (HM D V P PH) sz 0 0 (43, [some (.ref (D.1 37)), some (.int (nI f)), some (.int (nI t)), some (.int (nI 0)), some (.int (sDI f t)), some (.int (sAI f t)), some (.int z9), some (.int (nI (bst f t (i + 1))))], [])) e1).mpr ?_
        exact ih (i + 1) (by omega) (by omega) (by omega)
      · replace hc2 := bI_1.mp hc2
        refine Z_run C it_Mm_isClear 1 (f2 := (55, [some (.ref (D.1 37)), some (.int (nI f)), some (.int (nI t)), some (.int (nI 0)), some (.int (sDI f t)), some (.int (sAI f t)), some (.int (bI (clq F f t (i - 1)))), some (.int (nI (bst f t i)))], [.int (nI 0)])) rfl ?_
        refine Z_br C it_Mm_isClear rfl rfl (fun hc3 => ?_) (fun hc3 => absurd (by decide) hc3)
        refine Z_run C it_Mm_isClear 1 (f2 := (69, [some (.ref (D.1 37)), some (.int (nI f)), some (.int (nI t)), some (.int (nI 0)), some (.int (sDI f t)), some (.int (sAI f t)), some (.int (bI (clq F f t (i - 1)))), some (.int (nI (bst f t i)))], [.ref (D.1 37)])) rfl ?_
        refine Zm_get C it_Mm_isClear hD rfl 37 wi_Mm (by decide) rfl rfl (j := 0) (by decide) fl_Mm_7 (v := .ref (D.1 38)) rfl ?_
        refine Z_run C it_Mm_isClear 1 (f2 := (74, [some (.ref (D.1 37)), some (.int (nI f)), some (.int (nI t)), some (.int (nI 0)), some (.int (sDI f t)), some (.int (sAI f t)), some (.int (bI (clq F f t (i - 1)))), some (.int (nI (bst f t i)))], [.int (nI (bst f t i)), .ref (D.1 38)])) rfl ?_
        refine Zm_ald C it_Mm_isClear hD 38 10 rfl (by decide) rfl (by decide) (by decide) rfl (j := bst f t i) (by omega) (v := .int (nI (mo (F (bst f t i))))) (congrArg Value.int (hz (bst f t i) (by omega))) ?_
        refine Z_br C it_Mm_isClear rfl rfl (fun hc4 => ?_) (fun hc4 => ?_)
        · replace hc4 : ¬ F (bst f t i) = 0 := fun z9 => hc4 (by rw [z9]; rfl)
          refine Z_run C it_Mm_isClear 11 (f2 := (43, [some (.ref (D.1 37)), some (.int (nI f)), some (.int (nI t)), some (.int (nI 0)), some (.int (sDI f t)), some (.int (sAI f t)), some (.int (nI 0)), some (.int (nI (bst f t i) + ((nI 6 * sDI f t) + sAI f t)))], [])) rfl ?_
          have z6 : clq F f t i = false := by have h0 : i = (i - 1) + 1 := (by omega); rw [h0]; unfold clq; rw [← h0]; first | (simp [hc2]; done) | (simp [hc2, hc4]; done)
          have e6 : nI 0 = bI (clq F f t i) := by rw [z6]; rfl
          rw [hs1]
          have e2 : nI 0 = bI (clq F f t i) := e6
          refine (congrArg (fun z9 => Z E G (HM D V P PH) sz 0 0 (43, [some (.ref (D.1 37)), some (.int (nI f)), some (.int (nI t)), some (.int (nI 0)), some (.int (sDI f t)), some (.int (sAI f t)), some (.int z9), some (.int (nI (bst f t (i + 1))))], [])) e2).mpr ?_
          exact ih (i + 1) (by omega) (by omega) (by omega)
        · replace hc4 : F (bst f t i) = 0 := mo_0.mp ((nI_e0 (by omega)).mp (Classical.not_not.mp hc4))
          refine Z_run C it_Mm_isClear 12 (f2 := (43, [some (.ref (D.1 37)), some (.int (nI f)), some (.int (nI t)), some (.int (nI 0)), some (.int (sDI f t)), some (.int (sAI f t)), some (.int (nI 1)), some (.int (nI (bst f t i) + ((nI 6 * sDI f t) + sAI f t)))], [])) rfl ?_
          have z6 : clq F f t i = true := by have h0 : i = (i - 1) + 1 := (by omega); rw [h0]; unfold clq; rw [← h0]; first | (simp [hc2]; done) | (simp [hc2, hc4]; done)
          have e6 : nI 1 = bI (clq F f t i) := by rw [z6]; rfl
          rw [hs1]
          have e3 : nI 1 = bI (clq F f t i) := e6
          refine (congrArg (fun z9 => Z E G (HM D V P PH) sz 0 0 (43, [some (.ref (D.1 37)), some (.int (nI f)), some (.int (nI t)), some (.int (nI 0)), some (.int (sDI f t)), some (.int (sAI f t)), some (.int z9), some (.int (nI (bst f t (i + 1))))], [])) e3).mpr ?_
          exact ih (i + 1) (by omega) (by omega) (by omega)
set_option maxRecDepth 20000 in
theorem ct_Mm_isClear_z {E : zE} (hE : zEv E) {l : Launch} (hl : l.stackTraces = false) {D : zD} (hD : zDok E D) (V : Nat → Nat → Int32) (P : Nat → Nat → Value) (PH : aH) (F : Nat → Nat) (hF : okF F) (hz : ∀ k, k < 36 → V 38 k = nI (mo (F k))) (f : Nat) (hf : f < 36) (t : Nat) (ht : t < 36) (hal : aln f t = true) (sz : Nat) : zM E l y_Mm_isClear [.code y_Mm_isClear c_Mm_isClear 8 (some .boolean)] rm_Mm_isClear [.ref (D.1 37), .int (nI f), .int (nI t), .int (nI 0)] (HM D V P PH) sz (zRet (some (.int (bI (clr F f t)))) (HM D V P PH) sz) := by
  refine zM_of hE hl (by decide +kernel) [some (.ref (D.1 37)), some (.int (nI f)), some (.int (nI t)), some (.int (nI 0)), none, none, none, none] ⟨rfl, rfl, Nat.le_of_ble_eq_true rfl⟩ ?_
  intro G C q htb
  refine Z_run C it_Mm_isClear 3 (f2 := (4, [some (.ref (D.1 37)), some (.int (nI f)), some (.int (nI t)), some (.int (nI 0)), none, none, none, none], [.int (nI t / nI 6)])) rfl ?_
  rw [nI_div (a := t) (d := 6) (by omega) (by omega) (by omega)]
  refine Z_run C it_Mm_isClear 3 (f2 := (8, [some (.ref (D.1 37)), some (.int (nI f)), some (.int (nI t)), some (.int (nI 0)), none, none, none, none], [.int (nI f / nI 6), .int (nI (t / 6))])) rfl ?_
  rw [nI_div (a := f) (d := 6) (by omega) (by omega) (by omega)]
  refine Z_run C it_Mm_isClear 1 (f2 := (9, [some (.ref (D.1 37)), some (.int (nI f)), some (.int (nI t)), some (.int (nI 0)), none, none, none, none], [.int (nI (t / 6) - nI (f / 6))])) rfl ?_
  refine Zr_callS C it_Mm_isClear rfl p_Mm_sign ml_Mm_61 [.int (nI (t / 6) - nI (f / 6))] (ct_Mm_sign C.ev C.l (nI (t / 6) - nI (f / 6)) (HM D V P PH) _) rfl rfl ⟨by decide, by decide, by decide, by decide⟩ (Nat.le_of_ble_eq_true rfl) rfl ?_
  show Z E G (HM D V P PH) sz 0 0 (12, [some (.ref (D.1 37)), some (.int (nI f)), some (.int (nI t)), some (.int (nI 0)), none, none, none, none], [.int (sgI (nI (t / 6) - nI (f / 6)))])
  refine Z_run C it_Mm_isClear 1 (f2 := (14, [some (.ref (D.1 37)), some (.int (nI f)), some (.int (nI t)), some (.int (nI 0)), some (.int (sgI (nI (t / 6) - nI (f / 6)))), none, none, none], [])) rfl ?_
  have e414 : sgI (nI (t / 6) - nI (f / 6)) = sDI f t := rfl
  rw [e414]
  refine Z_run C it_Mm_isClear 3 (f2 := (18, [some (.ref (D.1 37)), some (.int (nI f)), some (.int (nI t)), some (.int (nI 0)), some (.int (sDI f t)), none, none, none], [.int (nI t % nI 6)])) rfl ?_
  rw [nI_mod (a := t) (d := 6) (by omega) (by omega) (by omega)]
  refine Z_run C it_Mm_isClear 3 (f2 := (22, [some (.ref (D.1 37)), some (.int (nI f)), some (.int (nI t)), some (.int (nI 0)), some (.int (sDI f t)), none, none, none], [.int (nI f % nI 6), .int (nI (t % 6))])) rfl ?_
  rw [nI_mod (a := f) (d := 6) (by omega) (by omega) (by omega)]
  refine Z_run C it_Mm_isClear 1 (f2 := (23, [some (.ref (D.1 37)), some (.int (nI f)), some (.int (nI t)), some (.int (nI 0)), some (.int (sDI f t)), none, none, none], [.int (nI (t % 6) - nI (f % 6))])) rfl ?_
  refine Zr_callS C it_Mm_isClear rfl p_Mm_sign ml_Mm_61 [.int (nI (t % 6) - nI (f % 6))] (ct_Mm_sign C.ev C.l (nI (t % 6) - nI (f % 6)) (HM D V P PH) _) rfl rfl ⟨by decide, by decide, by decide, by decide⟩ (Nat.le_of_ble_eq_true rfl) rfl ?_
  show Z E G (HM D V P PH) sz 0 0 (26, [some (.ref (D.1 37)), some (.int (nI f)), some (.int (nI t)), some (.int (nI 0)), some (.int (sDI f t)), none, none, none], [.int (sgI (nI (t % 6) - nI (f % 6)))])
  refine Z_run C it_Mm_isClear 1 (f2 := (28, [some (.ref (D.1 37)), some (.int (nI f)), some (.int (nI t)), some (.int (nI 0)), some (.int (sDI f t)), some (.int (sgI (nI (t % 6) - nI (f % 6)))), none, none], [])) rfl ?_
  have e528 : sgI (nI (t % 6) - nI (f % 6)) = sAI f t := rfl
  rw [e528]
  refine Z_run C it_Mm_isClear 10 (f2 := (43, [some (.ref (D.1 37)), some (.int (nI f)), some (.int (nI t)), some (.int (nI 0)), some (.int (sDI f t)), some (.int (sAI f t)), some (.int (nI 1)), some (.int ((nI f + (nI 6 * sDI f t)) + sAI f t))], [])) rfl ?_
  obtain ⟨hk1, hk2, hk3, hk4⟩ := tg_0 f hf t ht hal
  rw [hk1]
  exact lp_Mm_isClear_z C q hD hF hz hf ht hal ⟨rfl, rfl, rfl⟩ (bln f t) 1 (by omega) (by omega) (by omega)
set_option maxRecDepth 20000 in
theorem lp_Mm_isClear_s {E : zE} {G : zG} {O : zO} (C : zCx E G c_Mm_isClear 8 y_Mm_isClear.cls y_Mm_isClear.name (some .boolean) rm_Mm_isClear) (q : zEndX E G O rm_Mm_isClear.cells rm_Mm_isClear.slots)  {D : zD} (hD : zDok E D) {V : Nat → Nat → Int32} {P : Nat → Nat → Value} {PH : aH} {F : Nat → Nat} (hF : okF F) (hz : ∀ k, k < 36 → V 41 k = nI (mo (F k))) {f t : Nat} (hf : f < 36) (ht : t < 36) (hal : aln f t = true) {sz : Nat} (hO : O (.inl (some (.int (bI (clr F f t))))) (HM D V P PH) sz) : ∀ (j i : Nat), bln f t - i < j → 1 ≤ i → i ≤ bln f t → Z E G (HM D V P PH) sz 0 0 (43, [some (.ref (D.1 37)), some (.int (nI f)), some (.int (nI t)), some (.int (nI 1)), some (.int (sDI f t)), some (.int (sAI f t)), some (.int (bI (clq F f t (i - 1)))), some (.int (nI (bst f t i)))], []) := by
  intro j
  induction j with
  | zero =>
    intro i h1 h2 h3
    omega
  | succ j ih =>
    intro i h1 h2 h3
    have hb5 := (tg_0 f hf t ht hal).2.2.1
    refine Z_run C it_Mm_isClear 2 (f2 := (46, [some (.ref (D.1 37)), some (.int (nI f)), some (.int (nI t)), some (.int (nI 1)), some (.int (sDI f t)), some (.int (sAI f t)), some (.int (bI (clq F f t (i - 1)))), some (.int (nI (bst f t i)))], [.int (nI t), .int (nI (bst f t i))])) rfl ?_
    refine Z_br C it_Mm_isClear rfl rfl (fun hc1 => ?_) (fun hc1 => ?_)
    · have h9 : i = bln f t := Classical.byContradiction (fun z9 => (tg_1 f hf t ht hal i (by omega) (by omega) (by omega)).2.2 (by have z8 := hc1; exact nI_inj32 (by have := (tg_1 f hf t ht hal i (by omega) (by omega) (by omega)).2.1; omega) (by omega) z8))
      have hO9 : O (.inl (some (.int (bI (clq F f t (i - 1)))))) (HM D V P PH) sz := by rw [h9]; exact hO
      refine Z_run C it_Mm_isClear 1 (f2 := (103, [some (.ref (D.1 37)), some (.int (nI f)), some (.int (nI t)), some (.int (nI 1)), some (.int (sDI f t)), some (.int (sAI f t)), some (.int (bI (clq F f t (i - 1)))), some (.int (nI (bst f t i)))], [.int (bI (clq F f t (i - 1)))])) rfl ?_
      exact Z_zret C q.e it_Mm_isClear rfl bI_v (hO9) (by decide) (by decide)
    · have hne : ¬ i = bln f t := fun z9 => hc1 (by rw [z9, (tg_0 f hf t ht hal).2.2.2])
      obtain ⟨hs1, hs2, hs3⟩ := tg_1 f hf t ht hal i (by have := (tg_0 f hf t ht hal).2.2.1; omega) (by omega) (by omega)
      have hFb := hF _ hs2
      have hmo := mo_lt hFb
      refine Z_run C it_Mm_isClear 1 (f2 := (51, [some (.ref (D.1 37)), some (.int (nI f)), some (.int (nI t)), some (.int (nI 1)), some (.int (sDI f t)), some (.int (sAI f t)), some (.int (bI (clq F f t (i - 1)))), some (.int (nI (bst f t i)))], [.int (bI (clq F f t (i - 1)))])) rfl ?_
      refine Z_br C it_Mm_isClear rfl rfl (fun hc2 => ?_) (fun hc2 => ?_)
      · replace hc2 := bI_0.mp hc2
        refine Z_run C it_Mm_isClear 11 (f2 := (43, [some (.ref (D.1 37)), some (.int (nI f)), some (.int (nI t)), some (.int (nI 1)), some (.int (sDI f t)), some (.int (sAI f t)), some (.int (nI 0)), some (.int (nI (bst f t i) + ((nI 6 * sDI f t) + sAI f t)))], [])) rfl ?_
        have z6 : clq F f t i = false := by have h0 : i = (i - 1) + 1 := (by omega); rw [h0]; unfold clq; rw [← h0]; first | (simp [hc2]; done) | (simp [hc2, hc4]; done)
        have e6 : nI 0 = bI (clq F f t i) := by rw [z6]; rfl
        rw [hs1]
        have e1 : nI 0 = bI (clq F f t i) := e6
        refine (congrArg (fun z9 => Z E G (HM D V P PH) sz 0 0 (43, [some (.ref (D.1 37)), some (.int (nI f)), some (.int (nI t)), some (.int (nI 1)), some (.int (sDI f t)), some (.int (sAI f t)), some (.int z9), some (.int (nI (bst f t (i + 1))))], [])) e1).mpr ?_
        exact ih (i + 1) (by omega) (by omega) (by omega)
      · replace hc2 := bI_1.mp hc2
        refine Z_run C it_Mm_isClear 1 (f2 := (55, [some (.ref (D.1 37)), some (.int (nI f)), some (.int (nI t)), some (.int (nI 1)), some (.int (sDI f t)), some (.int (sAI f t)), some (.int (bI (clq F f t (i - 1)))), some (.int (nI (bst f t i)))], [.int (nI 1)])) rfl ?_
        refine Z_br C it_Mm_isClear rfl rfl (fun hc3 => absurd hc3 (by decide)) (fun hc3 => ?_)
        refine Z_run C it_Mm_isClear 1 (f2 := (59, [some (.ref (D.1 37)), some (.int (nI f)), some (.int (nI t)), some (.int (nI 1)), some (.int (sDI f t)), some (.int (sAI f t)), some (.int (bI (clq F f t (i - 1)))), some (.int (nI (bst f t i)))], [.ref (D.1 37)])) rfl ?_
        refine Zm_get C it_Mm_isClear hD rfl 37 wi_Mm (by decide) rfl rfl (j := 4) (by decide) fl_Mm_19 (v := .ref (D.1 41)) rfl ?_
        refine Z_run C it_Mm_isClear 1 (f2 := (64, [some (.ref (D.1 37)), some (.int (nI f)), some (.int (nI t)), some (.int (nI 1)), some (.int (sDI f t)), some (.int (sAI f t)), some (.int (bI (clq F f t (i - 1)))), some (.int (nI (bst f t i)))], [.int (nI (bst f t i)), .ref (D.1 41)])) rfl ?_
        refine Zm_ald C it_Mm_isClear hD 41 10 rfl (by decide) rfl (by decide) (by decide) rfl (j := bst f t i) (by omega) (v := .int (nI (mo (F (bst f t i))))) (congrArg Value.int (hz (bst f t i) (by omega))) ?_
        refine Z_run C it_Mm_isClear 1 (f2 := (75, [some (.ref (D.1 37)), some (.int (nI f)), some (.int (nI t)), some (.int (nI 1)), some (.int (sDI f t)), some (.int (sAI f t)), some (.int (bI (clq F f t (i - 1)))), some (.int (nI (bst f t i)))], [.int (nI (mo (F (bst f t i))))])) rfl ?_
        refine Z_br C it_Mm_isClear rfl rfl (fun hc4 => ?_) (fun hc4 => ?_)
        · replace hc4 : ¬ F (bst f t i) = 0 := fun z9 => hc4 (by rw [z9]; rfl)
          refine Z_run C it_Mm_isClear 11 (f2 := (43, [some (.ref (D.1 37)), some (.int (nI f)), some (.int (nI t)), some (.int (nI 1)), some (.int (sDI f t)), some (.int (sAI f t)), some (.int (nI 0)), some (.int (nI (bst f t i) + ((nI 6 * sDI f t) + sAI f t)))], [])) rfl ?_
          have z6 : clq F f t i = false := by have h0 : i = (i - 1) + 1 := (by omega); rw [h0]; unfold clq; rw [← h0]; first | (simp [hc2]; done) | (simp [hc2, hc4]; done)
          have e6 : nI 0 = bI (clq F f t i) := by rw [z6]; rfl
          rw [hs1]
          have e2 : nI 0 = bI (clq F f t i) := e6
          refine (congrArg (fun z9 => Z E G (HM D V P PH) sz 0 0 (43, [some (.ref (D.1 37)), some (.int (nI f)), some (.int (nI t)), some (.int (nI 1)), some (.int (sDI f t)), some (.int (sAI f t)), some (.int z9), some (.int (nI (bst f t (i + 1))))], [])) e2).mpr ?_
          exact ih (i + 1) (by omega) (by omega) (by omega)
        · replace hc4 : F (bst f t i) = 0 := mo_0.mp ((nI_e0 (by omega)).mp (Classical.not_not.mp hc4))
          refine Z_run C it_Mm_isClear 12 (f2 := (43, [some (.ref (D.1 37)), some (.int (nI f)), some (.int (nI t)), some (.int (nI 1)), some (.int (sDI f t)), some (.int (sAI f t)), some (.int (nI 1)), some (.int (nI (bst f t i) + ((nI 6 * sDI f t) + sAI f t)))], [])) rfl ?_
          have z6 : clq F f t i = true := by have h0 : i = (i - 1) + 1 := (by omega); rw [h0]; unfold clq; rw [← h0]; first | (simp [hc2]; done) | (simp [hc2, hc4]; done)
          have e6 : nI 1 = bI (clq F f t i) := by rw [z6]; rfl
          rw [hs1]
          have e3 : nI 1 = bI (clq F f t i) := e6
          refine (congrArg (fun z9 => Z E G (HM D V P PH) sz 0 0 (43, [some (.ref (D.1 37)), some (.int (nI f)), some (.int (nI t)), some (.int (nI 1)), some (.int (sDI f t)), some (.int (sAI f t)), some (.int z9), some (.int (nI (bst f t (i + 1))))], [])) e3).mpr ?_
          exact ih (i + 1) (by omega) (by omega) (by omega)
set_option maxRecDepth 20000 in
theorem ct_Mm_isClear_s {E : zE} (hE : zEv E) {l : Launch} (hl : l.stackTraces = false) {D : zD} (hD : zDok E D) (V : Nat → Nat → Int32) (P : Nat → Nat → Value) (PH : aH) (F : Nat → Nat) (hF : okF F) (hz : ∀ k, k < 36 → V 41 k = nI (mo (F k))) (f : Nat) (hf : f < 36) (t : Nat) (ht : t < 36) (hal : aln f t = true) (sz : Nat) : zM E l y_Mm_isClear [.code y_Mm_isClear c_Mm_isClear 8 (some .boolean)] rm_Mm_isClear [.ref (D.1 37), .int (nI f), .int (nI t), .int (nI 1)] (HM D V P PH) sz (zRet (some (.int (bI (clr F f t)))) (HM D V P PH) sz) := by
  refine zM_of hE hl (by decide +kernel) [some (.ref (D.1 37)), some (.int (nI f)), some (.int (nI t)), some (.int (nI 1)), none, none, none, none] ⟨rfl, rfl, Nat.le_of_ble_eq_true rfl⟩ ?_
  intro G C q htb
  refine Z_run C it_Mm_isClear 3 (f2 := (4, [some (.ref (D.1 37)), some (.int (nI f)), some (.int (nI t)), some (.int (nI 1)), none, none, none, none], [.int (nI t / nI 6)])) rfl ?_
  rw [nI_div (a := t) (d := 6) (by omega) (by omega) (by omega)]
  refine Z_run C it_Mm_isClear 3 (f2 := (8, [some (.ref (D.1 37)), some (.int (nI f)), some (.int (nI t)), some (.int (nI 1)), none, none, none, none], [.int (nI f / nI 6), .int (nI (t / 6))])) rfl ?_
  rw [nI_div (a := f) (d := 6) (by omega) (by omega) (by omega)]
  refine Z_run C it_Mm_isClear 1 (f2 := (9, [some (.ref (D.1 37)), some (.int (nI f)), some (.int (nI t)), some (.int (nI 1)), none, none, none, none], [.int (nI (t / 6) - nI (f / 6))])) rfl ?_
  refine Zr_callS C it_Mm_isClear rfl p_Mm_sign ml_Mm_61 [.int (nI (t / 6) - nI (f / 6))] (ct_Mm_sign C.ev C.l (nI (t / 6) - nI (f / 6)) (HM D V P PH) _) rfl rfl ⟨by decide, by decide, by decide, by decide⟩ (Nat.le_of_ble_eq_true rfl) rfl ?_
  show Z E G (HM D V P PH) sz 0 0 (12, [some (.ref (D.1 37)), some (.int (nI f)), some (.int (nI t)), some (.int (nI 1)), none, none, none, none], [.int (sgI (nI (t / 6) - nI (f / 6)))])
  refine Z_run C it_Mm_isClear 1 (f2 := (14, [some (.ref (D.1 37)), some (.int (nI f)), some (.int (nI t)), some (.int (nI 1)), some (.int (sgI (nI (t / 6) - nI (f / 6)))), none, none, none], [])) rfl ?_
  have e414 : sgI (nI (t / 6) - nI (f / 6)) = sDI f t := rfl
  rw [e414]
  refine Z_run C it_Mm_isClear 3 (f2 := (18, [some (.ref (D.1 37)), some (.int (nI f)), some (.int (nI t)), some (.int (nI 1)), some (.int (sDI f t)), none, none, none], [.int (nI t % nI 6)])) rfl ?_
  rw [nI_mod (a := t) (d := 6) (by omega) (by omega) (by omega)]
  refine Z_run C it_Mm_isClear 3 (f2 := (22, [some (.ref (D.1 37)), some (.int (nI f)), some (.int (nI t)), some (.int (nI 1)), some (.int (sDI f t)), none, none, none], [.int (nI f % nI 6), .int (nI (t % 6))])) rfl ?_
  rw [nI_mod (a := f) (d := 6) (by omega) (by omega) (by omega)]
  refine Z_run C it_Mm_isClear 1 (f2 := (23, [some (.ref (D.1 37)), some (.int (nI f)), some (.int (nI t)), some (.int (nI 1)), some (.int (sDI f t)), none, none, none], [.int (nI (t % 6) - nI (f % 6))])) rfl ?_
  refine Zr_callS C it_Mm_isClear rfl p_Mm_sign ml_Mm_61 [.int (nI (t % 6) - nI (f % 6))] (ct_Mm_sign C.ev C.l (nI (t % 6) - nI (f % 6)) (HM D V P PH) _) rfl rfl ⟨by decide, by decide, by decide, by decide⟩ (Nat.le_of_ble_eq_true rfl) rfl ?_
  show Z E G (HM D V P PH) sz 0 0 (26, [some (.ref (D.1 37)), some (.int (nI f)), some (.int (nI t)), some (.int (nI 1)), some (.int (sDI f t)), none, none, none], [.int (sgI (nI (t % 6) - nI (f % 6)))])
  refine Z_run C it_Mm_isClear 1 (f2 := (28, [some (.ref (D.1 37)), some (.int (nI f)), some (.int (nI t)), some (.int (nI 1)), some (.int (sDI f t)), some (.int (sgI (nI (t % 6) - nI (f % 6)))), none, none], [])) rfl ?_
  have e528 : sgI (nI (t % 6) - nI (f % 6)) = sAI f t := rfl
  rw [e528]
  refine Z_run C it_Mm_isClear 10 (f2 := (43, [some (.ref (D.1 37)), some (.int (nI f)), some (.int (nI t)), some (.int (nI 1)), some (.int (sDI f t)), some (.int (sAI f t)), some (.int (nI 1)), some (.int ((nI f + (nI 6 * sDI f t)) + sAI f t))], [])) rfl ?_
  obtain ⟨hk1, hk2, hk3, hk4⟩ := tg_0 f hf t ht hal
  rw [hk1]
  exact lp_Mm_isClear_s C q hD hF hz hf ht hal ⟨rfl, rfl, rfl⟩ (bln f t) 1 (by omega) (by omega) (by omega)
set_option maxRecDepth 20000 in
theorem ct_Mm_leadsBy_z {E : zE} (hE : zEv E) {l : Launch} (hl : l.stackTraces = false) {D : zD} (hD : zDok E D) (V : Nat → Nat → Int32) (P : Nat → Nat → Value) (PH : aH) (F : Nat → Nat) (hF : okF F) (hz : ∀ k, k < 36 → V 38 k = nI (mo (F k))) (k : Nat) (hk : k < 5) (f : Nat) (hf : f < 36) (t : Nat) (ht : t < 36) (sz : Nat) : zM E l y_Mm_leadsBy [.code y_Mm_leadsBy c_Mm_leadsBy 8 (some .boolean)] rm_Mm_leadsBy [.ref (D.1 37), .int (nI k), .int (nI f), .int (nI t), .int (nI 0)] (HM D V P PH) sz (zRet (some (.int (bI (ldb F k f t)))) (HM D V P PH) sz) := by
  refine zM_of hE hl (by decide +kernel) [some (.ref (D.1 37)), some (.int (nI k)), some (.int (nI f)), some (.int (nI t)), some (.int (nI 0)), none, none, none] ⟨rfl, rfl, Nat.le_of_ble_eq_true rfl⟩ ?_
  intro G C q htb
  obtain ⟨hd1, hd2, hd3, hd4⟩ := tg_d f hf t ht
  have hm2 : dnN f t * acN f t ≤ 25 := Nat.mul_le_mul hd3 hd4
  refine Z_run C it_Mm_leadsBy 3 (f2 := (4, [some (.ref (D.1 37)), some (.int (nI k)), some (.int (nI f)), some (.int (nI t)), some (.int (nI 0)), none, none, none], [.int (nI t / nI 6)])) rfl ?_
  rw [nI_div (a := t) (d := 6) (by omega) (by omega) (by omega)]
  refine Z_run C it_Mm_leadsBy 3 (f2 := (8, [some (.ref (D.1 37)), some (.int (nI k)), some (.int (nI f)), some (.int (nI t)), some (.int (nI 0)), none, none, none], [.int (nI f / nI 6), .int (nI (t / 6))])) rfl ?_
  rw [nI_div (a := f) (d := 6) (by omega) (by omega) (by omega)]
  refine Z_run C it_Mm_leadsBy 1 (f2 := (9, [some (.ref (D.1 37)), some (.int (nI k)), some (.int (nI f)), some (.int (nI t)), some (.int (nI 0)), none, none, none], [.int (nI (t / 6) - nI (f / 6))])) rfl ?_
  refine Zr_callS C it_Mm_leadsBy rfl p_Mm_size ml_Mm_64 [.int (nI (t / 6) - nI (f / 6))] (ct_Mm_size C.ev C.l (nI (t / 6) - nI (f / 6)) (HM D V P PH) _) rfl rfl ⟨by decide, by decide, by decide, by decide⟩ (Nat.le_of_ble_eq_true rfl) rfl ?_
  show Z E G (HM D V P PH) sz 0 0 (12, [some (.ref (D.1 37)), some (.int (nI k)), some (.int (nI f)), some (.int (nI t)), some (.int (nI 0)), none, none, none], [.int (szI (nI (t / 6) - nI (f / 6)))])
  refine Z_run C it_Mm_leadsBy 1 (f2 := (14, [some (.ref (D.1 37)), some (.int (nI k)), some (.int (nI f)), some (.int (nI t)), some (.int (nI 0)), some (.int (szI (nI (t / 6) - nI (f / 6)))), none, none], [])) rfl ?_
  rw [(tg_d f hf t ht).1]
  refine Z_run C it_Mm_leadsBy 3 (f2 := (18, [some (.ref (D.1 37)), some (.int (nI k)), some (.int (nI f)), some (.int (nI t)), some (.int (nI 0)), some (.int (nI (dnN f t))), none, none], [.int (nI t % nI 6)])) rfl ?_
  rw [nI_mod (a := t) (d := 6) (by omega) (by omega) (by omega)]
  refine Z_run C it_Mm_leadsBy 3 (f2 := (22, [some (.ref (D.1 37)), some (.int (nI k)), some (.int (nI f)), some (.int (nI t)), some (.int (nI 0)), some (.int (nI (dnN f t))), none, none], [.int (nI f % nI 6), .int (nI (t % 6))])) rfl ?_
  rw [nI_mod (a := f) (d := 6) (by omega) (by omega) (by omega)]
  refine Z_run C it_Mm_leadsBy 1 (f2 := (23, [some (.ref (D.1 37)), some (.int (nI k)), some (.int (nI f)), some (.int (nI t)), some (.int (nI 0)), some (.int (nI (dnN f t))), none, none], [.int (nI (t % 6) - nI (f % 6))])) rfl ?_
  refine Zr_callS C it_Mm_leadsBy rfl p_Mm_size ml_Mm_64 [.int (nI (t % 6) - nI (f % 6))] (ct_Mm_size C.ev C.l (nI (t % 6) - nI (f % 6)) (HM D V P PH) _) rfl rfl ⟨by decide, by decide, by decide, by decide⟩ (Nat.le_of_ble_eq_true rfl) rfl ?_
  show Z E G (HM D V P PH) sz 0 0 (26, [some (.ref (D.1 37)), some (.int (nI k)), some (.int (nI f)), some (.int (nI t)), some (.int (nI 0)), some (.int (nI (dnN f t))), none, none], [.int (szI (nI (t % 6) - nI (f % 6)))])
  refine Z_run C it_Mm_leadsBy 1 (f2 := (28, [some (.ref (D.1 37)), some (.int (nI k)), some (.int (nI f)), some (.int (nI t)), some (.int (nI 0)), some (.int (nI (dnN f t))), some (.int (szI (nI (t % 6) - nI (f % 6)))), none], [])) rfl ?_
  rw [(tg_d f hf t ht).2.1]
  refine Z_run C it_Mm_leadsBy 1 (f2 := (29, [some (.ref (D.1 37)), some (.int (nI k)), some (.int (nI f)), some (.int (nI t)), some (.int (nI 0)), some (.int (nI (dnN f t))), some (.int (nI (acN f t))), none], [.int (nI k)])) rfl ?_
  refine Z_br C it_Mm_leadsBy rfl rfl (fun hc1 => ?_) (fun hc1 => ?_)
  · replace hc1 : ¬ _ := fun z9 => hc1 ((nI_e0 (a := k) (by omega)).mpr z9)
    refine Z_run C it_Mm_leadsBy 2 (f2 := (49, [some (.ref (D.1 37)), some (.int (nI k)), some (.int (nI f)), some (.int (nI t)), some (.int (nI 0)), some (.int (nI (dnN f t))), some (.int (nI (acN f t))), none], [.int (nI 1), .int (nI k)])) rfl ?_
    refine Z_br C it_Mm_leadsBy rfl rfl (fun hc2 => ?_) (fun hc2 => ?_)
    · replace hc2 : ¬ _ := fun z9 => hc2 ((nI_eq (a := k) (b := 1) (by omega) (by omega)).mpr z9)
      refine Z_run C it_Mm_leadsBy 2 (f2 := (72, [some (.ref (D.1 37)), some (.int (nI k)), some (.int (nI f)), some (.int (nI t)), some (.int (nI 0)), some (.int (nI (dnN f t))), some (.int (nI (acN f t))), none], [.int (nI 2), .int (nI k)])) rfl ?_
      refine Z_br C it_Mm_leadsBy rfl rfl (fun hc3 => ?_) (fun hc3 => ?_)
      · replace hc3 : ¬ _ := fun z9 => hc3 ((nI_eq (a := k) (b := 2) (by omega) (by omega)).mpr z9)
        refine Z_run C it_Mm_leadsBy 2 (f2 := (92, [some (.ref (D.1 37)), some (.int (nI k)), some (.int (nI f)), some (.int (nI t)), some (.int (nI 0)), some (.int (nI (dnN f t))), some (.int (nI (acN f t))), none], [.int (nI 3), .int (nI k)])) rfl ?_
        refine Z_br C it_Mm_leadsBy rfl rfl (fun hc4 => ?_) (fun hc4 => ?_)
        · replace hc4 : ¬ _ := fun z9 => hc4 ((nI_eq (a := k) (b := 3) (by omega) (by omega)).mpr z9)
          refine Z_run C it_Mm_leadsBy 2 (f2 := (130, [some (.ref (D.1 37)), some (.int (nI k)), some (.int (nI f)), some (.int (nI t)), some (.int (nI 0)), some (.int (nI (dnN f t))), some (.int (nI (acN f t))), none], [.int (nI (acN f t)), .int (nI (dnN f t))])) rfl ?_
          refine Z_br C it_Mm_leadsBy rfl rfl (fun hc5 => ?_) (fun hc5 => ?_)
          · replace hc5 : ¬ _ := fun z9 => hc5 ((nI_eq (a := dnN f t) (b := acN f t) (by omega) (by omega)).mpr z9)
            refine Z_run C it_Mm_leadsBy 3 (f2 := (147, [some (.ref (D.1 37)), some (.int (nI k)), some (.int (nI f)), some (.int (nI t)), some (.int (nI 0)), some (.int (nI (dnN f t))), some (.int (nI (acN f t))), some (.int (nI 0))], [.int (nI 0)])) rfl ?_
            refine Z_br C it_Mm_leadsBy rfl rfl (fun hc6 => ?_) (fun hc6 => absurd (by decide) hc6)
            refine Z_run C it_Mm_leadsBy 1 (f2 := (166, [some (.ref (D.1 37)), some (.int (nI k)), some (.int (nI f)), some (.int (nI t)), some (.int (nI 0)), some (.int (nI (dnN f t))), some (.int (nI (acN f t))), some (.int (nI 0))], [.int (nI 0)])) rfl ?_
            exact Z_zret C q.e it_Mm_leadsBy rfl (Or.inl rfl) (zRet_i (bI_f (by clear q htb; first | (simp_all [ldb]; done) | (simp_all [ldb]; omega)))) (by decide) (by decide)
          · replace hc5 := Classical.not_not.mp hc5
            replace hc5 := (nI_eq (a := dnN f t) (b := acN f t) (by omega) (by omega)).mp hc5
            refine Z_run C it_Mm_leadsBy 1 (f2 := (135, [some (.ref (D.1 37)), some (.int (nI k)), some (.int (nI f)), some (.int (nI t)), some (.int (nI 0)), some (.int (nI (dnN f t))), some (.int (nI (acN f t))), none], [.int (nI (dnN f t))])) rfl ?_
            refine Z_br C it_Mm_leadsBy rfl rfl (fun hc7 => ?_) (fun hc7 => ?_)
            · replace hc7 : (dnN f t) = 0 := (nI_le0 (a := dnN f t) (by omega)).mp hc7
              refine Z_run C it_Mm_leadsBy 3 (f2 := (147, [some (.ref (D.1 37)), some (.int (nI k)), some (.int (nI f)), some (.int (nI t)), some (.int (nI 0)), some (.int (nI (dnN f t))), some (.int (nI (acN f t))), some (.int (nI 0))], [.int (nI 0)])) rfl ?_
              refine Z_br C it_Mm_leadsBy rfl rfl (fun hc8 => ?_) (fun hc8 => absurd (by decide) hc8)
              refine Z_run C it_Mm_leadsBy 1 (f2 := (166, [some (.ref (D.1 37)), some (.int (nI k)), some (.int (nI f)), some (.int (nI t)), some (.int (nI 0)), some (.int (nI (dnN f t))), some (.int (nI (acN f t))), some (.int (nI 0))], [.int (nI 0)])) rfl ?_
              exact Z_zret C q.e it_Mm_leadsBy rfl (Or.inl rfl) (zRet_i (bI_f (by clear q htb; first | (simp_all [ldb]; done) | (simp_all [ldb]; omega)))) (by decide) (by decide)
            · replace hc7 : ¬ (dnN f t) = 0 := fun z9 => hc7 ((nI_le0 (a := dnN f t) (by omega)).mpr z9)
              refine Z_run C it_Mm_leadsBy 4 (f2 := (147, [some (.ref (D.1 37)), some (.int (nI k)), some (.int (nI f)), some (.int (nI t)), some (.int (nI 0)), some (.int (nI (dnN f t))), some (.int (nI (acN f t))), some (.int (nI 1))], [.int (nI 1)])) rfl ?_
              refine Z_br C it_Mm_leadsBy rfl rfl (fun hc9 => absurd hc9 (by decide)) (fun hc9 => ?_)
              refine Z_run C it_Mm_leadsBy 4 (f2 := (155, [some (.ref (D.1 37)), some (.int (nI k)), some (.int (nI f)), some (.int (nI t)), some (.int (nI 0)), some (.int (nI (dnN f t))), some (.int (nI (acN f t))), some (.int (nI 1))], [.int (nI 0), .int (nI t), .int (nI f), .ref (D.1 37)])) rfl ?_
              have hal : aln f t = true := tg_a f hf t ht (by omega)
              refine Zr_callV C it_Mm_leadsBy hD rfl p_Mm_isClear ml_Mm_67 37 (by decide) rfl rfl [.int (nI f), .int (nI t), .int (nI 0)] (ct_Mm_isClear_z C.ev C.l hD V P _ F hF hz f (by first | assumption | omega) t (by first | assumption | omega) hal _) rfl rfl ⟨by decide, by decide, by decide, by decide⟩ (Nat.le_of_ble_eq_true rfl) rfl ?_
              show Z E G (HM D V P PH) sz 0 0 (158, [some (.ref (D.1 37)), some (.int (nI k)), some (.int (nI f)), some (.int (nI t)), some (.int (nI 0)), some (.int (nI (dnN f t))), some (.int (nI (acN f t))), some (.int (nI 1))], [.int (bI (clr F f t))])
              refine Z_br C it_Mm_leadsBy rfl rfl (fun hc10 => ?_) (fun hc10 => ?_)
              · replace hc10 := bI_0.mp hc10
                refine Z_run C it_Mm_leadsBy 1 (f2 := (166, [some (.ref (D.1 37)), some (.int (nI k)), some (.int (nI f)), some (.int (nI t)), some (.int (nI 0)), some (.int (nI (dnN f t))), some (.int (nI (acN f t))), some (.int (nI 1))], [.int (nI 0)])) rfl ?_
                exact Z_zret C q.e it_Mm_leadsBy rfl (Or.inl rfl) (zRet_i (bI_f (by clear q htb; first | (simp_all [ldb]; done) | (simp_all [ldb]; omega)))) (by decide) (by decide)
              · replace hc10 := bI_1.mp hc10
                refine Z_run C it_Mm_leadsBy 2 (f2 := (166, [some (.ref (D.1 37)), some (.int (nI k)), some (.int (nI f)), some (.int (nI t)), some (.int (nI 0)), some (.int (nI (dnN f t))), some (.int (nI (acN f t))), some (.int (nI 1))], [.int (nI 1)])) rfl ?_
                exact Z_zret C q.e it_Mm_leadsBy rfl (Or.inr rfl) (zRet_i (bI_t (by clear q htb; first | (simp_all [ldb]; done) | (simp_all [ldb]; omega)))) (by decide) (by decide)
        · replace hc4 := Classical.not_not.mp hc4
          replace hc4 := (nI_eq (a := k) (b := 3) (by omega) (by omega)).mp hc4
          refine Z_run C it_Mm_leadsBy 1 (f2 := (97, [some (.ref (D.1 37)), some (.int (nI k)), some (.int (nI f)), some (.int (nI t)), some (.int (nI 0)), some (.int (nI (dnN f t))), some (.int (nI (acN f t))), none], [.int (nI (dnN f t))])) rfl ?_
          refine Z_br C it_Mm_leadsBy rfl rfl (fun hc11 => ?_) (fun hc11 => ?_)
          · replace hc11 : ¬ _ := fun z9 => hc11 ((nI_e0 (a := dnN f t) (by omega)).mpr z9)
            refine Z_run C it_Mm_leadsBy 2 (f2 := (107, [some (.ref (D.1 37)), some (.int (nI k)), some (.int (nI f)), some (.int (nI t)), some (.int (nI 0)), some (.int (nI (dnN f t))), some (.int (nI (acN f t))), none], [.int (nI (acN f t)), .int (nI 0)])) rfl ?_
            refine Z_br C it_Mm_leadsBy rfl rfl (fun hc12 => ?_) (fun hc12 => ?_)
            · replace hc12 : ¬ _ := fun z9 => hc12 ((nI_e0 (a := acN f t) (by omega)).mpr z9)
              refine Z_run C it_Mm_leadsBy 1 (f2 := (115, [some (.ref (D.1 37)), some (.int (nI k)), some (.int (nI f)), some (.int (nI t)), some (.int (nI 0)), some (.int (nI (dnN f t))), some (.int (nI (acN f t))), none], [.int (nI 0), .int (nI 0)])) rfl ?_
              refine Z_br C it_Mm_leadsBy rfl rfl (fun hc13 => ?_) (fun hc13 => absurd (by decide) hc13)
              refine Z_run C it_Mm_leadsBy 4 (f2 := (147, [some (.ref (D.1 37)), some (.int (nI k)), some (.int (nI f)), some (.int (nI t)), some (.int (nI 0)), some (.int (nI (dnN f t))), some (.int (nI (acN f t))), some (.int (nI 0))], [.int (nI 0)])) rfl ?_
              refine Z_br C it_Mm_leadsBy rfl rfl (fun hc14 => ?_) (fun hc14 => absurd (by decide) hc14)
              refine Z_run C it_Mm_leadsBy 1 (f2 := (166, [some (.ref (D.1 37)), some (.int (nI k)), some (.int (nI f)), some (.int (nI t)), some (.int (nI 0)), some (.int (nI (dnN f t))), some (.int (nI (acN f t))), some (.int (nI 0))], [.int (nI 0)])) rfl ?_
              exact Z_zret C q.e it_Mm_leadsBy rfl (Or.inl rfl) (zRet_i (bI_f (by clear q htb; first | (simp_all [ldb]; done) | (simp_all [ldb]; omega)))) (by decide) (by decide)
            · replace hc12 := Classical.not_not.mp hc12
              replace hc12 := (nI_e0 (a := acN f t) (by omega)).mp hc12
              refine Z_run C it_Mm_leadsBy 2 (f2 := (115, [some (.ref (D.1 37)), some (.int (nI k)), some (.int (nI f)), some (.int (nI t)), some (.int (nI 0)), some (.int (nI (dnN f t))), some (.int (nI (acN f t))), none], [.int (nI 1), .int (nI 0)])) rfl ?_
              refine Z_br C it_Mm_leadsBy rfl rfl (fun hc15 => absurd hc15 (by decide)) (fun hc15 => ?_)
              refine Z_run C it_Mm_leadsBy 4 (f2 := (147, [some (.ref (D.1 37)), some (.int (nI k)), some (.int (nI f)), some (.int (nI t)), some (.int (nI 0)), some (.int (nI (dnN f t))), some (.int (nI (acN f t))), some (.int (nI 1))], [.int (nI 1)])) rfl ?_
              refine Z_br C it_Mm_leadsBy rfl rfl (fun hc16 => absurd hc16 (by decide)) (fun hc16 => ?_)
              refine Z_run C it_Mm_leadsBy 4 (f2 := (155, [some (.ref (D.1 37)), some (.int (nI k)), some (.int (nI f)), some (.int (nI t)), some (.int (nI 0)), some (.int (nI (dnN f t))), some (.int (nI (acN f t))), some (.int (nI 1))], [.int (nI 0), .int (nI t), .int (nI f), .ref (D.1 37)])) rfl ?_
              have hal : aln f t = true := tg_a f hf t ht (by omega)
              refine Zr_callV C it_Mm_leadsBy hD rfl p_Mm_isClear ml_Mm_67 37 (by decide) rfl rfl [.int (nI f), .int (nI t), .int (nI 0)] (ct_Mm_isClear_z C.ev C.l hD V P _ F hF hz f (by first | assumption | omega) t (by first | assumption | omega) hal _) rfl rfl ⟨by decide, by decide, by decide, by decide⟩ (Nat.le_of_ble_eq_true rfl) rfl ?_
              show Z E G (HM D V P PH) sz 0 0 (158, [some (.ref (D.1 37)), some (.int (nI k)), some (.int (nI f)), some (.int (nI t)), some (.int (nI 0)), some (.int (nI (dnN f t))), some (.int (nI (acN f t))), some (.int (nI 1))], [.int (bI (clr F f t))])
              refine Z_br C it_Mm_leadsBy rfl rfl (fun hc17 => ?_) (fun hc17 => ?_)
              · replace hc17 := bI_0.mp hc17
                refine Z_run C it_Mm_leadsBy 1 (f2 := (166, [some (.ref (D.1 37)), some (.int (nI k)), some (.int (nI f)), some (.int (nI t)), some (.int (nI 0)), some (.int (nI (dnN f t))), some (.int (nI (acN f t))), some (.int (nI 1))], [.int (nI 0)])) rfl ?_
                exact Z_zret C q.e it_Mm_leadsBy rfl (Or.inl rfl) (zRet_i (bI_f (by clear q htb; first | (simp_all [ldb]; done) | (simp_all [ldb]; omega)))) (by decide) (by decide)
              · replace hc17 := bI_1.mp hc17
                refine Z_run C it_Mm_leadsBy 2 (f2 := (166, [some (.ref (D.1 37)), some (.int (nI k)), some (.int (nI f)), some (.int (nI t)), some (.int (nI 0)), some (.int (nI (dnN f t))), some (.int (nI (acN f t))), some (.int (nI 1))], [.int (nI 1)])) rfl ?_
                exact Z_zret C q.e it_Mm_leadsBy rfl (Or.inr rfl) (zRet_i (bI_t (by clear q htb; first | (simp_all [ldb]; done) | (simp_all [ldb]; omega)))) (by decide) (by decide)
          · replace hc11 := Classical.not_not.mp hc11
            replace hc11 := (nI_e0 (a := dnN f t) (by omega)).mp hc11
            refine Z_run C it_Mm_leadsBy 3 (f2 := (107, [some (.ref (D.1 37)), some (.int (nI k)), some (.int (nI f)), some (.int (nI t)), some (.int (nI 0)), some (.int (nI (dnN f t))), some (.int (nI (acN f t))), none], [.int (nI (acN f t)), .int (nI 1)])) rfl ?_
            refine Z_br C it_Mm_leadsBy rfl rfl (fun hc18 => ?_) (fun hc18 => ?_)
            · replace hc18 : ¬ _ := fun z9 => hc18 ((nI_e0 (a := acN f t) (by omega)).mpr z9)
              refine Z_run C it_Mm_leadsBy 1 (f2 := (115, [some (.ref (D.1 37)), some (.int (nI k)), some (.int (nI f)), some (.int (nI t)), some (.int (nI 0)), some (.int (nI (dnN f t))), some (.int (nI (acN f t))), none], [.int (nI 0), .int (nI 1)])) rfl ?_
              refine Z_br C it_Mm_leadsBy rfl rfl (fun hc19 => absurd hc19 (by decide)) (fun hc19 => ?_)
              refine Z_run C it_Mm_leadsBy 4 (f2 := (147, [some (.ref (D.1 37)), some (.int (nI k)), some (.int (nI f)), some (.int (nI t)), some (.int (nI 0)), some (.int (nI (dnN f t))), some (.int (nI (acN f t))), some (.int (nI 1))], [.int (nI 1)])) rfl ?_
              refine Z_br C it_Mm_leadsBy rfl rfl (fun hc20 => absurd hc20 (by decide)) (fun hc20 => ?_)
              refine Z_run C it_Mm_leadsBy 4 (f2 := (155, [some (.ref (D.1 37)), some (.int (nI k)), some (.int (nI f)), some (.int (nI t)), some (.int (nI 0)), some (.int (nI (dnN f t))), some (.int (nI (acN f t))), some (.int (nI 1))], [.int (nI 0), .int (nI t), .int (nI f), .ref (D.1 37)])) rfl ?_
              have hal : aln f t = true := tg_a f hf t ht (by omega)
              refine Zr_callV C it_Mm_leadsBy hD rfl p_Mm_isClear ml_Mm_67 37 (by decide) rfl rfl [.int (nI f), .int (nI t), .int (nI 0)] (ct_Mm_isClear_z C.ev C.l hD V P _ F hF hz f (by first | assumption | omega) t (by first | assumption | omega) hal _) rfl rfl ⟨by decide, by decide, by decide, by decide⟩ (Nat.le_of_ble_eq_true rfl) rfl ?_
              show Z E G (HM D V P PH) sz 0 0 (158, [some (.ref (D.1 37)), some (.int (nI k)), some (.int (nI f)), some (.int (nI t)), some (.int (nI 0)), some (.int (nI (dnN f t))), some (.int (nI (acN f t))), some (.int (nI 1))], [.int (bI (clr F f t))])
              refine Z_br C it_Mm_leadsBy rfl rfl (fun hc21 => ?_) (fun hc21 => ?_)
              · replace hc21 := bI_0.mp hc21
                refine Z_run C it_Mm_leadsBy 1 (f2 := (166, [some (.ref (D.1 37)), some (.int (nI k)), some (.int (nI f)), some (.int (nI t)), some (.int (nI 0)), some (.int (nI (dnN f t))), some (.int (nI (acN f t))), some (.int (nI 1))], [.int (nI 0)])) rfl ?_
                exact Z_zret C q.e it_Mm_leadsBy rfl (Or.inl rfl) (zRet_i (bI_f (by clear q htb; first | (simp_all [ldb]; done) | (simp_all [ldb]; omega)))) (by decide) (by decide)
              · replace hc21 := bI_1.mp hc21
                refine Z_run C it_Mm_leadsBy 2 (f2 := (166, [some (.ref (D.1 37)), some (.int (nI k)), some (.int (nI f)), some (.int (nI t)), some (.int (nI 0)), some (.int (nI (dnN f t))), some (.int (nI (acN f t))), some (.int (nI 1))], [.int (nI 1)])) rfl ?_
                exact Z_zret C q.e it_Mm_leadsBy rfl (Or.inr rfl) (zRet_i (bI_t (by clear q htb; first | (simp_all [ldb]; done) | (simp_all [ldb]; omega)))) (by decide) (by decide)
            · replace hc18 := Classical.not_not.mp hc18
              replace hc18 := (nI_e0 (a := acN f t) (by omega)).mp hc18
              refine Z_run C it_Mm_leadsBy 2 (f2 := (115, [some (.ref (D.1 37)), some (.int (nI k)), some (.int (nI f)), some (.int (nI t)), some (.int (nI 0)), some (.int (nI (dnN f t))), some (.int (nI (acN f t))), none], [.int (nI 1), .int (nI 1)])) rfl ?_
              refine Z_br C it_Mm_leadsBy rfl rfl (fun hc22 => ?_) (fun hc22 => absurd (by decide) hc22)
              refine Z_run C it_Mm_leadsBy 4 (f2 := (147, [some (.ref (D.1 37)), some (.int (nI k)), some (.int (nI f)), some (.int (nI t)), some (.int (nI 0)), some (.int (nI (dnN f t))), some (.int (nI (acN f t))), some (.int (nI 0))], [.int (nI 0)])) rfl ?_
              refine Z_br C it_Mm_leadsBy rfl rfl (fun hc23 => ?_) (fun hc23 => absurd (by decide) hc23)
              refine Z_run C it_Mm_leadsBy 1 (f2 := (166, [some (.ref (D.1 37)), some (.int (nI k)), some (.int (nI f)), some (.int (nI t)), some (.int (nI 0)), some (.int (nI (dnN f t))), some (.int (nI (acN f t))), some (.int (nI 0))], [.int (nI 0)])) rfl ?_
              exact Z_zret C q.e it_Mm_leadsBy rfl (Or.inl rfl) (zRet_i (bI_f (by clear q htb; first | (simp_all [ldb]; done) | (simp_all [ldb]; omega)))) (by decide) (by decide)
      · replace hc3 := Classical.not_not.mp hc3
        replace hc3 := (nI_eq (a := k) (b := 2) (by omega) (by omega)).mp hc3
        refine Z_run C it_Mm_leadsBy 3 (f2 := (80, [some (.ref (D.1 37)), some (.int (nI k)), some (.int (nI f)), some (.int (nI t)), some (.int (nI 0)), some (.int (nI (dnN f t))), some (.int (nI (acN f t))), none], [.int (nI (dnN f t) * nI (acN f t))])) rfl ?_
        rw [nI_mul (dnN f t) (acN f t)]
        refine Z_run C it_Mm_leadsBy 1 (f2 := (81, [some (.ref (D.1 37)), some (.int (nI k)), some (.int (nI f)), some (.int (nI t)), some (.int (nI 0)), some (.int (nI (dnN f t))), some (.int (nI (acN f t))), none], [.int (nI 2), .int (nI ((dnN f t) * (acN f t)))])) rfl ?_
        refine Z_br C it_Mm_leadsBy rfl rfl (fun hc24 => ?_) (fun hc24 => ?_)
        · replace hc24 : ¬ _ := fun z9 => hc24 ((nI_eq (a := (dnN f t) * (acN f t)) (b := 2) (by omega) (by omega)).mpr z9)
          refine Z_run C it_Mm_leadsBy 1 (f2 := (89, [some (.ref (D.1 37)), some (.int (nI k)), some (.int (nI f)), some (.int (nI t)), some (.int (nI 0)), some (.int (nI (dnN f t))), some (.int (nI (acN f t))), none], [.int (nI 0)])) rfl ?_
          exact Z_zret C q.e it_Mm_leadsBy rfl (Or.inl rfl) (zRet_i (bI_f (by clear q htb; first | (simp_all [ldb]; done) | (simp_all [ldb]; omega)))) (by decide) (by decide)
        · replace hc24 := Classical.not_not.mp hc24
          replace hc24 := (nI_eq (a := (dnN f t) * (acN f t)) (b := 2) (by omega) (by omega)).mp hc24
          refine Z_run C it_Mm_leadsBy 2 (f2 := (89, [some (.ref (D.1 37)), some (.int (nI k)), some (.int (nI f)), some (.int (nI t)), some (.int (nI 0)), some (.int (nI (dnN f t))), some (.int (nI (acN f t))), none], [.int (nI 1)])) rfl ?_
          exact Z_zret C q.e it_Mm_leadsBy rfl (Or.inr rfl) (zRet_i (bI_t (by clear q htb; first | (simp_all [ldb]; done) | (simp_all [ldb]; omega)))) (by decide) (by decide)
    · replace hc2 := Classical.not_not.mp hc2
      replace hc2 := (nI_eq (a := k) (b := 1) (by omega) (by omega)).mp hc2
      refine Z_run C it_Mm_leadsBy 2 (f2 := (55, [some (.ref (D.1 37)), some (.int (nI k)), some (.int (nI f)), some (.int (nI t)), some (.int (nI 0)), some (.int (nI (dnN f t))), some (.int (nI (acN f t))), none], [.int (nI 1), .int (nI (dnN f t))])) rfl ?_
      refine Z_br C it_Mm_leadsBy rfl rfl (fun hc25 => ?_) (fun hc25 => ?_)
      · replace hc25 : ¬ _ := fun z9 => hc25 ((nI_eq (a := dnN f t) (b := 1) (by omega) (by omega)).mpr z9)
        refine Z_run C it_Mm_leadsBy 1 (f2 := (69, [some (.ref (D.1 37)), some (.int (nI k)), some (.int (nI f)), some (.int (nI t)), some (.int (nI 0)), some (.int (nI (dnN f t))), some (.int (nI (acN f t))), none], [.int (nI 0)])) rfl ?_
        exact Z_zret C q.e it_Mm_leadsBy rfl (Or.inl rfl) (zRet_i (bI_f (by clear q htb; first | (simp_all [ldb]; done) | (simp_all [ldb]; omega)))) (by decide) (by decide)
      · replace hc25 := Classical.not_not.mp hc25
        replace hc25 := (nI_eq (a := dnN f t) (b := 1) (by omega) (by omega)).mp hc25
        refine Z_run C it_Mm_leadsBy 2 (f2 := (61, [some (.ref (D.1 37)), some (.int (nI k)), some (.int (nI f)), some (.int (nI t)), some (.int (nI 0)), some (.int (nI (dnN f t))), some (.int (nI (acN f t))), none], [.int (nI 1), .int (nI (acN f t))])) rfl ?_
        refine Z_br C it_Mm_leadsBy rfl rfl (fun hc26 => ?_) (fun hc26 => ?_)
        · replace hc26 : ¬ _ := fun z9 => hc26 ((nI_eq (a := acN f t) (b := 1) (by omega) (by omega)).mpr z9)
          refine Z_run C it_Mm_leadsBy 1 (f2 := (69, [some (.ref (D.1 37)), some (.int (nI k)), some (.int (nI f)), some (.int (nI t)), some (.int (nI 0)), some (.int (nI (dnN f t))), some (.int (nI (acN f t))), none], [.int (nI 0)])) rfl ?_
          exact Z_zret C q.e it_Mm_leadsBy rfl (Or.inl rfl) (zRet_i (bI_f (by clear q htb; first | (simp_all [ldb]; done) | (simp_all [ldb]; omega)))) (by decide) (by decide)
        · replace hc26 := Classical.not_not.mp hc26
          replace hc26 := (nI_eq (a := acN f t) (b := 1) (by omega) (by omega)).mp hc26
          refine Z_run C it_Mm_leadsBy 2 (f2 := (69, [some (.ref (D.1 37)), some (.int (nI k)), some (.int (nI f)), some (.int (nI t)), some (.int (nI 0)), some (.int (nI (dnN f t))), some (.int (nI (acN f t))), none], [.int (nI 1)])) rfl ?_
          exact Z_zret C q.e it_Mm_leadsBy rfl (Or.inr rfl) (zRet_i (bI_t (by clear q htb; first | (simp_all [ldb]; done) | (simp_all [ldb]; omega)))) (by decide) (by decide)
  · replace hc1 := Classical.not_not.mp hc1
    replace hc1 := (nI_e0 (a := k) (by omega)).mp hc1
    refine Z_run C it_Mm_leadsBy 3 (f2 := (37, [some (.ref (D.1 37)), some (.int (nI k)), some (.int (nI f)), some (.int (nI t)), some (.int (nI 0)), some (.int (nI (dnN f t))), some (.int (nI (acN f t))), none], [.int (nI (dnN f t) + nI (acN f t))])) rfl ?_
    rw [nI_add (dnN f t) (acN f t)]
    refine Z_run C it_Mm_leadsBy 1 (f2 := (38, [some (.ref (D.1 37)), some (.int (nI k)), some (.int (nI f)), some (.int (nI t)), some (.int (nI 0)), some (.int (nI (dnN f t))), some (.int (nI (acN f t))), none], [.int (nI 1), .int (nI (dnN f t + acN f t))])) rfl ?_
    refine Z_br C it_Mm_leadsBy rfl rfl (fun hc27 => ?_) (fun hc27 => ?_)
    · replace hc27 : ¬ _ := fun z9 => hc27 ((nI_eq (a := dnN f t + acN f t) (b := 1) (by omega) (by omega)).mpr z9)
      refine Z_run C it_Mm_leadsBy 1 (f2 := (46, [some (.ref (D.1 37)), some (.int (nI k)), some (.int (nI f)), some (.int (nI t)), some (.int (nI 0)), some (.int (nI (dnN f t))), some (.int (nI (acN f t))), none], [.int (nI 0)])) rfl ?_
      exact Z_zret C q.e it_Mm_leadsBy rfl (Or.inl rfl) (zRet_i (bI_f (by clear q htb; first | (simp_all [ldb]; done) | (simp_all [ldb]; omega)))) (by decide) (by decide)
    · replace hc27 := Classical.not_not.mp hc27
      replace hc27 := (nI_eq (a := dnN f t + acN f t) (b := 1) (by omega) (by omega)).mp hc27
      refine Z_run C it_Mm_leadsBy 2 (f2 := (46, [some (.ref (D.1 37)), some (.int (nI k)), some (.int (nI f)), some (.int (nI t)), some (.int (nI 0)), some (.int (nI (dnN f t))), some (.int (nI (acN f t))), none], [.int (nI 1)])) rfl ?_
      exact Z_zret C q.e it_Mm_leadsBy rfl (Or.inr rfl) (zRet_i (bI_t (by clear q htb; first | (simp_all [ldb]; done) | (simp_all [ldb]; omega)))) (by decide) (by decide)
set_option maxRecDepth 20000 in
theorem ct_Mm_leadsBy_s {E : zE} (hE : zEv E) {l : Launch} (hl : l.stackTraces = false) {D : zD} (hD : zDok E D) (V : Nat → Nat → Int32) (P : Nat → Nat → Value) (PH : aH) (F : Nat → Nat) (hF : okF F) (hz : ∀ k, k < 36 → V 41 k = nI (mo (F k))) (k : Nat) (hk : k < 5) (f : Nat) (hf : f < 36) (t : Nat) (ht : t < 36) (sz : Nat) : zM E l y_Mm_leadsBy [.code y_Mm_leadsBy c_Mm_leadsBy 8 (some .boolean)] rm_Mm_leadsBy [.ref (D.1 37), .int (nI k), .int (nI f), .int (nI t), .int (nI 1)] (HM D V P PH) sz (zRet (some (.int (bI (ldb F k f t)))) (HM D V P PH) sz) := by
  refine zM_of hE hl (by decide +kernel) [some (.ref (D.1 37)), some (.int (nI k)), some (.int (nI f)), some (.int (nI t)), some (.int (nI 1)), none, none, none] ⟨rfl, rfl, Nat.le_of_ble_eq_true rfl⟩ ?_
  intro G C q htb
  obtain ⟨hd1, hd2, hd3, hd4⟩ := tg_d f hf t ht
  have hm2 : dnN f t * acN f t ≤ 25 := Nat.mul_le_mul hd3 hd4
  refine Z_run C it_Mm_leadsBy 3 (f2 := (4, [some (.ref (D.1 37)), some (.int (nI k)), some (.int (nI f)), some (.int (nI t)), some (.int (nI 1)), none, none, none], [.int (nI t / nI 6)])) rfl ?_
  rw [nI_div (a := t) (d := 6) (by omega) (by omega) (by omega)]
  refine Z_run C it_Mm_leadsBy 3 (f2 := (8, [some (.ref (D.1 37)), some (.int (nI k)), some (.int (nI f)), some (.int (nI t)), some (.int (nI 1)), none, none, none], [.int (nI f / nI 6), .int (nI (t / 6))])) rfl ?_
  rw [nI_div (a := f) (d := 6) (by omega) (by omega) (by omega)]
  refine Z_run C it_Mm_leadsBy 1 (f2 := (9, [some (.ref (D.1 37)), some (.int (nI k)), some (.int (nI f)), some (.int (nI t)), some (.int (nI 1)), none, none, none], [.int (nI (t / 6) - nI (f / 6))])) rfl ?_
  refine Zr_callS C it_Mm_leadsBy rfl p_Mm_size ml_Mm_64 [.int (nI (t / 6) - nI (f / 6))] (ct_Mm_size C.ev C.l (nI (t / 6) - nI (f / 6)) (HM D V P PH) _) rfl rfl ⟨by decide, by decide, by decide, by decide⟩ (Nat.le_of_ble_eq_true rfl) rfl ?_
  show Z E G (HM D V P PH) sz 0 0 (12, [some (.ref (D.1 37)), some (.int (nI k)), some (.int (nI f)), some (.int (nI t)), some (.int (nI 1)), none, none, none], [.int (szI (nI (t / 6) - nI (f / 6)))])
  refine Z_run C it_Mm_leadsBy 1 (f2 := (14, [some (.ref (D.1 37)), some (.int (nI k)), some (.int (nI f)), some (.int (nI t)), some (.int (nI 1)), some (.int (szI (nI (t / 6) - nI (f / 6)))), none, none], [])) rfl ?_
  rw [(tg_d f hf t ht).1]
  refine Z_run C it_Mm_leadsBy 3 (f2 := (18, [some (.ref (D.1 37)), some (.int (nI k)), some (.int (nI f)), some (.int (nI t)), some (.int (nI 1)), some (.int (nI (dnN f t))), none, none], [.int (nI t % nI 6)])) rfl ?_
  rw [nI_mod (a := t) (d := 6) (by omega) (by omega) (by omega)]
  refine Z_run C it_Mm_leadsBy 3 (f2 := (22, [some (.ref (D.1 37)), some (.int (nI k)), some (.int (nI f)), some (.int (nI t)), some (.int (nI 1)), some (.int (nI (dnN f t))), none, none], [.int (nI f % nI 6), .int (nI (t % 6))])) rfl ?_
  rw [nI_mod (a := f) (d := 6) (by omega) (by omega) (by omega)]
  refine Z_run C it_Mm_leadsBy 1 (f2 := (23, [some (.ref (D.1 37)), some (.int (nI k)), some (.int (nI f)), some (.int (nI t)), some (.int (nI 1)), some (.int (nI (dnN f t))), none, none], [.int (nI (t % 6) - nI (f % 6))])) rfl ?_
  refine Zr_callS C it_Mm_leadsBy rfl p_Mm_size ml_Mm_64 [.int (nI (t % 6) - nI (f % 6))] (ct_Mm_size C.ev C.l (nI (t % 6) - nI (f % 6)) (HM D V P PH) _) rfl rfl ⟨by decide, by decide, by decide, by decide⟩ (Nat.le_of_ble_eq_true rfl) rfl ?_
  show Z E G (HM D V P PH) sz 0 0 (26, [some (.ref (D.1 37)), some (.int (nI k)), some (.int (nI f)), some (.int (nI t)), some (.int (nI 1)), some (.int (nI (dnN f t))), none, none], [.int (szI (nI (t % 6) - nI (f % 6)))])
  refine Z_run C it_Mm_leadsBy 1 (f2 := (28, [some (.ref (D.1 37)), some (.int (nI k)), some (.int (nI f)), some (.int (nI t)), some (.int (nI 1)), some (.int (nI (dnN f t))), some (.int (szI (nI (t % 6) - nI (f % 6)))), none], [])) rfl ?_
  rw [(tg_d f hf t ht).2.1]
  refine Z_run C it_Mm_leadsBy 1 (f2 := (29, [some (.ref (D.1 37)), some (.int (nI k)), some (.int (nI f)), some (.int (nI t)), some (.int (nI 1)), some (.int (nI (dnN f t))), some (.int (nI (acN f t))), none], [.int (nI k)])) rfl ?_
  refine Z_br C it_Mm_leadsBy rfl rfl (fun hc1 => ?_) (fun hc1 => ?_)
  · replace hc1 : ¬ _ := fun z9 => hc1 ((nI_e0 (a := k) (by omega)).mpr z9)
    refine Z_run C it_Mm_leadsBy 2 (f2 := (49, [some (.ref (D.1 37)), some (.int (nI k)), some (.int (nI f)), some (.int (nI t)), some (.int (nI 1)), some (.int (nI (dnN f t))), some (.int (nI (acN f t))), none], [.int (nI 1), .int (nI k)])) rfl ?_
    refine Z_br C it_Mm_leadsBy rfl rfl (fun hc2 => ?_) (fun hc2 => ?_)
    · replace hc2 : ¬ _ := fun z9 => hc2 ((nI_eq (a := k) (b := 1) (by omega) (by omega)).mpr z9)
      refine Z_run C it_Mm_leadsBy 2 (f2 := (72, [some (.ref (D.1 37)), some (.int (nI k)), some (.int (nI f)), some (.int (nI t)), some (.int (nI 1)), some (.int (nI (dnN f t))), some (.int (nI (acN f t))), none], [.int (nI 2), .int (nI k)])) rfl ?_
      refine Z_br C it_Mm_leadsBy rfl rfl (fun hc3 => ?_) (fun hc3 => ?_)
      · replace hc3 : ¬ _ := fun z9 => hc3 ((nI_eq (a := k) (b := 2) (by omega) (by omega)).mpr z9)
        refine Z_run C it_Mm_leadsBy 2 (f2 := (92, [some (.ref (D.1 37)), some (.int (nI k)), some (.int (nI f)), some (.int (nI t)), some (.int (nI 1)), some (.int (nI (dnN f t))), some (.int (nI (acN f t))), none], [.int (nI 3), .int (nI k)])) rfl ?_
        refine Z_br C it_Mm_leadsBy rfl rfl (fun hc4 => ?_) (fun hc4 => ?_)
        · replace hc4 : ¬ _ := fun z9 => hc4 ((nI_eq (a := k) (b := 3) (by omega) (by omega)).mpr z9)
          refine Z_run C it_Mm_leadsBy 2 (f2 := (130, [some (.ref (D.1 37)), some (.int (nI k)), some (.int (nI f)), some (.int (nI t)), some (.int (nI 1)), some (.int (nI (dnN f t))), some (.int (nI (acN f t))), none], [.int (nI (acN f t)), .int (nI (dnN f t))])) rfl ?_
          refine Z_br C it_Mm_leadsBy rfl rfl (fun hc5 => ?_) (fun hc5 => ?_)
          · replace hc5 : ¬ _ := fun z9 => hc5 ((nI_eq (a := dnN f t) (b := acN f t) (by omega) (by omega)).mpr z9)
            refine Z_run C it_Mm_leadsBy 3 (f2 := (147, [some (.ref (D.1 37)), some (.int (nI k)), some (.int (nI f)), some (.int (nI t)), some (.int (nI 1)), some (.int (nI (dnN f t))), some (.int (nI (acN f t))), some (.int (nI 0))], [.int (nI 0)])) rfl ?_
            refine Z_br C it_Mm_leadsBy rfl rfl (fun hc6 => ?_) (fun hc6 => absurd (by decide) hc6)
            refine Z_run C it_Mm_leadsBy 1 (f2 := (166, [some (.ref (D.1 37)), some (.int (nI k)), some (.int (nI f)), some (.int (nI t)), some (.int (nI 1)), some (.int (nI (dnN f t))), some (.int (nI (acN f t))), some (.int (nI 0))], [.int (nI 0)])) rfl ?_
            exact Z_zret C q.e it_Mm_leadsBy rfl (Or.inl rfl) (zRet_i (bI_f (by clear q htb; first | (simp_all [ldb]; done) | (simp_all [ldb]; omega)))) (by decide) (by decide)
          · replace hc5 := Classical.not_not.mp hc5
            replace hc5 := (nI_eq (a := dnN f t) (b := acN f t) (by omega) (by omega)).mp hc5
            refine Z_run C it_Mm_leadsBy 1 (f2 := (135, [some (.ref (D.1 37)), some (.int (nI k)), some (.int (nI f)), some (.int (nI t)), some (.int (nI 1)), some (.int (nI (dnN f t))), some (.int (nI (acN f t))), none], [.int (nI (dnN f t))])) rfl ?_
            refine Z_br C it_Mm_leadsBy rfl rfl (fun hc7 => ?_) (fun hc7 => ?_)
            · replace hc7 : (dnN f t) = 0 := (nI_le0 (a := dnN f t) (by omega)).mp hc7
              refine Z_run C it_Mm_leadsBy 3 (f2 := (147, [some (.ref (D.1 37)), some (.int (nI k)), some (.int (nI f)), some (.int (nI t)), some (.int (nI 1)), some (.int (nI (dnN f t))), some (.int (nI (acN f t))), some (.int (nI 0))], [.int (nI 0)])) rfl ?_
              refine Z_br C it_Mm_leadsBy rfl rfl (fun hc8 => ?_) (fun hc8 => absurd (by decide) hc8)
              refine Z_run C it_Mm_leadsBy 1 (f2 := (166, [some (.ref (D.1 37)), some (.int (nI k)), some (.int (nI f)), some (.int (nI t)), some (.int (nI 1)), some (.int (nI (dnN f t))), some (.int (nI (acN f t))), some (.int (nI 0))], [.int (nI 0)])) rfl ?_
              exact Z_zret C q.e it_Mm_leadsBy rfl (Or.inl rfl) (zRet_i (bI_f (by clear q htb; first | (simp_all [ldb]; done) | (simp_all [ldb]; omega)))) (by decide) (by decide)
            · replace hc7 : ¬ (dnN f t) = 0 := fun z9 => hc7 ((nI_le0 (a := dnN f t) (by omega)).mpr z9)
              refine Z_run C it_Mm_leadsBy 4 (f2 := (147, [some (.ref (D.1 37)), some (.int (nI k)), some (.int (nI f)), some (.int (nI t)), some (.int (nI 1)), some (.int (nI (dnN f t))), some (.int (nI (acN f t))), some (.int (nI 1))], [.int (nI 1)])) rfl ?_
              refine Z_br C it_Mm_leadsBy rfl rfl (fun hc9 => absurd hc9 (by decide)) (fun hc9 => ?_)
              refine Z_run C it_Mm_leadsBy 4 (f2 := (155, [some (.ref (D.1 37)), some (.int (nI k)), some (.int (nI f)), some (.int (nI t)), some (.int (nI 1)), some (.int (nI (dnN f t))), some (.int (nI (acN f t))), some (.int (nI 1))], [.int (nI 1), .int (nI t), .int (nI f), .ref (D.1 37)])) rfl ?_
              have hal : aln f t = true := tg_a f hf t ht (by omega)
              refine Zr_callV C it_Mm_leadsBy hD rfl p_Mm_isClear ml_Mm_67 37 (by decide) rfl rfl [.int (nI f), .int (nI t), .int (nI 1)] (ct_Mm_isClear_s C.ev C.l hD V P _ F hF hz f (by first | assumption | omega) t (by first | assumption | omega) hal _) rfl rfl ⟨by decide, by decide, by decide, by decide⟩ (Nat.le_of_ble_eq_true rfl) rfl ?_
              show Z E G (HM D V P PH) sz 0 0 (158, [some (.ref (D.1 37)), some (.int (nI k)), some (.int (nI f)), some (.int (nI t)), some (.int (nI 1)), some (.int (nI (dnN f t))), some (.int (nI (acN f t))), some (.int (nI 1))], [.int (bI (clr F f t))])
              refine Z_br C it_Mm_leadsBy rfl rfl (fun hc10 => ?_) (fun hc10 => ?_)
              · replace hc10 := bI_0.mp hc10
                refine Z_run C it_Mm_leadsBy 1 (f2 := (166, [some (.ref (D.1 37)), some (.int (nI k)), some (.int (nI f)), some (.int (nI t)), some (.int (nI 1)), some (.int (nI (dnN f t))), some (.int (nI (acN f t))), some (.int (nI 1))], [.int (nI 0)])) rfl ?_
                exact Z_zret C q.e it_Mm_leadsBy rfl (Or.inl rfl) (zRet_i (bI_f (by clear q htb; first | (simp_all [ldb]; done) | (simp_all [ldb]; omega)))) (by decide) (by decide)
              · replace hc10 := bI_1.mp hc10
                refine Z_run C it_Mm_leadsBy 2 (f2 := (166, [some (.ref (D.1 37)), some (.int (nI k)), some (.int (nI f)), some (.int (nI t)), some (.int (nI 1)), some (.int (nI (dnN f t))), some (.int (nI (acN f t))), some (.int (nI 1))], [.int (nI 1)])) rfl ?_
                exact Z_zret C q.e it_Mm_leadsBy rfl (Or.inr rfl) (zRet_i (bI_t (by clear q htb; first | (simp_all [ldb]; done) | (simp_all [ldb]; omega)))) (by decide) (by decide)
        · replace hc4 := Classical.not_not.mp hc4
          replace hc4 := (nI_eq (a := k) (b := 3) (by omega) (by omega)).mp hc4
          refine Z_run C it_Mm_leadsBy 1 (f2 := (97, [some (.ref (D.1 37)), some (.int (nI k)), some (.int (nI f)), some (.int (nI t)), some (.int (nI 1)), some (.int (nI (dnN f t))), some (.int (nI (acN f t))), none], [.int (nI (dnN f t))])) rfl ?_
          refine Z_br C it_Mm_leadsBy rfl rfl (fun hc11 => ?_) (fun hc11 => ?_)
          · replace hc11 : ¬ _ := fun z9 => hc11 ((nI_e0 (a := dnN f t) (by omega)).mpr z9)
            refine Z_run C it_Mm_leadsBy 2 (f2 := (107, [some (.ref (D.1 37)), some (.int (nI k)), some (.int (nI f)), some (.int (nI t)), some (.int (nI 1)), some (.int (nI (dnN f t))), some (.int (nI (acN f t))), none], [.int (nI (acN f t)), .int (nI 0)])) rfl ?_
            refine Z_br C it_Mm_leadsBy rfl rfl (fun hc12 => ?_) (fun hc12 => ?_)
            · replace hc12 : ¬ _ := fun z9 => hc12 ((nI_e0 (a := acN f t) (by omega)).mpr z9)
              refine Z_run C it_Mm_leadsBy 1 (f2 := (115, [some (.ref (D.1 37)), some (.int (nI k)), some (.int (nI f)), some (.int (nI t)), some (.int (nI 1)), some (.int (nI (dnN f t))), some (.int (nI (acN f t))), none], [.int (nI 0), .int (nI 0)])) rfl ?_
              refine Z_br C it_Mm_leadsBy rfl rfl (fun hc13 => ?_) (fun hc13 => absurd (by decide) hc13)
              refine Z_run C it_Mm_leadsBy 4 (f2 := (147, [some (.ref (D.1 37)), some (.int (nI k)), some (.int (nI f)), some (.int (nI t)), some (.int (nI 1)), some (.int (nI (dnN f t))), some (.int (nI (acN f t))), some (.int (nI 0))], [.int (nI 0)])) rfl ?_
              refine Z_br C it_Mm_leadsBy rfl rfl (fun hc14 => ?_) (fun hc14 => absurd (by decide) hc14)
              refine Z_run C it_Mm_leadsBy 1 (f2 := (166, [some (.ref (D.1 37)), some (.int (nI k)), some (.int (nI f)), some (.int (nI t)), some (.int (nI 1)), some (.int (nI (dnN f t))), some (.int (nI (acN f t))), some (.int (nI 0))], [.int (nI 0)])) rfl ?_
              exact Z_zret C q.e it_Mm_leadsBy rfl (Or.inl rfl) (zRet_i (bI_f (by clear q htb; first | (simp_all [ldb]; done) | (simp_all [ldb]; omega)))) (by decide) (by decide)
            · replace hc12 := Classical.not_not.mp hc12
              replace hc12 := (nI_e0 (a := acN f t) (by omega)).mp hc12
              refine Z_run C it_Mm_leadsBy 2 (f2 := (115, [some (.ref (D.1 37)), some (.int (nI k)), some (.int (nI f)), some (.int (nI t)), some (.int (nI 1)), some (.int (nI (dnN f t))), some (.int (nI (acN f t))), none], [.int (nI 1), .int (nI 0)])) rfl ?_
              refine Z_br C it_Mm_leadsBy rfl rfl (fun hc15 => absurd hc15 (by decide)) (fun hc15 => ?_)
              refine Z_run C it_Mm_leadsBy 4 (f2 := (147, [some (.ref (D.1 37)), some (.int (nI k)), some (.int (nI f)), some (.int (nI t)), some (.int (nI 1)), some (.int (nI (dnN f t))), some (.int (nI (acN f t))), some (.int (nI 1))], [.int (nI 1)])) rfl ?_
              refine Z_br C it_Mm_leadsBy rfl rfl (fun hc16 => absurd hc16 (by decide)) (fun hc16 => ?_)
              refine Z_run C it_Mm_leadsBy 4 (f2 := (155, [some (.ref (D.1 37)), some (.int (nI k)), some (.int (nI f)), some (.int (nI t)), some (.int (nI 1)), some (.int (nI (dnN f t))), some (.int (nI (acN f t))), some (.int (nI 1))], [.int (nI 1), .int (nI t), .int (nI f), .ref (D.1 37)])) rfl ?_
              have hal : aln f t = true := tg_a f hf t ht (by omega)
              refine Zr_callV C it_Mm_leadsBy hD rfl p_Mm_isClear ml_Mm_67 37 (by decide) rfl rfl [.int (nI f), .int (nI t), .int (nI 1)] (ct_Mm_isClear_s C.ev C.l hD V P _ F hF hz f (by first | assumption | omega) t (by first | assumption | omega) hal _) rfl rfl ⟨by decide, by decide, by decide, by decide⟩ (Nat.le_of_ble_eq_true rfl) rfl ?_
              show Z E G (HM D V P PH) sz 0 0 (158, [some (.ref (D.1 37)), some (.int (nI k)), some (.int (nI f)), some (.int (nI t)), some (.int (nI 1)), some (.int (nI (dnN f t))), some (.int (nI (acN f t))), some (.int (nI 1))], [.int (bI (clr F f t))])
              refine Z_br C it_Mm_leadsBy rfl rfl (fun hc17 => ?_) (fun hc17 => ?_)
              · replace hc17 := bI_0.mp hc17
                refine Z_run C it_Mm_leadsBy 1 (f2 := (166, [some (.ref (D.1 37)), some (.int (nI k)), some (.int (nI f)), some (.int (nI t)), some (.int (nI 1)), some (.int (nI (dnN f t))), some (.int (nI (acN f t))), some (.int (nI 1))], [.int (nI 0)])) rfl ?_
                exact Z_zret C q.e it_Mm_leadsBy rfl (Or.inl rfl) (zRet_i (bI_f (by clear q htb; first | (simp_all [ldb]; done) | (simp_all [ldb]; omega)))) (by decide) (by decide)
              · replace hc17 := bI_1.mp hc17
                refine Z_run C it_Mm_leadsBy 2 (f2 := (166, [some (.ref (D.1 37)), some (.int (nI k)), some (.int (nI f)), some (.int (nI t)), some (.int (nI 1)), some (.int (nI (dnN f t))), some (.int (nI (acN f t))), some (.int (nI 1))], [.int (nI 1)])) rfl ?_
                exact Z_zret C q.e it_Mm_leadsBy rfl (Or.inr rfl) (zRet_i (bI_t (by clear q htb; first | (simp_all [ldb]; done) | (simp_all [ldb]; omega)))) (by decide) (by decide)
          · replace hc11 := Classical.not_not.mp hc11
            replace hc11 := (nI_e0 (a := dnN f t) (by omega)).mp hc11
            refine Z_run C it_Mm_leadsBy 3 (f2 := (107, [some (.ref (D.1 37)), some (.int (nI k)), some (.int (nI f)), some (.int (nI t)), some (.int (nI 1)), some (.int (nI (dnN f t))), some (.int (nI (acN f t))), none], [.int (nI (acN f t)), .int (nI 1)])) rfl ?_
            refine Z_br C it_Mm_leadsBy rfl rfl (fun hc18 => ?_) (fun hc18 => ?_)
            · replace hc18 : ¬ _ := fun z9 => hc18 ((nI_e0 (a := acN f t) (by omega)).mpr z9)
              refine Z_run C it_Mm_leadsBy 1 (f2 := (115, [some (.ref (D.1 37)), some (.int (nI k)), some (.int (nI f)), some (.int (nI t)), some (.int (nI 1)), some (.int (nI (dnN f t))), some (.int (nI (acN f t))), none], [.int (nI 0), .int (nI 1)])) rfl ?_
              refine Z_br C it_Mm_leadsBy rfl rfl (fun hc19 => absurd hc19 (by decide)) (fun hc19 => ?_)
              refine Z_run C it_Mm_leadsBy 4 (f2 := (147, [some (.ref (D.1 37)), some (.int (nI k)), some (.int (nI f)), some (.int (nI t)), some (.int (nI 1)), some (.int (nI (dnN f t))), some (.int (nI (acN f t))), some (.int (nI 1))], [.int (nI 1)])) rfl ?_
              refine Z_br C it_Mm_leadsBy rfl rfl (fun hc20 => absurd hc20 (by decide)) (fun hc20 => ?_)
              refine Z_run C it_Mm_leadsBy 4 (f2 := (155, [some (.ref (D.1 37)), some (.int (nI k)), some (.int (nI f)), some (.int (nI t)), some (.int (nI 1)), some (.int (nI (dnN f t))), some (.int (nI (acN f t))), some (.int (nI 1))], [.int (nI 1), .int (nI t), .int (nI f), .ref (D.1 37)])) rfl ?_
              have hal : aln f t = true := tg_a f hf t ht (by omega)
              refine Zr_callV C it_Mm_leadsBy hD rfl p_Mm_isClear ml_Mm_67 37 (by decide) rfl rfl [.int (nI f), .int (nI t), .int (nI 1)] (ct_Mm_isClear_s C.ev C.l hD V P _ F hF hz f (by first | assumption | omega) t (by first | assumption | omega) hal _) rfl rfl ⟨by decide, by decide, by decide, by decide⟩ (Nat.le_of_ble_eq_true rfl) rfl ?_
              show Z E G (HM D V P PH) sz 0 0 (158, [some (.ref (D.1 37)), some (.int (nI k)), some (.int (nI f)), some (.int (nI t)), some (.int (nI 1)), some (.int (nI (dnN f t))), some (.int (nI (acN f t))), some (.int (nI 1))], [.int (bI (clr F f t))])
              refine Z_br C it_Mm_leadsBy rfl rfl (fun hc21 => ?_) (fun hc21 => ?_)
              · replace hc21 := bI_0.mp hc21
                refine Z_run C it_Mm_leadsBy 1 (f2 := (166, [some (.ref (D.1 37)), some (.int (nI k)), some (.int (nI f)), some (.int (nI t)), some (.int (nI 1)), some (.int (nI (dnN f t))), some (.int (nI (acN f t))), some (.int (nI 1))], [.int (nI 0)])) rfl ?_
                exact Z_zret C q.e it_Mm_leadsBy rfl (Or.inl rfl) (zRet_i (bI_f (by clear q htb; first | (simp_all [ldb]; done) | (simp_all [ldb]; omega)))) (by decide) (by decide)
              · replace hc21 := bI_1.mp hc21
                refine Z_run C it_Mm_leadsBy 2 (f2 := (166, [some (.ref (D.1 37)), some (.int (nI k)), some (.int (nI f)), some (.int (nI t)), some (.int (nI 1)), some (.int (nI (dnN f t))), some (.int (nI (acN f t))), some (.int (nI 1))], [.int (nI 1)])) rfl ?_
                exact Z_zret C q.e it_Mm_leadsBy rfl (Or.inr rfl) (zRet_i (bI_t (by clear q htb; first | (simp_all [ldb]; done) | (simp_all [ldb]; omega)))) (by decide) (by decide)
            · replace hc18 := Classical.not_not.mp hc18
              replace hc18 := (nI_e0 (a := acN f t) (by omega)).mp hc18
              refine Z_run C it_Mm_leadsBy 2 (f2 := (115, [some (.ref (D.1 37)), some (.int (nI k)), some (.int (nI f)), some (.int (nI t)), some (.int (nI 1)), some (.int (nI (dnN f t))), some (.int (nI (acN f t))), none], [.int (nI 1), .int (nI 1)])) rfl ?_
              refine Z_br C it_Mm_leadsBy rfl rfl (fun hc22 => ?_) (fun hc22 => absurd (by decide) hc22)
              refine Z_run C it_Mm_leadsBy 4 (f2 := (147, [some (.ref (D.1 37)), some (.int (nI k)), some (.int (nI f)), some (.int (nI t)), some (.int (nI 1)), some (.int (nI (dnN f t))), some (.int (nI (acN f t))), some (.int (nI 0))], [.int (nI 0)])) rfl ?_
              refine Z_br C it_Mm_leadsBy rfl rfl (fun hc23 => ?_) (fun hc23 => absurd (by decide) hc23)
              refine Z_run C it_Mm_leadsBy 1 (f2 := (166, [some (.ref (D.1 37)), some (.int (nI k)), some (.int (nI f)), some (.int (nI t)), some (.int (nI 1)), some (.int (nI (dnN f t))), some (.int (nI (acN f t))), some (.int (nI 0))], [.int (nI 0)])) rfl ?_
              exact Z_zret C q.e it_Mm_leadsBy rfl (Or.inl rfl) (zRet_i (bI_f (by clear q htb; first | (simp_all [ldb]; done) | (simp_all [ldb]; omega)))) (by decide) (by decide)
      · replace hc3 := Classical.not_not.mp hc3
        replace hc3 := (nI_eq (a := k) (b := 2) (by omega) (by omega)).mp hc3
        refine Z_run C it_Mm_leadsBy 3 (f2 := (80, [some (.ref (D.1 37)), some (.int (nI k)), some (.int (nI f)), some (.int (nI t)), some (.int (nI 1)), some (.int (nI (dnN f t))), some (.int (nI (acN f t))), none], [.int (nI (dnN f t) * nI (acN f t))])) rfl ?_
        rw [nI_mul (dnN f t) (acN f t)]
        refine Z_run C it_Mm_leadsBy 1 (f2 := (81, [some (.ref (D.1 37)), some (.int (nI k)), some (.int (nI f)), some (.int (nI t)), some (.int (nI 1)), some (.int (nI (dnN f t))), some (.int (nI (acN f t))), none], [.int (nI 2), .int (nI ((dnN f t) * (acN f t)))])) rfl ?_
        refine Z_br C it_Mm_leadsBy rfl rfl (fun hc24 => ?_) (fun hc24 => ?_)
        · replace hc24 : ¬ _ := fun z9 => hc24 ((nI_eq (a := (dnN f t) * (acN f t)) (b := 2) (by omega) (by omega)).mpr z9)
          refine Z_run C it_Mm_leadsBy 1 (f2 := (89, [some (.ref (D.1 37)), some (.int (nI k)), some (.int (nI f)), some (.int (nI t)), some (.int (nI 1)), some (.int (nI (dnN f t))), some (.int (nI (acN f t))), none], [.int (nI 0)])) rfl ?_
          exact Z_zret C q.e it_Mm_leadsBy rfl (Or.inl rfl) (zRet_i (bI_f (by clear q htb; first | (simp_all [ldb]; done) | (simp_all [ldb]; omega)))) (by decide) (by decide)
        · replace hc24 := Classical.not_not.mp hc24
          replace hc24 := (nI_eq (a := (dnN f t) * (acN f t)) (b := 2) (by omega) (by omega)).mp hc24
          refine Z_run C it_Mm_leadsBy 2 (f2 := (89, [some (.ref (D.1 37)), some (.int (nI k)), some (.int (nI f)), some (.int (nI t)), some (.int (nI 1)), some (.int (nI (dnN f t))), some (.int (nI (acN f t))), none], [.int (nI 1)])) rfl ?_
          exact Z_zret C q.e it_Mm_leadsBy rfl (Or.inr rfl) (zRet_i (bI_t (by clear q htb; first | (simp_all [ldb]; done) | (simp_all [ldb]; omega)))) (by decide) (by decide)
    · replace hc2 := Classical.not_not.mp hc2
      replace hc2 := (nI_eq (a := k) (b := 1) (by omega) (by omega)).mp hc2
      refine Z_run C it_Mm_leadsBy 2 (f2 := (55, [some (.ref (D.1 37)), some (.int (nI k)), some (.int (nI f)), some (.int (nI t)), some (.int (nI 1)), some (.int (nI (dnN f t))), some (.int (nI (acN f t))), none], [.int (nI 1), .int (nI (dnN f t))])) rfl ?_
      refine Z_br C it_Mm_leadsBy rfl rfl (fun hc25 => ?_) (fun hc25 => ?_)
      · replace hc25 : ¬ _ := fun z9 => hc25 ((nI_eq (a := dnN f t) (b := 1) (by omega) (by omega)).mpr z9)
        refine Z_run C it_Mm_leadsBy 1 (f2 := (69, [some (.ref (D.1 37)), some (.int (nI k)), some (.int (nI f)), some (.int (nI t)), some (.int (nI 1)), some (.int (nI (dnN f t))), some (.int (nI (acN f t))), none], [.int (nI 0)])) rfl ?_
        exact Z_zret C q.e it_Mm_leadsBy rfl (Or.inl rfl) (zRet_i (bI_f (by clear q htb; first | (simp_all [ldb]; done) | (simp_all [ldb]; omega)))) (by decide) (by decide)
      · replace hc25 := Classical.not_not.mp hc25
        replace hc25 := (nI_eq (a := dnN f t) (b := 1) (by omega) (by omega)).mp hc25
        refine Z_run C it_Mm_leadsBy 2 (f2 := (61, [some (.ref (D.1 37)), some (.int (nI k)), some (.int (nI f)), some (.int (nI t)), some (.int (nI 1)), some (.int (nI (dnN f t))), some (.int (nI (acN f t))), none], [.int (nI 1), .int (nI (acN f t))])) rfl ?_
        refine Z_br C it_Mm_leadsBy rfl rfl (fun hc26 => ?_) (fun hc26 => ?_)
        · replace hc26 : ¬ _ := fun z9 => hc26 ((nI_eq (a := acN f t) (b := 1) (by omega) (by omega)).mpr z9)
          refine Z_run C it_Mm_leadsBy 1 (f2 := (69, [some (.ref (D.1 37)), some (.int (nI k)), some (.int (nI f)), some (.int (nI t)), some (.int (nI 1)), some (.int (nI (dnN f t))), some (.int (nI (acN f t))), none], [.int (nI 0)])) rfl ?_
          exact Z_zret C q.e it_Mm_leadsBy rfl (Or.inl rfl) (zRet_i (bI_f (by clear q htb; first | (simp_all [ldb]; done) | (simp_all [ldb]; omega)))) (by decide) (by decide)
        · replace hc26 := Classical.not_not.mp hc26
          replace hc26 := (nI_eq (a := acN f t) (b := 1) (by omega) (by omega)).mp hc26
          refine Z_run C it_Mm_leadsBy 2 (f2 := (69, [some (.ref (D.1 37)), some (.int (nI k)), some (.int (nI f)), some (.int (nI t)), some (.int (nI 1)), some (.int (nI (dnN f t))), some (.int (nI (acN f t))), none], [.int (nI 1)])) rfl ?_
          exact Z_zret C q.e it_Mm_leadsBy rfl (Or.inr rfl) (zRet_i (bI_t (by clear q htb; first | (simp_all [ldb]; done) | (simp_all [ldb]; omega)))) (by decide) (by decide)
  · replace hc1 := Classical.not_not.mp hc1
    replace hc1 := (nI_e0 (a := k) (by omega)).mp hc1
    refine Z_run C it_Mm_leadsBy 3 (f2 := (37, [some (.ref (D.1 37)), some (.int (nI k)), some (.int (nI f)), some (.int (nI t)), some (.int (nI 1)), some (.int (nI (dnN f t))), some (.int (nI (acN f t))), none], [.int (nI (dnN f t) + nI (acN f t))])) rfl ?_
    rw [nI_add (dnN f t) (acN f t)]
    refine Z_run C it_Mm_leadsBy 1 (f2 := (38, [some (.ref (D.1 37)), some (.int (nI k)), some (.int (nI f)), some (.int (nI t)), some (.int (nI 1)), some (.int (nI (dnN f t))), some (.int (nI (acN f t))), none], [.int (nI 1), .int (nI (dnN f t + acN f t))])) rfl ?_
    refine Z_br C it_Mm_leadsBy rfl rfl (fun hc27 => ?_) (fun hc27 => ?_)
    · replace hc27 : ¬ _ := fun z9 => hc27 ((nI_eq (a := dnN f t + acN f t) (b := 1) (by omega) (by omega)).mpr z9)
      refine Z_run C it_Mm_leadsBy 1 (f2 := (46, [some (.ref (D.1 37)), some (.int (nI k)), some (.int (nI f)), some (.int (nI t)), some (.int (nI 1)), some (.int (nI (dnN f t))), some (.int (nI (acN f t))), none], [.int (nI 0)])) rfl ?_
      exact Z_zret C q.e it_Mm_leadsBy rfl (Or.inl rfl) (zRet_i (bI_f (by clear q htb; first | (simp_all [ldb]; done) | (simp_all [ldb]; omega)))) (by decide) (by decide)
    · replace hc27 := Classical.not_not.mp hc27
      replace hc27 := (nI_eq (a := dnN f t + acN f t) (b := 1) (by omega) (by omega)).mp hc27
      refine Z_run C it_Mm_leadsBy 2 (f2 := (46, [some (.ref (D.1 37)), some (.int (nI k)), some (.int (nI f)), some (.int (nI t)), some (.int (nI 1)), some (.int (nI (dnN f t))), some (.int (nI (acN f t))), none], [.int (nI 1)])) rfl ?_
      exact Z_zret C q.e it_Mm_leadsBy rfl (Or.inr rfl) (zRet_i (bI_t (by clear q htb; first | (simp_all [ldb]; done) | (simp_all [ldb]; omega)))) (by decide) (by decide)
set_option maxRecDepth 20000 in
theorem lp_Mm_goes_z {E : zE} {G : zG} {O : zO} (C : zCx E G c_Mm_goes 7 y_Mm_goes.cls y_Mm_goes.name (some .boolean) rm_Mm_goes) (q : zEndX E G O rm_Mm_goes.cells rm_Mm_goes.slots)  {D : zD} (hD : zDok E D) {V : Nat → Nat → Int32} {P : Nat → Nat → Value} {PH : aH} {F : Nat → Nat} (hF : okF F) (hz : ∀ k, k < 36 → V 38 k = nI (mo (F k))) {st : Nat} (hst : st < 32) {f t : Nat} (hf : f < 36) (ht : t < 36) {sz : Nat} (hO : O (.inl (some (.int (bI (gop F st f t 5))))) (HM D V P PH) sz) : ∀ (j i : Nat), 5 - i < j → i ≤ 5 → Z E G (HM D V P PH) sz 0 0 (6, [some (.ref (D.1 37)), some (.int (nI st)), some (.int (nI f)), some (.int (nI t)), some (.int (nI 0)), some (.int (bI (gop F st f t i))), some (.int (nI i))], []) := by
  intro j
  induction j with
  | zero =>
    intro i h1 h2
    omega
  | succ j ih =>
    intro i h1 h2
    refine Z_run C it_Mm_goes 2 (f2 := (9, [some (.ref (D.1 37)), some (.int (nI st)), some (.int (nI f)), some (.int (nI t)), some (.int (nI 0)), some (.int (bI (gop F st f t i))), some (.int (nI i))], [.int (nI 5), .int (nI i)])) rfl ?_
    refine Z_br C it_Mm_goes rfl rfl (fun hc1 => ?_) (fun hc1 => ?_)
    · replace hc1 := (nI_leI (a := 5) (b := i) (by omega) (by omega)).mp hc1
      refine Z_run C it_Mm_goes 1 (f2 := (60, [some (.ref (D.1 37)), some (.int (nI st)), some (.int (nI f)), some (.int (nI t)), some (.int (nI 0)), some (.int (bI (gop F st f t i))), some (.int (nI i))], [.int (bI (gop F st f t i))])) rfl ?_
      exact Z_zret C q.e it_Mm_goes rfl bI_v ((show i = 5 by omega) ▸ hO) (by decide) (by decide)
    · replace hc1 : ¬ _ := fun z9 => hc1 ((nI_leI (a := 5) (b := i) (by omega) (by omega)).mpr z9)
      refine Z_run C it_Mm_goes 1 (f2 := (14, [some (.ref (D.1 37)), some (.int (nI st)), some (.int (nI f)), some (.int (nI t)), some (.int (nI 0)), some (.int (bI (gop F st f t i))), some (.int (nI i))], [.int (bI (gop F st f t i))])) rfl ?_
      refine Z_br C it_Mm_goes rfl rfl (fun hc2 => ?_) (fun hc2 => ?_)
      · replace hc2 := bI_1.mp hc2
        refine Z_run C it_Mm_goes 4 (f2 := (55, [some (.ref (D.1 37)), some (.int (nI st)), some (.int (nI f)), some (.int (nI t)), some (.int (nI 0)), some (.int (nI 1)), some (.int (nI i + nI 1))], [])) rfl ?_
        rw [nI_add i 1]
        refine Z_run C it_Mm_goes 1 (f2 := (6, [some (.ref (D.1 37)), some (.int (nI st)), some (.int (nI f)), some (.int (nI t)), some (.int (nI 0)), some (.int (nI 1)), some (.int (nI (i + 1)))], [])) rfl ?_
        have e1 : nI 1 = bI (gop F st f t (i + 1)) := by have z6 : gop F st f t (i + 1) = true := (by unfold gop; rw [hc2]; first | (simp; done) | (simp [hc3]; done) | (simp [hc3, hc4]; done) | (simp [hc3, hc4, hc5]; done)); rw [z6]; rfl
        refine (congrArg (fun z9 => Z E G (HM D V P PH) sz 0 0 (6, [some (.ref (D.1 37)), some (.int (nI st)), some (.int (nI f)), some (.int (nI t)), some (.int (nI 0)), some (.int z9), some (.int (nI (i + 1)))], [])) e1).mpr ?_
        exact ih (i + 1) (by omega) (by omega)
      · replace hc2 := Classical.not_not.mp hc2
        replace hc2 := bI_0.mp hc2
        refine Z_run C it_Mm_goes 6 (f2 := (24, [some (.ref (D.1 37)), some (.int (nI st)), some (.int (nI f)), some (.int (nI t)), some (.int (nI 0)), some (.int (bI (gop F st f t i))), some (.int (nI i))], [.int (nI 1), .int ((nI st >>> (nI i &&& 31)) &&& nI 1)])) rfl ?_
        refine Z_br C it_Mm_goes rfl rfl (fun hc3 => ?_) (fun hc3 => ?_)
        · replace hc3 : kn st i = false := by rw [← Bool.not_eq_true]; exact fun z9 => hc3 ((tb_kn1 st (by omega) i (by omega)).mpr z9)
          refine Z_run C it_Mm_goes 3 (f2 := (55, [some (.ref (D.1 37)), some (.int (nI st)), some (.int (nI f)), some (.int (nI t)), some (.int (nI 0)), some (.int (nI 0)), some (.int (nI i + nI 1))], [])) rfl ?_
          rw [nI_add i 1]
          refine Z_run C it_Mm_goes 1 (f2 := (6, [some (.ref (D.1 37)), some (.int (nI st)), some (.int (nI f)), some (.int (nI t)), some (.int (nI 0)), some (.int (nI 0)), some (.int (nI (i + 1)))], [])) rfl ?_
          have e2 : nI 0 = bI (gop F st f t (i + 1)) := by have z6 : gop F st f t (i + 1) = false := (by unfold gop; rw [hc2]; first | (simp; done) | (simp [hc3]; done) | (simp [hc3, hc4]; done) | (simp [hc3, hc4, hc5]; done)); rw [z6]; rfl
          refine (congrArg (fun z9 => Z E G (HM D V P PH) sz 0 0 (6, [some (.ref (D.1 37)), some (.int (nI st)), some (.int (nI f)), some (.int (nI t)), some (.int (nI 0)), some (.int z9), some (.int (nI (i + 1)))], [])) e2).mpr ?_
          exact ih (i + 1) (by omega) (by omega)
        · replace hc3 := (tb_kn1 st (by omega) i (by omega)).mp (Classical.not_not.mp hc3)
          refine Z_run C it_Mm_goes 2 (f2 := (29, [some (.ref (D.1 37)), some (.int (nI st)), some (.int (nI f)), some (.int (nI t)), some (.int (nI 0)), some (.int (bI (gop F st f t i))), some (.int (nI i))], [.int (nI t), .int (nI f)])) rfl ?_
          refine Z_br C it_Mm_goes rfl rfl (fun hc4 => ?_) (fun hc4 => ?_)
          · replace hc4 := (nI_eq (a := f) (b := t) (by omega) (by omega)).mp hc4
            refine Z_run C it_Mm_goes 3 (f2 := (55, [some (.ref (D.1 37)), some (.int (nI st)), some (.int (nI f)), some (.int (nI t)), some (.int (nI 0)), some (.int (nI 0)), some (.int (nI i + nI 1))], [])) rfl ?_
            rw [nI_add i 1]
            refine Z_run C it_Mm_goes 1 (f2 := (6, [some (.ref (D.1 37)), some (.int (nI st)), some (.int (nI f)), some (.int (nI t)), some (.int (nI 0)), some (.int (nI 0)), some (.int (nI (i + 1)))], [])) rfl ?_
            have e3 : nI 0 = bI (gop F st f t (i + 1)) := by have z6 : gop F st f t (i + 1) = false := (by unfold gop; rw [hc2]; first | (simp; done) | (simp [hc3]; done) | (simp [hc3, hc4]; done) | (simp [hc3, hc4, hc5]; done)); rw [z6]; rfl
            refine (congrArg (fun z9 => Z E G (HM D V P PH) sz 0 0 (6, [some (.ref (D.1 37)), some (.int (nI st)), some (.int (nI f)), some (.int (nI t)), some (.int (nI 0)), some (.int z9), some (.int (nI (i + 1)))], [])) e3).mpr ?_
            exact ih (i + 1) (by omega) (by omega)
          · replace hc4 : ¬ _ := fun z9 => hc4 ((nI_eq (a := f) (b := t) (by omega) (by omega)).mpr z9)
            refine Z_run C it_Mm_goes 5 (f2 := (39, [some (.ref (D.1 37)), some (.int (nI st)), some (.int (nI f)), some (.int (nI t)), some (.int (nI 0)), some (.int (bI (gop F st f t i))), some (.int (nI i))], [.int (nI 0), .int (nI t), .int (nI f), .int (nI i), .ref (D.1 37)])) rfl ?_
            refine Zr_callV C it_Mm_goes hD rfl p_Mm_leadsBy ml_Mm_71 37 (by decide) rfl rfl [.int (nI i), .int (nI f), .int (nI t), .int (nI 0)] (ct_Mm_leadsBy_z C.ev C.l hD V P _ F hF hz i (by first | assumption | omega) f (by first | assumption | omega) t (by first | assumption | omega) _) rfl rfl ⟨by decide, by decide, by decide, by decide⟩ (Nat.le_of_ble_eq_true rfl) rfl ?_
            show Z E G (HM D V P PH) sz 0 0 (42, [some (.ref (D.1 37)), some (.int (nI st)), some (.int (nI f)), some (.int (nI t)), some (.int (nI 0)), some (.int (bI (gop F st f t i))), some (.int (nI i))], [.int (bI (ldb F i f t))])
            refine Z_br C it_Mm_goes rfl rfl (fun hc5 => ?_) (fun hc5 => ?_)
            · replace hc5 := bI_0.mp hc5
              refine Z_run C it_Mm_goes 3 (f2 := (55, [some (.ref (D.1 37)), some (.int (nI st)), some (.int (nI f)), some (.int (nI t)), some (.int (nI 0)), some (.int (nI 0)), some (.int (nI i + nI 1))], [])) rfl ?_
              rw [nI_add i 1]
              refine Z_run C it_Mm_goes 1 (f2 := (6, [some (.ref (D.1 37)), some (.int (nI st)), some (.int (nI f)), some (.int (nI t)), some (.int (nI 0)), some (.int (nI 0)), some (.int (nI (i + 1)))], [])) rfl ?_
              have e4 : nI 0 = bI (gop F st f t (i + 1)) := by have z6 : gop F st f t (i + 1) = false := (by unfold gop; rw [hc2]; first | (simp; done) | (simp [hc3]; done) | (simp [hc3, hc4]; done) | (simp [hc3, hc4, hc5]; done)); rw [z6]; rfl
              refine (congrArg (fun z9 => Z E G (HM D V P PH) sz 0 0 (6, [some (.ref (D.1 37)), some (.int (nI st)), some (.int (nI f)), some (.int (nI t)), some (.int (nI 0)), some (.int z9), some (.int (nI (i + 1)))], [])) e4).mpr ?_
              exact ih (i + 1) (by omega) (by omega)
            · replace hc5 := bI_1.mp hc5
              refine Z_run C it_Mm_goes 4 (f2 := (55, [some (.ref (D.1 37)), some (.int (nI st)), some (.int (nI f)), some (.int (nI t)), some (.int (nI 0)), some (.int (nI 1)), some (.int (nI i + nI 1))], [])) rfl ?_
              rw [nI_add i 1]
              refine Z_run C it_Mm_goes 1 (f2 := (6, [some (.ref (D.1 37)), some (.int (nI st)), some (.int (nI f)), some (.int (nI t)), some (.int (nI 0)), some (.int (nI 1)), some (.int (nI (i + 1)))], [])) rfl ?_
              have e5 : nI 1 = bI (gop F st f t (i + 1)) := by have z6 : gop F st f t (i + 1) = true := (by unfold gop; rw [hc2]; first | (simp; done) | (simp [hc3]; done) | (simp [hc3, hc4]; done) | (simp [hc3, hc4, hc5]; done)); rw [z6]; rfl
              refine (congrArg (fun z9 => Z E G (HM D V P PH) sz 0 0 (6, [some (.ref (D.1 37)), some (.int (nI st)), some (.int (nI f)), some (.int (nI t)), some (.int (nI 0)), some (.int z9), some (.int (nI (i + 1)))], [])) e5).mpr ?_
              exact ih (i + 1) (by omega) (by omega)
set_option maxRecDepth 20000 in
theorem ct_Mm_goes_z {E : zE} (hE : zEv E) {l : Launch} (hl : l.stackTraces = false) {D : zD} (hD : zDok E D) (V : Nat → Nat → Int32) (P : Nat → Nat → Value) (PH : aH) (F : Nat → Nat) (hF : okF F) (hz : ∀ k, k < 36 → V 38 k = nI (mo (F k))) (st : Nat) (hst : st < 32) (f : Nat) (hf : f < 36) (t : Nat) (ht : t < 36) (sz : Nat) : zM E l y_Mm_goes [.code y_Mm_goes c_Mm_goes 7 (some .boolean)] rm_Mm_goes [.ref (D.1 37), .int (nI st), .int (nI f), .int (nI t), .int (nI 0)] (HM D V P PH) sz (zRet (some (.int (bI (gop F st f t 5)))) (HM D V P PH) sz) := by
  refine zM_of hE hl (by decide +kernel) [some (.ref (D.1 37)), some (.int (nI st)), some (.int (nI f)), some (.int (nI t)), some (.int (nI 0)), none, none] ⟨rfl, rfl, Nat.le_of_ble_eq_true rfl⟩ ?_
  intro G C q htb
  refine Z_run C it_Mm_goes 4 (f2 := (6, [some (.ref (D.1 37)), some (.int (nI st)), some (.int (nI f)), some (.int (nI t)), some (.int (nI 0)), some (.int (nI 0)), some (.int (nI 0))], [])) rfl ?_
  exact lp_Mm_goes_z C q hD hF hz hst hf ht ⟨rfl, rfl, rfl⟩ 6 0 (by omega) (by omega)
set_option maxRecDepth 20000 in
theorem lp_Mm_goes_s {E : zE} {G : zG} {O : zO} (C : zCx E G c_Mm_goes 7 y_Mm_goes.cls y_Mm_goes.name (some .boolean) rm_Mm_goes) (q : zEndX E G O rm_Mm_goes.cells rm_Mm_goes.slots)  {D : zD} (hD : zDok E D) {V : Nat → Nat → Int32} {P : Nat → Nat → Value} {PH : aH} {F : Nat → Nat} (hF : okF F) (hz : ∀ k, k < 36 → V 41 k = nI (mo (F k))) {st : Nat} (hst : st < 32) {f t : Nat} (hf : f < 36) (ht : t < 36) {sz : Nat} (hO : O (.inl (some (.int (bI (gop F st f t 5))))) (HM D V P PH) sz) : ∀ (j i : Nat), 5 - i < j → i ≤ 5 → Z E G (HM D V P PH) sz 0 0 (6, [some (.ref (D.1 37)), some (.int (nI st)), some (.int (nI f)), some (.int (nI t)), some (.int (nI 1)), some (.int (bI (gop F st f t i))), some (.int (nI i))], []) := by
  intro j
  induction j with
  | zero =>
    intro i h1 h2
    omega
  | succ j ih =>
    intro i h1 h2
    refine Z_run C it_Mm_goes 2 (f2 := (9, [some (.ref (D.1 37)), some (.int (nI st)), some (.int (nI f)), some (.int (nI t)), some (.int (nI 1)), some (.int (bI (gop F st f t i))), some (.int (nI i))], [.int (nI 5), .int (nI i)])) rfl ?_
    refine Z_br C it_Mm_goes rfl rfl (fun hc1 => ?_) (fun hc1 => ?_)
    · replace hc1 := (nI_leI (a := 5) (b := i) (by omega) (by omega)).mp hc1
      refine Z_run C it_Mm_goes 1 (f2 := (60, [some (.ref (D.1 37)), some (.int (nI st)), some (.int (nI f)), some (.int (nI t)), some (.int (nI 1)), some (.int (bI (gop F st f t i))), some (.int (nI i))], [.int (bI (gop F st f t i))])) rfl ?_
      exact Z_zret C q.e it_Mm_goes rfl bI_v ((show i = 5 by omega) ▸ hO) (by decide) (by decide)
    · replace hc1 : ¬ _ := fun z9 => hc1 ((nI_leI (a := 5) (b := i) (by omega) (by omega)).mpr z9)
      refine Z_run C it_Mm_goes 1 (f2 := (14, [some (.ref (D.1 37)), some (.int (nI st)), some (.int (nI f)), some (.int (nI t)), some (.int (nI 1)), some (.int (bI (gop F st f t i))), some (.int (nI i))], [.int (bI (gop F st f t i))])) rfl ?_
      refine Z_br C it_Mm_goes rfl rfl (fun hc2 => ?_) (fun hc2 => ?_)
      · replace hc2 := bI_1.mp hc2
        refine Z_run C it_Mm_goes 4 (f2 := (55, [some (.ref (D.1 37)), some (.int (nI st)), some (.int (nI f)), some (.int (nI t)), some (.int (nI 1)), some (.int (nI 1)), some (.int (nI i + nI 1))], [])) rfl ?_
        rw [nI_add i 1]
        refine Z_run C it_Mm_goes 1 (f2 := (6, [some (.ref (D.1 37)), some (.int (nI st)), some (.int (nI f)), some (.int (nI t)), some (.int (nI 1)), some (.int (nI 1)), some (.int (nI (i + 1)))], [])) rfl ?_
        have e1 : nI 1 = bI (gop F st f t (i + 1)) := by have z6 : gop F st f t (i + 1) = true := (by unfold gop; rw [hc2]; first | (simp; done) | (simp [hc3]; done) | (simp [hc3, hc4]; done) | (simp [hc3, hc4, hc5]; done)); rw [z6]; rfl
        refine (congrArg (fun z9 => Z E G (HM D V P PH) sz 0 0 (6, [some (.ref (D.1 37)), some (.int (nI st)), some (.int (nI f)), some (.int (nI t)), some (.int (nI 1)), some (.int z9), some (.int (nI (i + 1)))], [])) e1).mpr ?_
        exact ih (i + 1) (by omega) (by omega)
      · replace hc2 := Classical.not_not.mp hc2
        replace hc2 := bI_0.mp hc2
        refine Z_run C it_Mm_goes 6 (f2 := (24, [some (.ref (D.1 37)), some (.int (nI st)), some (.int (nI f)), some (.int (nI t)), some (.int (nI 1)), some (.int (bI (gop F st f t i))), some (.int (nI i))], [.int (nI 1), .int ((nI st >>> (nI i &&& 31)) &&& nI 1)])) rfl ?_
        refine Z_br C it_Mm_goes rfl rfl (fun hc3 => ?_) (fun hc3 => ?_)
        · replace hc3 : kn st i = false := by rw [← Bool.not_eq_true]; exact fun z9 => hc3 ((tb_kn1 st (by omega) i (by omega)).mpr z9)
          refine Z_run C it_Mm_goes 3 (f2 := (55, [some (.ref (D.1 37)), some (.int (nI st)), some (.int (nI f)), some (.int (nI t)), some (.int (nI 1)), some (.int (nI 0)), some (.int (nI i + nI 1))], [])) rfl ?_
          rw [nI_add i 1]
          refine Z_run C it_Mm_goes 1 (f2 := (6, [some (.ref (D.1 37)), some (.int (nI st)), some (.int (nI f)), some (.int (nI t)), some (.int (nI 1)), some (.int (nI 0)), some (.int (nI (i + 1)))], [])) rfl ?_
          have e2 : nI 0 = bI (gop F st f t (i + 1)) := by have z6 : gop F st f t (i + 1) = false := (by unfold gop; rw [hc2]; first | (simp; done) | (simp [hc3]; done) | (simp [hc3, hc4]; done) | (simp [hc3, hc4, hc5]; done)); rw [z6]; rfl
          refine (congrArg (fun z9 => Z E G (HM D V P PH) sz 0 0 (6, [some (.ref (D.1 37)), some (.int (nI st)), some (.int (nI f)), some (.int (nI t)), some (.int (nI 1)), some (.int z9), some (.int (nI (i + 1)))], [])) e2).mpr ?_
          exact ih (i + 1) (by omega) (by omega)
        · replace hc3 := (tb_kn1 st (by omega) i (by omega)).mp (Classical.not_not.mp hc3)
          refine Z_run C it_Mm_goes 2 (f2 := (29, [some (.ref (D.1 37)), some (.int (nI st)), some (.int (nI f)), some (.int (nI t)), some (.int (nI 1)), some (.int (bI (gop F st f t i))), some (.int (nI i))], [.int (nI t), .int (nI f)])) rfl ?_
          refine Z_br C it_Mm_goes rfl rfl (fun hc4 => ?_) (fun hc4 => ?_)
          · replace hc4 := (nI_eq (a := f) (b := t) (by omega) (by omega)).mp hc4
            refine Z_run C it_Mm_goes 3 (f2 := (55, [some (.ref (D.1 37)), some (.int (nI st)), some (.int (nI f)), some (.int (nI t)), some (.int (nI 1)), some (.int (nI 0)), some (.int (nI i + nI 1))], [])) rfl ?_
            rw [nI_add i 1]
            refine Z_run C it_Mm_goes 1 (f2 := (6, [some (.ref (D.1 37)), some (.int (nI st)), some (.int (nI f)), some (.int (nI t)), some (.int (nI 1)), some (.int (nI 0)), some (.int (nI (i + 1)))], [])) rfl ?_
            have e3 : nI 0 = bI (gop F st f t (i + 1)) := by have z6 : gop F st f t (i + 1) = false := (by unfold gop; rw [hc2]; first | (simp; done) | (simp [hc3]; done) | (simp [hc3, hc4]; done) | (simp [hc3, hc4, hc5]; done)); rw [z6]; rfl
            refine (congrArg (fun z9 => Z E G (HM D V P PH) sz 0 0 (6, [some (.ref (D.1 37)), some (.int (nI st)), some (.int (nI f)), some (.int (nI t)), some (.int (nI 1)), some (.int z9), some (.int (nI (i + 1)))], [])) e3).mpr ?_
            exact ih (i + 1) (by omega) (by omega)
          · replace hc4 : ¬ _ := fun z9 => hc4 ((nI_eq (a := f) (b := t) (by omega) (by omega)).mpr z9)
            refine Z_run C it_Mm_goes 5 (f2 := (39, [some (.ref (D.1 37)), some (.int (nI st)), some (.int (nI f)), some (.int (nI t)), some (.int (nI 1)), some (.int (bI (gop F st f t i))), some (.int (nI i))], [.int (nI 1), .int (nI t), .int (nI f), .int (nI i), .ref (D.1 37)])) rfl ?_
            refine Zr_callV C it_Mm_goes hD rfl p_Mm_leadsBy ml_Mm_71 37 (by decide) rfl rfl [.int (nI i), .int (nI f), .int (nI t), .int (nI 1)] (ct_Mm_leadsBy_s C.ev C.l hD V P _ F hF hz i (by first | assumption | omega) f (by first | assumption | omega) t (by first | assumption | omega) _) rfl rfl ⟨by decide, by decide, by decide, by decide⟩ (Nat.le_of_ble_eq_true rfl) rfl ?_
            show Z E G (HM D V P PH) sz 0 0 (42, [some (.ref (D.1 37)), some (.int (nI st)), some (.int (nI f)), some (.int (nI t)), some (.int (nI 1)), some (.int (bI (gop F st f t i))), some (.int (nI i))], [.int (bI (ldb F i f t))])
            refine Z_br C it_Mm_goes rfl rfl (fun hc5 => ?_) (fun hc5 => ?_)
            · replace hc5 := bI_0.mp hc5
              refine Z_run C it_Mm_goes 3 (f2 := (55, [some (.ref (D.1 37)), some (.int (nI st)), some (.int (nI f)), some (.int (nI t)), some (.int (nI 1)), some (.int (nI 0)), some (.int (nI i + nI 1))], [])) rfl ?_
              rw [nI_add i 1]
              refine Z_run C it_Mm_goes 1 (f2 := (6, [some (.ref (D.1 37)), some (.int (nI st)), some (.int (nI f)), some (.int (nI t)), some (.int (nI 1)), some (.int (nI 0)), some (.int (nI (i + 1)))], [])) rfl ?_
              have e4 : nI 0 = bI (gop F st f t (i + 1)) := by have z6 : gop F st f t (i + 1) = false := (by unfold gop; rw [hc2]; first | (simp; done) | (simp [hc3]; done) | (simp [hc3, hc4]; done) | (simp [hc3, hc4, hc5]; done)); rw [z6]; rfl
              refine (congrArg (fun z9 => Z E G (HM D V P PH) sz 0 0 (6, [some (.ref (D.1 37)), some (.int (nI st)), some (.int (nI f)), some (.int (nI t)), some (.int (nI 1)), some (.int z9), some (.int (nI (i + 1)))], [])) e4).mpr ?_
              exact ih (i + 1) (by omega) (by omega)
            · replace hc5 := bI_1.mp hc5
              refine Z_run C it_Mm_goes 4 (f2 := (55, [some (.ref (D.1 37)), some (.int (nI st)), some (.int (nI f)), some (.int (nI t)), some (.int (nI 1)), some (.int (nI 1)), some (.int (nI i + nI 1))], [])) rfl ?_
              rw [nI_add i 1]
              refine Z_run C it_Mm_goes 1 (f2 := (6, [some (.ref (D.1 37)), some (.int (nI st)), some (.int (nI f)), some (.int (nI t)), some (.int (nI 1)), some (.int (nI 1)), some (.int (nI (i + 1)))], [])) rfl ?_
              have e5 : nI 1 = bI (gop F st f t (i + 1)) := by have z6 : gop F st f t (i + 1) = true := (by unfold gop; rw [hc2]; first | (simp; done) | (simp [hc3]; done) | (simp [hc3, hc4]; done) | (simp [hc3, hc4, hc5]; done)); rw [z6]; rfl
              refine (congrArg (fun z9 => Z E G (HM D V P PH) sz 0 0 (6, [some (.ref (D.1 37)), some (.int (nI st)), some (.int (nI f)), some (.int (nI t)), some (.int (nI 1)), some (.int z9), some (.int (nI (i + 1)))], [])) e5).mpr ?_
              exact ih (i + 1) (by omega) (by omega)
set_option maxRecDepth 20000 in
theorem ct_Mm_goes_s {E : zE} (hE : zEv E) {l : Launch} (hl : l.stackTraces = false) {D : zD} (hD : zDok E D) (V : Nat → Nat → Int32) (P : Nat → Nat → Value) (PH : aH) (F : Nat → Nat) (hF : okF F) (hz : ∀ k, k < 36 → V 41 k = nI (mo (F k))) (st : Nat) (hst : st < 32) (f : Nat) (hf : f < 36) (t : Nat) (ht : t < 36) (sz : Nat) : zM E l y_Mm_goes [.code y_Mm_goes c_Mm_goes 7 (some .boolean)] rm_Mm_goes [.ref (D.1 37), .int (nI st), .int (nI f), .int (nI t), .int (nI 1)] (HM D V P PH) sz (zRet (some (.int (bI (gop F st f t 5)))) (HM D V P PH) sz) := by
  refine zM_of hE hl (by decide +kernel) [some (.ref (D.1 37)), some (.int (nI st)), some (.int (nI f)), some (.int (nI t)), some (.int (nI 1)), none, none] ⟨rfl, rfl, Nat.le_of_ble_eq_true rfl⟩ ?_
  intro G C q htb
  refine Z_run C it_Mm_goes 4 (f2 := (6, [some (.ref (D.1 37)), some (.int (nI st)), some (.int (nI f)), some (.int (nI t)), some (.int (nI 1)), some (.int (nI 0)), some (.int (nI 0))], [])) rfl ?_
  exact lp_Mm_goes_s C q hD hF hz hst hf ht ⟨rfl, rfl, rfl⟩ 6 0 (by omega) (by omega)
