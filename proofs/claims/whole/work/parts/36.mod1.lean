/-! ===== the model: its smallest methods ===== -/
theorem in_f1 {a k : Nat} (hk : k < 2147483648) (h : nI a < nI 0) : ¬ a ≤ k := fun z => nI_nn (a := a) (by omega) h
theorem in_t {a k : Nat} (h32 : a < 4294967296) (hk : k < 2147483648) (h1 : ¬ nI a < nI 0) (h2 : ¬ nI k < nI a) : a ≤ k := by
  by_cases h3 : a < 2147483648
  · by_cases h4 : a ≤ k
    · exact h4
    · exact absurd ((nI_ltI (a := k) (b := a) (by omega) (by omega)).mpr (by omega)) h2
  · exact absurd (nI_neg (a := a) (by omega) h32) h1
theorem in_f2 {a k : Nat} (hk : k < 2147483648) (h2 : nI k < nI a) : ¬ a ≤ k := fun z => absurd ((nI_ltI (a := k) (b := a) (by omega) (by omega)).mp h2) (by omega)
set_option maxRecDepth 20000 in
theorem ct_Mm_thrown {E : zE} (hE : zEv E) {l : Launch} (hl : l.stackTraces = false) {D : zD} (hD : zDok E D) (V : Nat → Nat → Int32) (P : Nat → Nat → Value) (PH : aH) (sz : Nat) : zM E l y_Mm_thrown [.code y_Mm_thrown c_Mm_thrown 1 (some .int)] rm_Mm_thrown [.ref (D.1 37)] (HM D V P PH) sz (zRet (some (.int (V 37 8))) (HM D V P PH) sz) := by
  refine zM_of hE hl (by decide +kernel) [some (.ref (D.1 37))] ⟨rfl, rfl, Nat.le_of_ble_eq_true rfl⟩ ?_
  intro G C q htb
  refine Z_run C it_Mm_thrown 1 (f2 := (1, [some (.ref (D.1 37))], [.ref (D.1 37)])) rfl ?_
  refine Zm_get C it_Mm_thrown hD rfl 37 wi_Mm (by decide) rfl rfl (j := 8) (by decide) fl_Mm_29 (v := .int (V 37 8)) rfl ?_
  exact Z_iret C q.e it_Mm_thrown rfl (zRet_i rfl) (by decide) (by decide)
set_option maxRecDepth 20000 in
theorem ct_Mm_says {E : zE} (hE : zEv E) {l : Launch} (hl : l.stackTraces = false) {D : zD} (hD : zDok E D) (V : Nat → Nat → Int32) (P : Nat → Nat → Value) (PH : aH) (x : Int32) (sz : Nat) : zM E l y_Mm_says [.code y_Mm_says c_Mm_says 2 (some .int)] rm_Mm_says [.ref (D.1 37), .int x] (HM D V P PH) sz (zRet (some (.int x)) (HM D (vset V 37 8 (nI 0)) P PH) sz) := by
  refine zM_of hE hl (by decide +kernel) [some (.ref (D.1 37)), some (.int x)] ⟨rfl, rfl, Nat.le_of_ble_eq_true rfl⟩ ?_
  intro G C q htb
  refine Z_run C it_Mm_says 2 (f2 := (2, [some (.ref (D.1 37)), some (.int x)], [.int (nI 0), .ref (D.1 37)])) rfl ?_
  refine Zm_put C it_Mm_says hD rfl 37 wi_Mm t_Mm t_Mm_ok n_Mm (by first | decide | omega) rfl rfl (j := 8) (by decide) fl_Mm_29 rfl rfl rfl rfl ?_
  refine Z_run C it_Mm_says 1 (f2 := (6, [some (.ref (D.1 37)), some (.int x)], [.int x])) rfl ?_
  exact Z_iret C q.e it_Mm_says rfl (zRet_iH rfl rfl) (by decide) (by decide)
set_option maxRecDepth 20000 in
theorem ct_Mm_in {E : zE} (hE : zEv E) {l : Launch} (hl : l.stackTraces = false) (a : Nat) (h32 : a < 4294967296) (k : Nat) (hk : k < 2147483648) (h : aH) (sz : Nat) : zM E l y_Mm_in [.code y_Mm_in c_Mm_in 3 (some .boolean)] rm_Mm_in [.int (nI a), .int (nI 0), .int (nI k)] h sz (zRet (some (.int (bI (decide (a ≤ k))))) h sz) := by
  refine zM_of hE hl (by decide +kernel) [some (.int (nI a)), some (.int (nI 0)), some (.int (nI k))] ⟨rfl, rfl, Nat.le_of_ble_eq_true rfl⟩ ?_
  intro G C q htb
  refine Z_run C it_Mm_in 2 (f2 := (2, [some (.int (nI a)), some (.int (nI 0)), some (.int (nI k))], [.int (nI 0), .int (nI a)])) rfl ?_
  refine Z_br C it_Mm_in rfl rfl (fun hc1 => ?_) (fun hc1 => ?_)
  · skip
    refine Z_run C it_Mm_in 1 (f2 := (15, [some (.int (nI a)), some (.int (nI 0)), some (.int (nI k))], [.int (nI 0)])) rfl ?_
    exact Z_zret C q.e it_Mm_in rfl (Or.inl rfl) (zRet_i (bI_f (decide_eq_false (in_f1 hk hc1)))) (by decide) (by decide)
  · skip
    refine Z_run C it_Mm_in 2 (f2 := (7, [some (.int (nI a)), some (.int (nI 0)), some (.int (nI k))], [.int (nI k), .int (nI a)])) rfl ?_
    refine Z_br C it_Mm_in rfl rfl (fun hc2 => ?_) (fun hc2 => ?_)
    · skip
      refine Z_run C it_Mm_in 1 (f2 := (15, [some (.int (nI a)), some (.int (nI 0)), some (.int (nI k))], [.int (nI 0)])) rfl ?_
      exact Z_zret C q.e it_Mm_in rfl (Or.inl rfl) (zRet_i (bI_f (decide_eq_false (in_f2 hk hc2)))) (by decide) (by decide)
    · skip
      refine Z_run C it_Mm_in 2 (f2 := (15, [some (.int (nI a)), some (.int (nI 0)), some (.int (nI k))], [.int (nI 1)])) rfl ?_
      exact Z_zret C q.e it_Mm_in rfl (Or.inr rfl) (zRet_i (bI_t (decide_eq_true (in_t h32 hk hc1 hc2)))) (by decide) (by decide)
