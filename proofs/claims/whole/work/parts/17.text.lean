/-! ===== MoveText ===== -/
def okT (V : Nat → Nat → Int32) (T : Nat → Nat) : Prop := ∀ k, k < 60 → V 34 k = nI (T k) ∧ T k < 65536
def dig (c : Nat) : Bool := decide (49 ≤ c) && decide (c ≤ 54)
def lett (c : Nat) : Bool := decide (97 ≤ c) && decide (c ≤ 102)
def els (T : Nat → Nat) (i : Nat) : Bool := decide (i < 3) || (T i != T (i - 2) || T (i - 1) != T (i - 3))
def fit5 (T : Nat → Nat) (i r : Nat) : Bool := if r = 0 ∨ r = 2 then lett (T i) else if r = 1 then dig (T i) else if r = 3 then dig (T i) && els T i else T i == 32
def fit (T : Nat → Nat) (i : Nat) : Bool := fit5 T i (i % 5)
def fmf (T : Nat → Nat) (n : Nat) : Nat := (ffr (fun k => !fit T k) n 0).getD n
theorem nar_c {c : Nat} (h : c < 65536) : zfit 13 (.int (nI c)) := by
  show narrow .char (.int (nI c)) = .int (nI c)
  have e : ((nI c).toUInt32 % 65536).toInt32 = nI c := by
    apply Int32.toBitVec_inj.mp
    show (BitVec.ofNat 32 c) % 65536#32 = BitVec.ofNat 32 c
    apply BitVec.eq_of_toNat_eq
    rw [BitVec.toNat_umod, BitVec.toNat_ofNat]
    show c % 2 ^ 32 % 65536 = c % 2 ^ 32
    omega
  exact congrArg Value.int e
set_option maxRecDepth 20000 in
theorem ct_Tx_isDigit {E : zE} (hE : zEv E) {l : Launch} (hl : l.stackTraces = false) (c : Nat) (hc : c < 65536) (h : aH) (sz : Nat) : zM E l y_Tx_isDigit [.code y_Tx_isDigit c_Tx_isDigit 1 (some .boolean)] rm_Tx_isDigit [.int (nI c)] h sz (zRet (some (.int (bI (dig c)))) h sz) := by
  refine zM_of hE hl (by decide +kernel) [some (.int (nI c))] ⟨rfl, rfl, Nat.le_of_ble_eq_true rfl⟩ ?_
  intro G C q htb
  refine Z_run C it_Tx_isDigit 2 (f2 := (3, [some (.int (nI c))], [.int (nI 49), .int (nI c)])) rfl ?_
  refine Z_br C it_Tx_isDigit rfl rfl (fun hc1 => ?_) (fun hc1 => ?_)
  · replace hc1 := (nI_ltI (a := c) (b := 49) (by omega) (by omega)).mp hc1
    refine Z_run C it_Tx_isDigit 1 (f2 := (17, [some (.int (nI c))], [.int (nI 0)])) rfl ?_
    exact Z_zret C q.e it_Tx_isDigit rfl (Or.inl rfl) (zRet_i (bI_f (by simp [dig] <;> omega))) (by decide) (by decide)
  · replace hc1 : ¬ _ := fun z9 => hc1 ((nI_ltI (a := c) (b := 49) (by omega) (by omega)).mpr z9)
    refine Z_run C it_Tx_isDigit 2 (f2 := (9, [some (.int (nI c))], [.int (nI 54), .int (nI c)])) rfl ?_
    refine Z_br C it_Tx_isDigit rfl rfl (fun hc2 => ?_) (fun hc2 => ?_)
    · replace hc2 := (nI_ltI (a := 54) (b := c) (by omega) (by omega)).mp hc2
      refine Z_run C it_Tx_isDigit 1 (f2 := (17, [some (.int (nI c))], [.int (nI 0)])) rfl ?_
      exact Z_zret C q.e it_Tx_isDigit rfl (Or.inl rfl) (zRet_i (bI_f (by simp [dig] <;> omega))) (by decide) (by decide)
    · replace hc2 : ¬ _ := fun z9 => hc2 ((nI_ltI (a := 54) (b := c) (by omega) (by omega)).mpr z9)
      refine Z_run C it_Tx_isDigit 2 (f2 := (17, [some (.int (nI c))], [.int (nI 1)])) rfl ?_
      exact Z_zret C q.e it_Tx_isDigit rfl (Or.inr rfl) (zRet_i (bI_t (by simp [dig] <;> omega))) (by decide) (by decide)
set_option maxRecDepth 20000 in
theorem ct_Tx_endsElsewhere {E : zE} (hE : zEv E) {l : Launch} (hl : l.stackTraces = false) {D : zD} (hD : zDok E D) (V : Nat → Nat → Int32) (P : Nat → Nat → Value) (PH : aH) (T : Nat → Nat) (hT : okT V T) (i : Nat) (hi : i < 60) (sz : Nat) : zM E l y_Tx_endsElsewhere [.code y_Tx_endsElsewhere c_Tx_endsElsewhere 2 (some .boolean)] rm_Tx_endsElsewhere [.ref (D.1 33), .int (nI i)] (HM D V P PH) sz (zRet (some (.int (bI (els T i)))) (HM D V P PH) sz) := by
  refine zM_of hE hl (by decide +kernel) [some (.ref (D.1 33)), some (.int (nI i))] ⟨rfl, rfl, Nat.le_of_ble_eq_true rfl⟩ ?_
  intro G C q htb
  have c0 := (hT i (by omega)).2
  have c1 := (hT (i - 1) (by omega)).2
  have c2 := (hT (i - 2) (by omega)).2
  have c3 := (hT (i - 3) (by omega)).2
  refine Z_run C it_Tx_endsElsewhere 2 (f2 := (2, [some (.ref (D.1 33)), some (.int (nI i))], [.int (nI 3), .int (nI i)])) rfl ?_
  refine Z_br C it_Tx_endsElsewhere rfl rfl (fun hc1 => ?_) (fun hc1 => ?_)
  · replace hc1 := (nI_ltI (a := i) (b := 3) (by omega) (by omega)).mp hc1
    refine Z_run C it_Tx_endsElsewhere 2 (f2 := (46, [some (.ref (D.1 33)), some (.int (nI i))], [.int (nI 1)])) rfl ?_
    exact Z_zret C q.e it_Tx_endsElsewhere rfl (Or.inr rfl) (zRet_i (bI_t (by simp_all [els] <;> omega))) (by decide) (by decide)
  · replace hc1 : ¬ _ := fun z9 => hc1 ((nI_ltI (a := i) (b := 3) (by omega) (by omega)).mpr z9)
    refine Z_run C it_Tx_endsElsewhere 1 (f2 := (6, [some (.ref (D.1 33)), some (.int (nI i))], [.ref (D.1 33)])) rfl ?_
    refine Zm_get C it_Tx_endsElsewhere hD rfl 33 wi_Tx (by decide) rfl rfl (j := 0) (by decide) fl_Tx_11 (v := .ref (D.1 34)) rfl ?_
    refine Z_run C it_Tx_endsElsewhere 1 (f2 := (10, [some (.ref (D.1 33)), some (.int (nI i))], [.int (nI i), .ref (D.1 34)])) rfl ?_
    refine Zm_ald C it_Tx_endsElsewhere hD 34 13 rfl (by decide) rfl (by decide) (by decide) rfl (j := i) (by omega) (v := .int (nI (T i))) (congrArg Value.int (hT i (by omega)).1) ?_
    refine Z_run C it_Tx_endsElsewhere 1 (f2 := (12, [some (.ref (D.1 33)), some (.int (nI i))], [.ref (D.1 33), .int (nI (T i))])) rfl ?_
    refine Zm_get C it_Tx_endsElsewhere hD rfl 33 wi_Tx (by decide) rfl rfl (j := 0) (by decide) fl_Tx_11 (v := .ref (D.1 34)) rfl ?_
    refine Z_run C it_Tx_endsElsewhere 3 (f2 := (18, [some (.ref (D.1 33)), some (.int (nI i))], [.int (nI i - nI 2), .ref (D.1 34), .int (nI (T i))])) rfl ?_
    have e1 : nI i - nI 2 = nI (i - 2) := nI_sub (by omega)
    rw [e1]
    refine Zm_ald C it_Tx_endsElsewhere hD 34 13 rfl (by decide) rfl (by decide) (by decide) rfl (j := i - 2) (by omega) (v := .int (nI (T (i - 2)))) (congrArg Value.int (hT (i - 2) (by omega)).1) ?_
    refine Z_br C it_Tx_endsElsewhere rfl rfl (fun hc2 => ?_) (fun hc2 => ?_)
    · replace hc2 : ¬ _ := fun z9 => hc2 ((nI_eq (a := T i) (b := T (i - 2)) (by omega) (by omega)).mpr z9)
      refine Z_run C it_Tx_endsElsewhere 2 (f2 := (46, [some (.ref (D.1 33)), some (.int (nI i))], [.int (nI 1)])) rfl ?_
      exact Z_zret C q.e it_Tx_endsElsewhere rfl (Or.inr rfl) (zRet_i (bI_t (by simp_all [els] <;> omega))) (by decide) (by decide)
    · replace hc2 := Classical.not_not.mp hc2
      replace hc2 := (nI_eq (a := T i) (b := T (i - 2)) (by omega) (by omega)).mp hc2
      refine Z_run C it_Tx_endsElsewhere 1 (f2 := (23, [some (.ref (D.1 33)), some (.int (nI i))], [.ref (D.1 33)])) rfl ?_
      refine Zm_get C it_Tx_endsElsewhere hD rfl 33 wi_Tx (by decide) rfl rfl (j := 0) (by decide) fl_Tx_11 (v := .ref (D.1 34)) rfl ?_
      refine Z_run C it_Tx_endsElsewhere 3 (f2 := (29, [some (.ref (D.1 33)), some (.int (nI i))], [.int (nI i - nI 1), .ref (D.1 34)])) rfl ?_
      have e2 : nI i - nI 1 = nI (i - 1) := nI_sub (by omega)
      rw [e2]
      refine Zm_ald C it_Tx_endsElsewhere hD 34 13 rfl (by decide) rfl (by decide) (by decide) rfl (j := i - 1) (by omega) (v := .int (nI (T (i - 1)))) (congrArg Value.int (hT (i - 1) (by omega)).1) ?_
      refine Z_run C it_Tx_endsElsewhere 1 (f2 := (31, [some (.ref (D.1 33)), some (.int (nI i))], [.ref (D.1 33), .int (nI (T (i - 1)))])) rfl ?_
      refine Zm_get C it_Tx_endsElsewhere hD rfl 33 wi_Tx (by decide) rfl rfl (j := 0) (by decide) fl_Tx_11 (v := .ref (D.1 34)) rfl ?_
      refine Z_run C it_Tx_endsElsewhere 3 (f2 := (37, [some (.ref (D.1 33)), some (.int (nI i))], [.int (nI i - nI 3), .ref (D.1 34), .int (nI (T (i - 1)))])) rfl ?_
      have e3 : nI i - nI 3 = nI (i - 3) := nI_sub (by omega)
      rw [e3]
      refine Zm_ald C it_Tx_endsElsewhere hD 34 13 rfl (by decide) rfl (by decide) (by decide) rfl (j := i - 3) (by omega) (v := .int (nI (T (i - 3)))) (congrArg Value.int (hT (i - 3) (by omega)).1) ?_
      refine Z_br C it_Tx_endsElsewhere rfl rfl (fun hc3 => ?_) (fun hc3 => ?_)
      · replace hc3 := (nI_eq (a := T (i - 1)) (b := T (i - 3)) (by omega) (by omega)).mp hc3
        refine Z_run C it_Tx_endsElsewhere 1 (f2 := (46, [some (.ref (D.1 33)), some (.int (nI i))], [.int (nI 0)])) rfl ?_
        exact Z_zret C q.e it_Tx_endsElsewhere rfl (Or.inl rfl) (zRet_i (bI_f (by simp_all [els] <;> omega))) (by decide) (by decide)
      · replace hc3 : ¬ _ := fun z9 => hc3 ((nI_eq (a := T (i - 1)) (b := T (i - 3)) (by omega) (by omega)).mpr z9)
        refine Z_run C it_Tx_endsElsewhere 2 (f2 := (46, [some (.ref (D.1 33)), some (.int (nI i))], [.int (nI 1)])) rfl ?_
        exact Z_zret C q.e it_Tx_endsElsewhere rfl (Or.inr rfl) (zRet_i (bI_t (by simp_all [els] <;> omega))) (by decide) (by decide)
set_option maxRecDepth 20000 in
theorem ct_Tx_fits {E : zE} (hE : zEv E) {l : Launch} (hl : l.stackTraces = false) {D : zD} (hD : zDok E D) (V : Nat → Nat → Int32) (P : Nat → Nat → Value) (PH : aH) (T : Nat → Nat) (hT : okT V T) (i : Nat) (hi : i < 60) (sz : Nat) : zM E l y_Tx_fits [.code y_Tx_fits c_Tx_fits 3 (some .boolean)] rm_Tx_fits [.ref (D.1 33), .int (nI i)] (HM D V P PH) sz (zRet (some (.int (bI (fit T i)))) (HM D V P PH) sz) := by
  refine zM_of hE hl (by decide +kernel) [some (.ref (D.1 33)), some (.int (nI i)), none] ⟨rfl, rfl, Nat.le_of_ble_eq_true rfl⟩ ?_
  intro G C q htb
  have c0 := (hT i (by omega)).2
  refine Z_run C it_Tx_fits 1 (f2 := (1, [some (.ref (D.1 33)), some (.int (nI i)), none], [.ref (D.1 33)])) rfl ?_
  refine Zm_get C it_Tx_fits hD rfl 33 wi_Tx (by decide) rfl rfl (j := 0) (by decide) fl_Tx_11 (v := .ref (D.1 34)) rfl ?_
  refine Z_run C it_Tx_fits 1 (f2 := (5, [some (.ref (D.1 33)), some (.int (nI i)), none], [.int (nI i), .ref (D.1 34)])) rfl ?_
  refine Zm_ald C it_Tx_fits hD 34 13 rfl (by decide) rfl (by decide) (by decide) rfl (j := i) (by omega) (v := .int (nI (T i))) (congrArg Value.int (hT i (by omega)).1) ?_
  refine Z_run C it_Tx_fits 4 (f2 := (10, [some (.ref (D.1 33)), some (.int (nI i)), some (.int (nI (T i)))], [.int (nI i % nI 5)])) rfl ?_
  rw [nI_mod (a := i) (d := 5) (by omega) (by omega) (by omega)]
  have h5 : i % 5 = 0 ∨ i % 5 = 1 ∨ i % 5 = 2 ∨ i % 5 = 3 ∨ i % 5 = 4 := by omega
  rcases h5 with h5 | h5 | h5 | h5 | h5
  · rw [h5]
    refine Z_swIn C it_Tx_fits rfl (x := nI 0) (tgt := 40) (by decide) (by decide) rfl rfl ?_
    refine Z_run C it_Tx_fits 2 (f2 := (43, [some (.ref (D.1 33)), some (.int (nI i)), some (.int (nI (T i)))], [.int (nI 97), .int (nI (T i))])) rfl ?_
    refine Z_br C it_Tx_fits rfl rfl (fun hc1 => ?_) (fun hc1 => ?_)
    · replace hc1 := (nI_ltI (a := T i) (b := 97) (by omega) (by omega)).mp hc1
      refine Z_run C it_Tx_fits 1 (f2 := (57, [some (.ref (D.1 33)), some (.int (nI i)), some (.int (nI (T i)))], [.int (nI 0)])) rfl ?_
      exact Z_zret C q.e it_Tx_fits rfl (Or.inl rfl) (zRet_i (bI_f (by unfold fit fit5; rw [h5]; simp_all [lett] <;> omega))) (by decide) (by decide)
    · replace hc1 : ¬ _ := fun z9 => hc1 ((nI_ltI (a := T i) (b := 97) (by omega) (by omega)).mpr z9)
      refine Z_run C it_Tx_fits 2 (f2 := (49, [some (.ref (D.1 33)), some (.int (nI i)), some (.int (nI (T i)))], [.int (nI 102), .int (nI (T i))])) rfl ?_
      refine Z_br C it_Tx_fits rfl rfl (fun hc2 => ?_) (fun hc2 => ?_)
      · replace hc2 := (nI_ltI (a := 102) (b := T i) (by omega) (by omega)).mp hc2
        refine Z_run C it_Tx_fits 1 (f2 := (57, [some (.ref (D.1 33)), some (.int (nI i)), some (.int (nI (T i)))], [.int (nI 0)])) rfl ?_
        exact Z_zret C q.e it_Tx_fits rfl (Or.inl rfl) (zRet_i (bI_f (by unfold fit fit5; rw [h5]; simp_all [lett] <;> omega))) (by decide) (by decide)
      · replace hc2 : ¬ _ := fun z9 => hc2 ((nI_ltI (a := 102) (b := T i) (by omega) (by omega)).mpr z9)
        refine Z_run C it_Tx_fits 2 (f2 := (57, [some (.ref (D.1 33)), some (.int (nI i)), some (.int (nI (T i)))], [.int (nI 1)])) rfl ?_
        exact Z_zret C q.e it_Tx_fits rfl (Or.inr rfl) (zRet_i (bI_t (by unfold fit fit5; rw [h5]; simp_all [lett] <;> omega))) (by decide) (by decide)
  · rw [h5]
    refine Z_swIn C it_Tx_fits rfl (x := nI 1) (tgt := 58) (by decide) (by decide) rfl rfl ?_
    refine Z_run C it_Tx_fits 1 (f2 := (59, [some (.ref (D.1 33)), some (.int (nI i)), some (.int (nI (T i)))], [.int (nI (T i))])) rfl ?_
    refine Zr_callS C it_Tx_fits rfl p_Tx_isDigit ml_Tx_27 [.int (nI (T i))] (ct_Tx_isDigit C.ev C.l (T i) (by omega) (HM D V P PH) _) rfl rfl ⟨by decide, by decide, by decide, by decide⟩ (Nat.le_of_ble_eq_true rfl) rfl ?_
    show Z E G (HM D V P PH) sz 0 0 (62, [some (.ref (D.1 33)), some (.int (nI i)), some (.int (nI (T i)))], [.int (bI (dig (T i)))])
    exact Z_zret C q.e it_Tx_fits rfl bI_v (zRet_i (by unfold fit fit5; rw [h5]; rfl)) (by decide) (by decide)
  · rw [h5]
    refine Z_swIn C it_Tx_fits rfl (x := nI 2) (tgt := 40) (by decide) (by decide) rfl rfl ?_
    refine Z_run C it_Tx_fits 2 (f2 := (43, [some (.ref (D.1 33)), some (.int (nI i)), some (.int (nI (T i)))], [.int (nI 97), .int (nI (T i))])) rfl ?_
    refine Z_br C it_Tx_fits rfl rfl (fun hc3 => ?_) (fun hc3 => ?_)
    · replace hc3 := (nI_ltI (a := T i) (b := 97) (by omega) (by omega)).mp hc3
      refine Z_run C it_Tx_fits 1 (f2 := (57, [some (.ref (D.1 33)), some (.int (nI i)), some (.int (nI (T i)))], [.int (nI 0)])) rfl ?_
      exact Z_zret C q.e it_Tx_fits rfl (Or.inl rfl) (zRet_i (bI_f (by unfold fit fit5; rw [h5]; simp_all [lett] <;> omega))) (by decide) (by decide)
    · replace hc3 : ¬ _ := fun z9 => hc3 ((nI_ltI (a := T i) (b := 97) (by omega) (by omega)).mpr z9)
      refine Z_run C it_Tx_fits 2 (f2 := (49, [some (.ref (D.1 33)), some (.int (nI i)), some (.int (nI (T i)))], [.int (nI 102), .int (nI (T i))])) rfl ?_
      refine Z_br C it_Tx_fits rfl rfl (fun hc4 => ?_) (fun hc4 => ?_)
      · replace hc4 := (nI_ltI (a := 102) (b := T i) (by omega) (by omega)).mp hc4
        refine Z_run C it_Tx_fits 1 (f2 := (57, [some (.ref (D.1 33)), some (.int (nI i)), some (.int (nI (T i)))], [.int (nI 0)])) rfl ?_
        exact Z_zret C q.e it_Tx_fits rfl (Or.inl rfl) (zRet_i (bI_f (by unfold fit fit5; rw [h5]; simp_all [lett] <;> omega))) (by decide) (by decide)
      · replace hc4 : ¬ _ := fun z9 => hc4 ((nI_ltI (a := 102) (b := T i) (by omega) (by omega)).mpr z9)
        refine Z_run C it_Tx_fits 2 (f2 := (57, [some (.ref (D.1 33)), some (.int (nI i)), some (.int (nI (T i)))], [.int (nI 1)])) rfl ?_
        exact Z_zret C q.e it_Tx_fits rfl (Or.inr rfl) (zRet_i (bI_t (by unfold fit fit5; rw [h5]; simp_all [lett] <;> omega))) (by decide) (by decide)
  · rw [h5]
    refine Z_swIn C it_Tx_fits rfl (x := nI 3) (tgt := 63) (by decide) (by decide) rfl rfl ?_
    refine Z_run C it_Tx_fits 1 (f2 := (64, [some (.ref (D.1 33)), some (.int (nI i)), some (.int (nI (T i)))], [.int (nI (T i))])) rfl ?_
    refine Zr_callS C it_Tx_fits rfl p_Tx_isDigit ml_Tx_27 [.int (nI (T i))] (ct_Tx_isDigit C.ev C.l (T i) (by omega) (HM D V P PH) _) rfl rfl ⟨by decide, by decide, by decide, by decide⟩ (Nat.le_of_ble_eq_true rfl) rfl ?_
    show Z E G (HM D V P PH) sz 0 0 (67, [some (.ref (D.1 33)), some (.int (nI i)), some (.int (nI (T i)))], [.int (bI (dig (T i)))])
    refine Z_br C it_Tx_fits rfl rfl (fun hc5 => ?_) (fun hc5 => ?_)
    · replace hc5 := bI_0.mp hc5
      refine Z_run C it_Tx_fits 1 (f2 := (83, [some (.ref (D.1 33)), some (.int (nI i)), some (.int (nI (T i)))], [.int (nI 0)])) rfl ?_
      exact Z_zret C q.e it_Tx_fits rfl (Or.inl rfl) (zRet_i (bI_f (by unfold fit fit5; rw [h5]; simp_all [lett] <;> omega))) (by decide) (by decide)
    · replace hc5 := bI_1.mp hc5
      refine Z_run C it_Tx_fits 2 (f2 := (72, [some (.ref (D.1 33)), some (.int (nI i)), some (.int (nI (T i)))], [.int (nI i), .ref (D.1 33)])) rfl ?_
      refine Zr_callV C it_Tx_fits hD rfl p_Tx_endsElsewhere ml_Tx_31 33 (by decide) rfl rfl [.int (nI i)] (ct_Tx_endsElsewhere C.ev C.l hD _ _ _ T hT i (by omega) _) rfl rfl ⟨by decide, by decide, by decide, by decide⟩ (Nat.le_of_ble_eq_true rfl) rfl ?_
      show Z E G (HM D V P PH) sz 0 0 (75, [some (.ref (D.1 33)), some (.int (nI i)), some (.int (nI (T i)))], [.int (bI (els T i))])
      refine Z_br C it_Tx_fits rfl rfl (fun hc6 => ?_) (fun hc6 => ?_)
      · replace hc6 := bI_0.mp hc6
        refine Z_run C it_Tx_fits 1 (f2 := (83, [some (.ref (D.1 33)), some (.int (nI i)), some (.int (nI (T i)))], [.int (nI 0)])) rfl ?_
        exact Z_zret C q.e it_Tx_fits rfl (Or.inl rfl) (zRet_i (bI_f (by unfold fit fit5; rw [h5]; simp_all [lett] <;> omega))) (by decide) (by decide)
      · replace hc6 := bI_1.mp hc6
        refine Z_run C it_Tx_fits 2 (f2 := (83, [some (.ref (D.1 33)), some (.int (nI i)), some (.int (nI (T i)))], [.int (nI 1)])) rfl ?_
        exact Z_zret C q.e it_Tx_fits rfl (Or.inr rfl) (zRet_i (bI_t (by unfold fit fit5; rw [h5]; simp_all [lett] <;> omega))) (by decide) (by decide)
  · rw [h5]
    refine Z_swOut C it_Tx_fits rfl (x := nI 4) (tgt := 84) (by decide) rfl ?_
    refine Z_run C it_Tx_fits 2 (f2 := (87, [some (.ref (D.1 33)), some (.int (nI i)), some (.int (nI (T i)))], [.int (nI 32), .int (nI (T i))])) rfl ?_
    refine Z_br C it_Tx_fits rfl rfl (fun hc7 => ?_) (fun hc7 => ?_)
    · replace hc7 : ¬ _ := fun z9 => hc7 ((nI_eq (a := T i) (b := 32) (by omega) (by omega)).mpr z9)
      refine Z_run C it_Tx_fits 1 (f2 := (95, [some (.ref (D.1 33)), some (.int (nI i)), some (.int (nI (T i)))], [.int (nI 0)])) rfl ?_
      exact Z_zret C q.e it_Tx_fits rfl (Or.inl rfl) (zRet_i (bI_f (by unfold fit fit5; rw [h5]; simp_all [lett] <;> omega))) (by decide) (by decide)
    · replace hc7 := Classical.not_not.mp hc7
      replace hc7 := (nI_eq (a := T i) (b := 32) (by omega) (by omega)).mp hc7
      refine Z_run C it_Tx_fits 2 (f2 := (95, [some (.ref (D.1 33)), some (.int (nI i)), some (.int (nI (T i)))], [.int (nI 1)])) rfl ?_
      exact Z_zret C q.e it_Tx_fits rfl (Or.inr rfl) (zRet_i (bI_t (by unfold fit fit5; rw [h5]; simp_all [lett] <;> omega))) (by decide) (by decide)
set_option maxRecDepth 20000 in
theorem lp_Tx_firstMisfit {E : zE} {G : zG} {O : zO} (C : zCx E G c_Tx_firstMisfit 2 y_Tx_firstMisfit.cls y_Tx_firstMisfit.name (some .int) rm_Tx_firstMisfit) (q : zEndX E G O rm_Tx_firstMisfit.cells rm_Tx_firstMisfit.slots)  {D : zD} (hD : zDok E D) {V : Nat → Nat → Int32} {P : Nat → Nat → Value} {PH : aH} {T : Nat → Nat} (hT : okT V T) {n : Nat} (hn : V 33 1 = nI n) (hn6 : n ≤ 60) {sz : Nat} : ∀ (j i : Nat), n - i < j → i ≤ n → O (.inl (some (.int (nI ((ffr (fun k => !fit T k) (n - i) i).getD n))))) (HM D V P PH) sz → Z E G (HM D V P PH) sz 0 0 (2, [some (.ref (D.1 33)), some (.int (nI i))], []) := by
  intro j
  induction j with
  | zero =>
    intro i h1 h2 hO
    omega
  | succ j ih =>
    intro i h1 h2 hO
    refine Z_run C it_Tx_firstMisfit 2 (f2 := (4, [some (.ref (D.1 33)), some (.int (nI i))], [.ref (D.1 33), .int (nI i)])) rfl ?_
    refine Zm_get C it_Tx_firstMisfit hD rfl 33 wi_Tx (by decide) rfl rfl (j := 1) (by decide) fl_Tx_15 (v := .int (nI n)) (congrArg Value.int hn) ?_
    refine Z_br C it_Tx_firstMisfit rfl rfl (fun hc1 => ?_) (fun hc1 => ?_)
    · replace hc1 := (nI_leI (a := n) (b := i) (by omega) (by omega)).mp hc1
      refine Z_run C it_Tx_firstMisfit 1 (f2 := (27, [some (.ref (D.1 33)), some (.int (nI i))], [.ref (D.1 33)])) rfl ?_
      refine Zm_get C it_Tx_firstMisfit hD rfl 33 wi_Tx (by decide) rfl rfl (j := 1) (by decide) fl_Tx_15 (v := .int (nI n)) (congrArg Value.int hn) ?_
      exact Z_iret C q.e it_Tx_firstMisfit rfl (by rw [show n - i = 0 by omega] at hO; exact hO) (by decide) (by decide)
    · replace hc1 : ¬ _ := fun z9 => hc1 ((nI_leI (a := n) (b := i) (by omega) (by omega)).mpr z9)
      refine Z_run C it_Tx_firstMisfit 2 (f2 := (12, [some (.ref (D.1 33)), some (.int (nI i))], [.int (nI i), .ref (D.1 33)])) rfl ?_
      refine Zr_callV C it_Tx_firstMisfit hD rfl p_Tx_fits ml_Tx_23 33 (by decide) rfl rfl [.int (nI i)] (ct_Tx_fits C.ev C.l hD _ _ _ T hT i (by omega) _) rfl rfl ⟨by decide, by decide, by decide, by decide⟩ (Nat.le_of_ble_eq_true rfl) rfl ?_
      show Z E G (HM D V P PH) sz 0 0 (15, [some (.ref (D.1 33)), some (.int (nI i))], [.int (bI (fit T i))])
      refine Z_br C it_Tx_firstMisfit rfl rfl (fun hc2 => ?_) (fun hc2 => ?_)
      · replace hc2 := bI_1.mp hc2
        refine Z_run C it_Tx_firstMisfit 1 (f2 := (23, [some (.ref (D.1 33)), some (.int (nI i + nI 1))], [])) rfl ?_
        rw [nI_add i 1]
        refine Z_run C it_Tx_firstMisfit 1 (f2 := (2, [some (.ref (D.1 33)), some (.int (nI (i + 1)))], [])) rfl ?_
        exact ih (i + 1) (by omega) (by omega) (by rw [show n - i = (n - (i + 1)) + 1 by omega] at hO; simpa [ffr, hc2] using hO)
      · replace hc2 := Classical.not_not.mp hc2
        replace hc2 := bI_0.mp hc2
        refine Z_run C it_Tx_firstMisfit 1 (f2 := (19, [some (.ref (D.1 33)), some (.int (nI i))], [.int (nI i)])) rfl ?_
        exact Z_iret C q.e it_Tx_firstMisfit rfl (by rw [show n - i = (n - (i + 1)) + 1 by omega] at hO; simpa [ffr, hc2] using hO) (by decide) (by decide)
set_option maxRecDepth 20000 in
theorem ct_Tx_firstMisfit {E : zE} (hE : zEv E) {l : Launch} (hl : l.stackTraces = false) {D : zD} (hD : zDok E D) (V : Nat → Nat → Int32) (P : Nat → Nat → Value) (PH : aH) (T : Nat → Nat) (hT : okT V T) (n : Nat) (hn : V 33 1 = nI n) (hn6 : n ≤ 60) (sz : Nat) : zM E l y_Tx_firstMisfit [.code y_Tx_firstMisfit c_Tx_firstMisfit 2 (some .int)] rm_Tx_firstMisfit [.ref (D.1 33)] (HM D V P PH) sz (zRet (some (.int (nI (fmf T n)))) (HM D V P PH) sz) := by
  refine zM_of hE hl (by decide +kernel) [some (.ref (D.1 33)), none] ⟨rfl, rfl, Nat.le_of_ble_eq_true rfl⟩ ?_
  intro G C q htb
  refine Z_run C it_Tx_firstMisfit 2 (f2 := (2, [some (.ref (D.1 33)), some (.int (nI 0))], [])) rfl ?_
  exact lp_Tx_firstMisfit C q hD hT hn hn6 (n + 1) 0 (by omega) (by omega) ⟨rfl, rfl, rfl⟩
theorem fmf_le (T : Nat → Nat) (n : Nat) : fmf T n ≤ n := by
  unfold fmf
  cases h : ffr (fun k => !fit T k) n 0 with
  | none => exact Nat.le_refl n
  | some k =>
    have := ffr_lt h
    show k ≤ n
    omega
def lis (T : Nat → Nat) (n : Nat) : Bool := n % 5 == 4 && fmf T n == n
set_option maxRecDepth 20000 in
theorem ct_Tx_isList {E : zE} (hE : zEv E) {l : Launch} (hl : l.stackTraces = false) {D : zD} (hD : zDok E D) (V : Nat → Nat → Int32) (P : Nat → Nat → Value) (PH : aH) (T : Nat → Nat) (hT : okT V T) (n : Nat) (hn : V 33 1 = nI n) (hn6 : n ≤ 60) (sz : Nat) : zM E l y_Tx_isList [.code y_Tx_isList c_Tx_isList 1 (some .boolean)] rm_Tx_isList [.ref (D.1 33)] (HM D V P PH) sz (zRet (some (.int (bI (lis T n)))) (HM D V P PH) sz) := by
  refine zM_of hE hl (by decide +kernel) [some (.ref (D.1 33))] ⟨rfl, rfl, Nat.le_of_ble_eq_true rfl⟩ ?_
  intro G C q htb
  have hfm := fmf_le T n
  refine Z_run C it_Tx_isList 1 (f2 := (1, [some (.ref (D.1 33))], [.ref (D.1 33)])) rfl ?_
  refine Zm_get C it_Tx_isList hD rfl 33 wi_Tx (by decide) rfl rfl (j := 1) (by decide) fl_Tx_15 (v := .int (nI n)) (congrArg Value.int hn) ?_
  refine Z_run C it_Tx_isList 2 (f2 := (6, [some (.ref (D.1 33))], [.int (nI n % nI 5)])) rfl ?_
  rw [nI_mod (a := n) (d := 5) (by omega) (by omega) (by omega)]
  refine Z_run C it_Tx_isList 1 (f2 := (7, [some (.ref (D.1 33))], [.int (nI 4), .int (nI (n % 5))])) rfl ?_
  refine Z_br C it_Tx_isList rfl rfl (fun hc1 => ?_) (fun hc1 => ?_)
  · replace hc1 : ¬ _ := fun z9 => hc1 ((nI_eq (a := n % 5) (b := 4) (by omega) (by omega)).mpr z9)
    refine Z_run C it_Tx_isList 1 (f2 := (26, [some (.ref (D.1 33))], [.int (nI 0)])) rfl ?_
    exact Z_zret C q.e it_Tx_isList rfl (Or.inl rfl) (zRet_i (bI_f (by unfold lis; simp_all <;> omega))) (by decide) (by decide)
  · replace hc1 := Classical.not_not.mp hc1
    replace hc1 := (nI_eq (a := n % 5) (b := 4) (by omega) (by omega)).mp hc1
    refine Z_run C it_Tx_isList 1 (f2 := (11, [some (.ref (D.1 33))], [.ref (D.1 33)])) rfl ?_
    refine Zr_callV C it_Tx_isList hD rfl p_Tx_firstMisfit ml_Tx_19 33 (by decide) rfl rfl [] (ct_Tx_firstMisfit C.ev C.l hD _ _ _ T hT n hn hn6 _) rfl rfl ⟨by decide, by decide, by decide, by decide⟩ (Nat.le_of_ble_eq_true rfl) rfl ?_
    show Z E G (HM D V P PH) sz 0 0 (14, [some (.ref (D.1 33))], [.int (nI (fmf T n))])
    refine Z_run C it_Tx_isList 1 (f2 := (15, [some (.ref (D.1 33))], [.ref (D.1 33), .int (nI (fmf T n))])) rfl ?_
    refine Zm_get C it_Tx_isList hD rfl 33 wi_Tx (by decide) rfl rfl (j := 1) (by decide) fl_Tx_15 (v := .int (nI n)) (congrArg Value.int hn) ?_
    refine Z_br C it_Tx_isList rfl rfl (fun hc2 => ?_) (fun hc2 => ?_)
    · replace hc2 : ¬ _ := fun z9 => hc2 ((nI_eq (a := fmf T n) (b := n) (by omega) (by omega)).mpr z9)
      refine Z_run C it_Tx_isList 1 (f2 := (26, [some (.ref (D.1 33))], [.int (nI 0)])) rfl ?_
      exact Z_zret C q.e it_Tx_isList rfl (Or.inl rfl) (zRet_i (bI_f (by unfold lis; simp_all <;> omega))) (by decide) (by decide)
    · replace hc2 := Classical.not_not.mp hc2
      replace hc2 := (nI_eq (a := fmf T n) (b := n) (by omega) (by omega)).mp hc2
      refine Z_run C it_Tx_isList 2 (f2 := (26, [some (.ref (D.1 33))], [.int (nI 1)])) rfl ?_
      exact Z_zret C q.e it_Tx_isList rfl (Or.inr rfl) (zRet_i (bI_t (by unfold lis; simp_all <;> omega))) (by decide) (by decide)
set_option maxRecDepth 20000 in
theorem ct_Tx_movesListed {E : zE} (hE : zEv E) {l : Launch} (hl : l.stackTraces = false) {D : zD} (hD : zDok E D) (V : Nat → Nat → Int32) (P : Nat → Nat → Value) (PH : aH) (n : Nat) (hn : V 33 1 = nI n) (hn6 : n ≤ 60) (sz : Nat) : zM E l y_Tx_movesListed [.code y_Tx_movesListed c_Tx_movesListed 1 (some .int)] rm_Tx_movesListed [.ref (D.1 33)] (HM D V P PH) sz (zRet (some (.int (nI ((n + 1) / 5)))) (HM D V P PH) sz) := by
  refine zM_of hE hl (by decide +kernel) [some (.ref (D.1 33))] ⟨rfl, rfl, Nat.le_of_ble_eq_true rfl⟩ ?_
  intro G C q htb
  refine Z_run C it_Tx_movesListed 1 (f2 := (1, [some (.ref (D.1 33))], [.ref (D.1 33)])) rfl ?_
  refine Zm_get C it_Tx_movesListed hD rfl 33 wi_Tx (by decide) rfl rfl (j := 1) (by decide) fl_Tx_15 (v := .int (nI n)) (congrArg Value.int hn) ?_
  refine Z_run C it_Tx_movesListed 2 (f2 := (6, [some (.ref (D.1 33))], [.int (nI n + nI 1)])) rfl ?_
  rw [nI_add n 1]
  refine Z_run C it_Tx_movesListed 2 (f2 := (8, [some (.ref (D.1 33))], [.int (nI (n + 1) / nI 5)])) rfl ?_
  rw [nI_div (a := n + 1) (d := 5) (by omega) (by omega) (by omega)]
  exact Z_iret C q.e it_Tx_movesListed rfl (zRet_i rfl) (by decide) (by decide)
set_option maxRecDepth 20000 in
theorem ct_Tx_isFull {E : zE} (hE : zEv E) {l : Launch} (hl : l.stackTraces = false) {D : zD} (hD : zDok E D) (V : Nat → Nat → Int32) (P : Nat → Nat → Value) (PH : aH) (n : Nat) (hn : V 33 1 = nI n) (hn6 : n ≤ 60) (sz : Nat) : zM E l y_Tx_isFull [.code y_Tx_isFull c_Tx_isFull 1 (some .boolean)] rm_Tx_isFull [.ref (D.1 33)] (HM D V P PH) sz (zRet (some (.int (bI (decide (60 ≤ n))))) (HM D V P PH) sz) := by
  refine zM_of hE hl (by decide +kernel) [some (.ref (D.1 33))] ⟨rfl, rfl, Nat.le_of_ble_eq_true rfl⟩ ?_
  intro G C q htb
  refine Z_run C it_Tx_isFull 1 (f2 := (1, [some (.ref (D.1 33))], [.ref (D.1 33)])) rfl ?_
  refine Zm_get C it_Tx_isFull hD rfl 33 wi_Tx (by decide) rfl rfl (j := 1) (by decide) fl_Tx_15 (v := .int (nI n)) (congrArg Value.int hn) ?_
  refine Z_run C it_Tx_isFull 1 (f2 := (6, [some (.ref (D.1 33))], [.int (nI 60), .int (nI n)])) rfl ?_
  refine Z_br C it_Tx_isFull rfl rfl (fun hc1 => ?_) (fun hc1 => ?_)
  · replace hc1 := (nI_ltI (a := n) (b := 60) (by omega) (by omega)).mp hc1
    refine Z_run C it_Tx_isFull 1 (f2 := (14, [some (.ref (D.1 33))], [.int (nI 0)])) rfl ?_
    exact Z_zret C q.e it_Tx_isFull rfl (Or.inl rfl) (zRet_i (bI_f (by simp <;> omega))) (by decide) (by decide)
  · replace hc1 : ¬ _ := fun z9 => hc1 ((nI_ltI (a := n) (b := 60) (by omega) (by omega)).mpr z9)
    refine Z_run C it_Tx_isFull 2 (f2 := (14, [some (.ref (D.1 33))], [.int (nI 1)])) rfl ?_
    exact Z_zret C q.e it_Tx_isFull rfl (Or.inr rfl) (zRet_i (bI_t (by simp <;> omega))) (by decide) (by decide)
set_option maxRecDepth 20000 in
theorem ct_Tx_empty {E : zE} (hE : zEv E) {l : Launch} (hl : l.stackTraces = false) {D : zD} (hD : zDok E D) (V : Nat → Nat → Int32) (P : Nat → Nat → Value) (PH : aH) (n : Nat) (hn : V 33 1 = nI n) (hn6 : n ≤ 60) (sz : Nat) : zM E l y_Tx_empty [.code y_Tx_empty c_Tx_empty 2 (some .int)] rm_Tx_empty [.ref (D.1 33)] (HM D V P PH) sz (zRet (some (.int (nI n))) (HM D (vset V 33 1 (nI 0)) P PH) sz) := by
  refine zM_of hE hl (by decide +kernel) [some (.ref (D.1 33)), none] ⟨rfl, rfl, Nat.le_of_ble_eq_true rfl⟩ ?_
  intro G C q htb
  refine Z_run C it_Tx_empty 1 (f2 := (1, [some (.ref (D.1 33)), none], [.ref (D.1 33)])) rfl ?_
  refine Zm_get C it_Tx_empty hD rfl 33 wi_Tx (by decide) rfl rfl (j := 1) (by decide) fl_Tx_15 (v := .int (nI n)) (congrArg Value.int hn) ?_
  refine Z_run C it_Tx_empty 3 (f2 := (7, [some (.ref (D.1 33)), some (.int (nI n))], [.int (nI 0), .ref (D.1 33)])) rfl ?_
  refine Zm_put C it_Tx_empty hD rfl 33 wi_Tx t_Tx t_Tx_ok n_Tx (by first | decide | omega) rfl rfl (j := 1) (by decide) fl_Tx_15 rfl rfl rfl rfl ?_
  refine Z_run C it_Tx_empty 1 (f2 := (11, [some (.ref (D.1 33)), some (.int (nI n))], [.int (nI n)])) rfl ?_
  exact Z_iret C q.e it_Tx_empty rfl (zRet_iH rfl rfl) (by decide) (by decide)
set_option maxRecDepth 20000 in
theorem ct_Tx_add {E : zE} (hE : zEv E) {l : Launch} (hl : l.stackTraces = false) {D : zD} (hD : zDok E D) (V : Nat → Nat → Int32) (P : Nat → Nat → Value) (PH : aH) (n : Nat) (hn : V 33 1 = nI n) (hn6 : n ≤ 60) (c : Nat) (hc : c < 65536) (sz : Nat) : zM E l y_Tx_add [.code y_Tx_add c_Tx_add 2 (some .int)] rm_Tx_add [.ref (D.1 33), .int (nI c)] (HM D V P PH) sz (zRet (some (.int (nI (if n < 60 then n + 1 else n)))) (HM D (if n < 60 then vset (vset V 34 n (nI c)) 33 1 (nI (n + 1)) else V) P PH) sz) := by
  refine zM_of hE hl (by decide +kernel) [some (.ref (D.1 33)), some (.int (nI c))] ⟨rfl, rfl, Nat.le_of_ble_eq_true rfl⟩ ?_
  intro G C q htb
  refine Z_run C it_Tx_add 1 (f2 := (1, [some (.ref (D.1 33)), some (.int (nI c))], [.ref (D.1 33)])) rfl ?_
  refine Zm_get C it_Tx_add hD rfl 33 wi_Tx (by decide) rfl rfl (j := 1) (by decide) fl_Tx_15 (v := .int (nI n)) (congrArg Value.int hn) ?_
  refine Z_run C it_Tx_add 1 (f2 := (6, [some (.ref (D.1 33)), some (.int (nI c))], [.int (nI 60), .int (nI n)])) rfl ?_
  refine Z_br C it_Tx_add rfl rfl (fun hc1 => ?_) (fun hc1 => ?_)
  · replace hc1 := (nI_leI (a := 60) (b := n) (by omega) (by omega)).mp hc1; replace hc1 : ¬ n < 60 := by omega
    refine Z_run C it_Tx_add 1 (f2 := (30, [some (.ref (D.1 33)), some (.int (nI c))], [.ref (D.1 33)])) rfl ?_
    refine Zm_get C it_Tx_add hD rfl 33 wi_Tx (by decide) rfl rfl (j := 1) (by decide) fl_Tx_15 (v := .int (nI n)) (congrArg Value.int hn) ?_
    exact Z_iret C q.e it_Tx_add rfl (zRet_iH (by rw [if_neg hc1]) (by rw [if_neg hc1])) (by decide) (by decide)
  · replace hc1 : n < 60 := by have z : ¬ 60 ≤ n := fun z9 => hc1 ((nI_leI (a := 60) (b := n) (by omega) (by omega)).mpr z9); omega
    refine Z_run C it_Tx_add 1 (f2 := (10, [some (.ref (D.1 33)), some (.int (nI c))], [.ref (D.1 33)])) rfl ?_
    refine Zm_get C it_Tx_add hD rfl 33 wi_Tx (by decide) rfl rfl (j := 0) (by decide) fl_Tx_11 (v := .ref (D.1 34)) rfl ?_
    refine Z_run C it_Tx_add 1 (f2 := (14, [some (.ref (D.1 33)), some (.int (nI c))], [.ref (D.1 33), .ref (D.1 34)])) rfl ?_
    refine Zm_get C it_Tx_add hD rfl 33 wi_Tx (by decide) rfl rfl (j := 1) (by decide) fl_Tx_15 (v := .int (nI n)) (congrArg Value.int hn) ?_
    refine Z_run C it_Tx_add 1 (f2 := (18, [some (.ref (D.1 33)), some (.int (nI c))], [.int (nI c), .int (nI n), .ref (D.1 34)])) rfl ?_
    refine Zm_ast C it_Tx_add hD 34 13 rfl (by first | decide | exact isB_k hb | omega) rfl (by decide) rfl (j := n) (by omega) (nar_c hc) rfl ?_
    refine Z_run C it_Tx_add 2 (f2 := (21, [some (.ref (D.1 33)), some (.int (nI c))], [.ref (D.1 33), .ref (D.1 33)])) rfl ?_
    refine Zm_get C it_Tx_add hD rfl 33 wi_Tx (by decide) rfl rfl (j := 1) (by decide) fl_Tx_15 (v := .int (nI n)) (congrArg Value.int hn) ?_
    refine Z_run C it_Tx_add 2 (f2 := (26, [some (.ref (D.1 33)), some (.int (nI c))], [.int (nI n + nI 1), .ref (D.1 33)])) rfl ?_
    rw [nI_add n 1]
    refine Zm_put C it_Tx_add hD rfl 33 wi_Tx t_Tx t_Tx_ok n_Tx (by first | decide | omega) rfl rfl (j := 1) (by decide) fl_Tx_15 rfl rfl rfl rfl ?_
    refine Z_run C it_Tx_add 1 (f2 := (30, [some (.ref (D.1 33)), some (.int (nI c))], [.ref (D.1 33)])) rfl ?_
    refine Zm_get C it_Tx_add hD rfl 33 wi_Tx (by decide) rfl rfl (j := 1) (by decide) fl_Tx_15 (v := .int (nI (n + 1))) rfl ?_
    exact Z_iret C q.e it_Tx_add rfl (zRet_iH (by rw [if_pos hc1]) (by rw [if_pos hc1])) (by decide) (by decide)
def sqa (T : Nat → Nat) (i : Nat) : Nat := 6 * (T (i + 1) - 49) + (T i - 97)
set_option maxRecDepth 20000 in
theorem ct_Tx_squareAt {E : zE} (hE : zEv E) {l : Launch} (hl : l.stackTraces = false) {D : zD} (hD : zDok E D) (V : Nat → Nat → Int32) (P : Nat → Nat → Value) (PH : aH) (T : Nat → Nat) (hT : okT V T) (i : Nat) (hi : i < 59) (h1 : 49 ≤ T (i + 1)) (h2 : 97 ≤ T i) (sz : Nat) : zM E l y_Tx_squareAt [.code y_Tx_squareAt c_Tx_squareAt 2 (some .int)] rm_Tx_squareAt [.ref (D.1 33), .int (nI i)] (HM D V P PH) sz (zRet (some (.int (nI (sqa T i)))) (HM D V P PH) sz) := by
  refine zM_of hE hl (by decide +kernel) [some (.ref (D.1 33)), some (.int (nI i))] ⟨rfl, rfl, Nat.le_of_ble_eq_true rfl⟩ ?_
  intro G C q htb
  have c0 := (hT i (by omega)).2
  have c1 := (hT (i + 1) (by omega)).2
  refine Z_run C it_Tx_squareAt 2 (f2 := (3, [some (.ref (D.1 33)), some (.int (nI i))], [.ref (D.1 33), .int (nI 6)])) rfl ?_
  refine Zm_get C it_Tx_squareAt hD rfl 33 wi_Tx (by decide) rfl rfl (j := 0) (by decide) fl_Tx_11 (v := .ref (D.1 34)) rfl ?_
  refine Z_run C it_Tx_squareAt 3 (f2 := (9, [some (.ref (D.1 33)), some (.int (nI i))], [.int (nI i + nI 1), .ref (D.1 34), .int (nI 6)])) rfl ?_
  rw [nI_add i 1]
  refine Zm_ald C it_Tx_squareAt hD 34 13 rfl (by decide) rfl (by decide) (by decide) rfl (j := i + 1) (by omega) (v := .int (nI (T (i + 1)))) (congrArg Value.int (hT (i + 1) (by omega)).1) ?_
  refine Z_run C it_Tx_squareAt 2 (f2 := (13, [some (.ref (D.1 33)), some (.int (nI i))], [.int (nI (T (i + 1)) - nI 49), .int (nI 6)])) rfl ?_
  have e1 : nI (T (i + 1)) - nI 49 = nI (T (i + 1) - 49) := nI_sub (by omega)
  rw [e1]
  refine Z_run C it_Tx_squareAt 1 (f2 := (14, [some (.ref (D.1 33)), some (.int (nI i))], [.int (nI 6 * nI (T (i + 1) - 49))])) rfl ?_
  rw [nI_mul 6 (T (i + 1) - 49)]
  refine Z_run C it_Tx_squareAt 1 (f2 := (15, [some (.ref (D.1 33)), some (.int (nI i))], [.ref (D.1 33), .int (nI (6 * (T (i + 1) - 49)))])) rfl ?_
  refine Zm_get C it_Tx_squareAt hD rfl 33 wi_Tx (by decide) rfl rfl (j := 0) (by decide) fl_Tx_11 (v := .ref (D.1 34)) rfl ?_
  refine Z_run C it_Tx_squareAt 1 (f2 := (19, [some (.ref (D.1 33)), some (.int (nI i))], [.int (nI i), .ref (D.1 34), .int (nI (6 * (T (i + 1) - 49)))])) rfl ?_
  refine Zm_ald C it_Tx_squareAt hD 34 13 rfl (by decide) rfl (by decide) (by decide) rfl (j := i) (by omega) (v := .int (nI (T i))) (congrArg Value.int (hT i (by omega)).1) ?_
  refine Z_run C it_Tx_squareAt 2 (f2 := (23, [some (.ref (D.1 33)), some (.int (nI i))], [.int (nI (T i) - nI 97), .int (nI (6 * (T (i + 1) - 49)))])) rfl ?_
  have e2 : nI (T i) - nI 97 = nI (T i - 97) := nI_sub (by omega)
  rw [e2]
  refine Z_run C it_Tx_squareAt 1 (f2 := (24, [some (.ref (D.1 33)), some (.int (nI i))], [.int (nI (6 * (T (i + 1) - 49)) + nI (T i - 97))])) rfl ?_
  rw [nI_add (6 * (T (i + 1) - 49)) (T i - 97)]
  exact Z_iret C q.e it_Tx_squareAt rfl (zRet_i rfl) (by decide) (by decide)
set_option maxRecDepth 20000 in
theorem ct_Tx_firstSquareOf {E : zE} (hE : zEv E) {l : Launch} (hl : l.stackTraces = false) {D : zD} (hD : zDok E D) (V : Nat → Nat → Int32) (P : Nat → Nat → Value) (PH : aH) (T : Nat → Nat) (hT : okT V T) (i : Nat) (hi : 5 * i < 59) (h1 : 49 ≤ T (5 * i + 1)) (h2 : 97 ≤ T (5 * i)) (sz : Nat) : zM E l y_Tx_firstSquareOf [.code y_Tx_firstSquareOf c_Tx_firstSquareOf 2 (some .int)] rm_Tx_firstSquareOf [.ref (D.1 33), .int (nI i)] (HM D V P PH) sz (zRet (some (.int (nI (sqa T (5 * i))))) (HM D V P PH) sz) := by
  refine zM_of hE hl (by decide +kernel) [some (.ref (D.1 33)), some (.int (nI i))] ⟨rfl, rfl, Nat.le_of_ble_eq_true rfl⟩ ?_
  intro G C q htb
  refine Z_run C it_Tx_firstSquareOf 4 (f2 := (4, [some (.ref (D.1 33)), some (.int (nI i))], [.int (nI 5 * nI i), .ref (D.1 33)])) rfl ?_
  rw [nI_mul 5 i]
  refine Zr_callV C it_Tx_firstSquareOf hD rfl p_Tx_squareAt ml_Tx_34 33 (by decide) rfl rfl [.int (nI (5 * i))] (ct_Tx_squareAt C.ev C.l hD _ _ _ T hT (5 * i) (by omega) h1 h2 _) rfl rfl ⟨by decide, by decide, by decide, by decide⟩ (Nat.le_of_ble_eq_true rfl) rfl ?_
  show Z E G (HM D V P PH) sz 0 0 (7, [some (.ref (D.1 33)), some (.int (nI i))], [.int (nI (sqa T (5 * i)))])
  exact Z_iret C q.e it_Tx_firstSquareOf rfl (zRet_i rfl) (by decide) (by decide)
set_option maxRecDepth 20000 in
theorem ct_Tx_secondSquareOf {E : zE} (hE : zEv E) {l : Launch} (hl : l.stackTraces = false) {D : zD} (hD : zDok E D) (V : Nat → Nat → Int32) (P : Nat → Nat → Value) (PH : aH) (T : Nat → Nat) (hT : okT V T) (i : Nat) (hi : 5 * i + 2 < 59) (h1 : 49 ≤ T (5 * i + 2 + 1)) (h2 : 97 ≤ T (5 * i + 2)) (sz : Nat) : zM E l y_Tx_secondSquareOf [.code y_Tx_secondSquareOf c_Tx_secondSquareOf 2 (some .int)] rm_Tx_secondSquareOf [.ref (D.1 33), .int (nI i)] (HM D V P PH) sz (zRet (some (.int (nI (sqa T (5 * i + 2))))) (HM D V P PH) sz) := by
  refine zM_of hE hl (by decide +kernel) [some (.ref (D.1 33)), some (.int (nI i))] ⟨rfl, rfl, Nat.le_of_ble_eq_true rfl⟩ ?_
  intro G C q htb
  refine Z_run C it_Tx_secondSquareOf 4 (f2 := (4, [some (.ref (D.1 33)), some (.int (nI i))], [.int (nI 5 * nI i), .ref (D.1 33)])) rfl ?_
  rw [nI_mul 5 i]
  refine Z_run C it_Tx_secondSquareOf 2 (f2 := (6, [some (.ref (D.1 33)), some (.int (nI i))], [.int (nI (5 * i) + nI 2), .ref (D.1 33)])) rfl ?_
  rw [nI_add (5 * i) 2]
  refine Zr_callV C it_Tx_secondSquareOf hD rfl p_Tx_squareAt ml_Tx_34 33 (by decide) rfl rfl [.int (nI (5 * i + 2))] (ct_Tx_squareAt C.ev C.l hD _ _ _ T hT (5 * i + 2) (by omega) h1 h2 _) rfl rfl ⟨by decide, by decide, by decide, by decide⟩ (Nat.le_of_ble_eq_true rfl) rfl ?_
  show Z E G (HM D V P PH) sz 0 0 (9, [some (.ref (D.1 33)), some (.int (nI i))], [.int (nI (sqa T (5 * i + 2)))])
  exact Z_iret C q.e it_Tx_secondSquareOf rfl (zRet_i rfl) (by decide) (by decide)
