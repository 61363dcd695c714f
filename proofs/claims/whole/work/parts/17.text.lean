/-! ===== MoveText ===== -/
def okT (V : Nat → Nat → Int32) (T : Nat → Nat) : Prop := ∀ k, k < 60 → V 34 k = nI (T k) ∧ T k < 65536
def dig (c : Nat) : Bool := decide (49 ≤ c) && decide (c ≤ 54)
def lett (c : Nat) : Bool := decide (97 ≤ c) && decide (c ≤ 102)
def els (T : Nat → Nat) (i : Nat) : Bool := decide (i < 3) || (T i != T (i - 2) || T (i - 1) != T (i - 3))
def fit5 (T : Nat → Nat) (i r : Nat) : Bool := if r = 0 ∨ r = 2 then lett (T i) else if r = 1 then dig (T i) else if r = 3 then dig (T i) && els T i else T i == 32
def fit (T : Nat → Nat) (i : Nat) : Bool := fit5 T i (i % 5)
def fmf (T : Nat → Nat) (n : Nat) : Nat := (ffr (fun k => !fit T k) n 0).getD n
theorem nar_c {c : Nat} (h : c < 65536) : zfit 13 (.int (nI c)) := by
  show narrow .char (.int (nI c)) = .int (nI c)
  have e : ((nI c).toUInt32 % 65536).toInt32 = nI c := by
    apply Int32.toBitVec_inj.mp
    show (BitVec.ofNat 32 c) % 65536#32 = BitVec.ofNat 32 c
    apply BitVec.eq_of_toNat_eq
    rw [BitVec.toNat_umod, BitVec.toNat_ofNat]
    show c % 2 ^ 32 % 65536 = c % 2 ^ 32
    omega
  exact congrArg Value.int e
set_option maxRecDepth 20000 in
theorem ct_Tx_isDigit {E : zE} (hE : zEv E) {l : Launch} (hl : l.stackTraces = false) (c : Nat) (hc : c < 65536) (h : aH) (sz : Nat) : zM E l y_Tx_isDigit [.code y_Tx_isDigit c_Tx_isDigit 1 (some .boolean)] rm_Tx_isDigit [.int (nI c)] h sz (zRet (some (.int (bI (dig c)))) h sz) := by
  refine zM_of hE hl (by decide +kernel) [some (.int (nI c))] ⟨rfl, rfl, Nat.le_of_ble_eq_true rfl⟩ ?_
  intro G C q htb
  refine Z_run C it_Tx_isDigit 2 (f2 := (3, [some (.int (nI c))], [.int (nI 49), .int (nI c)])) rfl ?_
  refine Z_br C it_Tx_isDigit rfl rfl (fun hc1 => ?_) (fun hc1 => ?_)
  · replace hc1 := (nI_ltI (a := c) (b := 49) (by omega) (by omega)).mp hc1
    refine Z_run C it_Tx_isDigit 1 (f2 := (17, [some (.int (nI c))], [.int (nI 0)])) rfl ?_
    exact Z_zret C q.e it_Tx_isDigit rfl (Or.inl rfl) (zRet_i (bI_f (by simp [dig] <;> omega))) (by decide) (by decide)
  · replace hc1 : ¬ _ := fun z9 => hc1 ((nI_ltI (a := c) (b := 49) (by omega) (by omega)).mpr z9)
    refine Z_run C it_Tx_isDigit 2 (f2 := (9, [some (.int (nI c))], [.int (nI 54), .int (nI c)])) rfl ?_
    refine Z_br C it_Tx_isDigit rfl rfl (fun hc2 => ?_) (fun hc2 => ?_)
    · replace hc2 := (nI_ltI (a := 54) (b := c) (by omega) (by omega)).mp hc2
      refine Z_run C it_Tx_isDigit 1 (f2 := (17, [some (.int (nI c))], [.int (nI 0)])) rfl ?_
      exact Z_zret C q.e it_Tx_isDigit rfl (Or.inl rfl) (zRet_i (bI_f (by simp [dig] <;> omega))) (by decide) (by decide)
    · replace hc2 : ¬ _ := fun z9 => hc2 ((nI_ltI (a := 54) (b := c) (by omega) (by omega)).mpr z9)
      refine Z_run C it_Tx_isDigit 2 (f2 := (17, [some (.int (nI c))], [.int (nI 1)])) rfl ?_
      exact Z_zret C q.e it_Tx_isDigit rfl (Or.inr rfl) (zRet_i (bI_t (by simp [dig] <;> omega))) (by decide) (by decide)
set_option maxRecDepth 20000 in
theorem ct_Tx_endsElsewhere {E : zE} (hE : zEv E) {l : Launch} (hl : l.stackTraces = false) {D : zD} (hD : zDok E D) (V : Nat → Nat → Int32) (P : Nat → Nat → Value) (PH : aH) (T : Nat → Nat) (hT : okT V T) (i : Nat) (hi : i < 60) (sz : Nat) : zM E l y_Tx_endsElsewhere [.code y_Tx_endsElsewhere c_Tx_endsElsewhere 2 (some .boolean)] rm_Tx_endsElsewhere [.ref (D.1 33), .int (nI i)] (HM D V P PH) sz (zRet (some (.int (bI (els T i)))) (HM D V P PH) sz) := by
  refine zM_of hE hl (by decide +kernel) [some (.ref (D.1 33)), some (.int (nI i))] ⟨rfl, rfl, Nat.le_of_ble_eq_true rfl⟩ ?_
  intro G C q htb
  have c0 := (hT i (by omega)).2
  have c1 := (hT (i - 1) (by omega)).2
  have c2 := (hT (i - 2) (by omega)).2
  have c3 := (hT (i - 3) (by omega)).2
  refine Z_run C it_Tx_endsElsewhere 2 (f2 := (2, [some (.ref (D.1 33)), some (.int (nI i))], [.int (nI 3), .int (nI i)])) rfl ?_
  refine Z_br C it_Tx_endsElsewhere rfl rfl (fun hc1 => ?_) (fun hc1 => ?_)
  · replace hc1 := (nI_ltI (a := i) (b := 3) (by omega) (by omega)).mp hc1
    refine Z_run C it_Tx_endsElsewhere 2 (f2 := (46, [some (.ref (D.1 33)), some (.int (nI i))], [.int (nI 1)])) rfl ?_
    exact Z_zret C q.e it_Tx_endsElsewhere rfl (Or.inr rfl) (zRet_i (bI_t (by simp_all [els] <;> omega))) (by decide) (by decide)
  · replace hc1 : ¬ _ := fun z9 => hc1 ((nI_ltI (a := i) (b := 3) (by omega) (by omega)).mpr z9)
    refine Z_run C it_Tx_endsElsewhere 1 (f2 := (6, [some (.ref (D.1 33)), some (.int (nI i))], [.ref (D.1 33)])) rfl ?_
    refine Zm_get C it_Tx_endsElsewhere hD rfl 33 wi_Tx (by decide) rfl rfl (j := 0) (by decide) fl_Tx_11 (v := .ref (D.1 34)) rfl ?_
    refine Z_run C it_Tx_endsElsewhere 1 (f2 := (10, [some (.ref (D.1 33)), some (.int (nI i))], [.int (nI i), .ref (D.1 34)])) rfl ?_
    refine Zm_ald C it_Tx_endsElsewhere hD 34 13 rfl (by decide) rfl (by decide) (by decide) rfl (j := i) (by omega) (v := .int (nI (T i))) (congrArg Value.int (hT i (by omega)).1) ?_
    refine Z_run C it_Tx_endsElsewhere 1 (f2 := (12, [some (.ref (D.1 33)), some (.int (nI i))], [.ref (D.1 33), .int (nI (T i))])) rfl ?_
    refine Zm_get C it_Tx_endsElsewhere hD rfl 33 wi_Tx (by decide) rfl rfl (j := 0) (by decide) fl_Tx_11 (v := .ref (D.1 34)) rfl ?_
    refine Z_run C it_Tx_endsElsewhere 3 (f2 := (18, [some (.ref (D.1 33)), some (.int (nI i))], [.int (nI i - nI 2), .ref (D.1 34), .int (nI (T i))])) rfl ?_
    have e1 : nI i - nI 2 = nI (i - 2) := nI_sub (by omega)
    rw [e1]
    refine Zm_ald C it_Tx_endsElsewhere hD 34 13 rfl (by decide) rfl (by decide) (by decide) rfl (j := i - 2) (by omega) (v := .int (nI (T (i - 2)))) (congrArg Value.int (hT (i - 2) (by omega)).1) ?_
    refine Z_br C it_Tx_endsElsewhere rfl rfl (fun hc2 => ?_) (fun hc2 => ?_)
    · replace hc2 : ¬ _ := fun z9 => hc2 ((nI_eq (a := T i) (b := T (i - 2)) (by omega) (by omega)).mpr z9)
      refine Z_run C it_Tx_endsElsewhere 2 (f2 := (46, [some (.ref (D.1 33)), some (.int (nI i))], [.int (nI 1)])) rfl ?_
      exact Z_zret C q.e it_Tx_endsElsewhere rfl (Or.inr rfl) (zRet_i (bI_t (by simp_all [els] <;> omega))) (by decide) (by decide)
    · replace hc2 := Classical.not_not.mp hc2
      replace hc2 := (nI_eq (a := T i) (b := T (i - 2)) (by omega) (by omega)).mp hc2
      refine Z_run C it_Tx_endsElsewhere 1 (f2 := (23, [some (.ref (D.1 33)), some (.int (nI i))], [.ref (D.1 33)])) rfl ?_
      refine Zm_get C it_Tx_endsElsewhere hD rfl 33 wi_Tx (by decide) rfl rfl (j := 0) (by decide) fl_Tx_11 (v := .ref (D.1 34)) rfl ?_
      refine Z_run C it_Tx_endsElsewhere 3 (f2 := (29, [some (.ref (D.1 33)), some (.int (nI i))], [.int (nI i - nI 1), .ref (D.1 34)])) rfl ?_
      have e2 : nI i - nI 1 = nI (i - 1) := nI_sub (by omega)
      rw [e2]
      refine Zm_ald C it_Tx_endsElsewhere hD 34 13 rfl (by decide) rfl (by decide) (by decide) rfl (j := i - 1) (by omega) (v := .int (nI (T (i - 1)))) (congrArg Value.int (hT (i - 1) (by omega)).1) ?_
      refine Z_run C it_Tx_endsElsewhere 1 (f2 := (31, [some (.ref (D.1 33)), some (.int (nI i))], [.ref (D.1 33), .int (nI (T (i - 1)))])) rfl ?_
      refine Zm_get C it_Tx_endsElsewhere hD rfl 33 wi_Tx (by decide) rfl rfl (j := 0) (by decide) fl_Tx_11 (v := .ref (D.1 34)) rfl ?_
      refine Z_run C it_Tx_endsElsewhere 3 (f2 := (37, [some (.ref (D.1 33)), some (.int (nI i))], [.int (nI i - nI 3), .ref (D.1 34), .int (nI (T (i - 1)))])) rfl ?_
      have e3 : nI i - nI 3 = nI (i - 3) := nI_sub (by omega)
      rw [e3]
      refine Zm_ald C it_Tx_endsElsewhere hD 34 13 rfl (by decide) rfl (by decide) (by decide) rfl (j := i - 3) (by omega) (v := .int (nI (T (i - 3)))) (congrArg Value.int (hT (i - 3) (by omega)).1) ?_
      refine Z_br C it_Tx_endsElsewhere rfl rfl (fun hc3 => ?_) (fun hc3 => ?_)
      · replace hc3 := (nI_eq (a := T (i - 1)) (b := T (i - 3)) (by omega) (by omega)).mp hc3
        refine Z_run C it_Tx_endsElsewhere 1 (f2 := (46, [some (.ref (D.1 33)), some (.int (nI i))], [.int (nI 0)])) rfl ?_
        exact Z_zret C q.e it_Tx_endsElsewhere rfl (Or.inl rfl) (zRet_i (bI_f (by simp_all [els] <;> omega))) (by decide) (by decide)
      · replace hc3 : ¬ _ := fun z9 => hc3 ((nI_eq (a := T (i - 1)) (b := T (i - 3)) (by omega) (by omega)).mpr z9)
        refine Z_run C it_Tx_endsElsewhere 2 (f2 := (46, [some (.ref (D.1 33)), some (.int (nI i))], [.int (nI 1)])) rfl ?_
        exact Z_zret C q.e it_Tx_endsElsewhere rfl (Or.inr rfl) (zRet_i (bI_t (by simp_all [els] <;> omega))) (by decide) (by decide)
set_option maxRecDepth 20000 in
theorem ct_Tx_fits {E : zE} (hE : zEv E) {l : Launch} (hl : l.stackTraces = false) {D : zD} (hD : zDok E D) (V : Nat → Nat → Int32) (P : Nat → Nat → Value) (PH : aH) (T : Nat → Nat) (hT : okT V T) (i : Nat) (hi : i < 60) (sz : Nat) : zM E l y_Tx_fits [.code y_Tx_fits c_Tx_fits 3 (some .boolean)] rm_Tx_fits [.ref (D.1 33), .int (nI i)] (HM D V P PH) sz (zRet (some (.int (bI (fit T i)))) (HM D V P PH) sz) := by
  refine zM_of hE hl (by decide +kernel) [some (.ref (D.1 33)), some (.int (nI i)), none] ⟨rfl, rfl, Nat.le_of_ble_eq_true rfl⟩ ?_
  intro G C q htb
  have c0 := (hT i (by omega)).2
  refine Z_run C it_Tx_fits 1 (f2 := (1, [some (.ref (D.1 33)), some (.int (nI i)), none], [.ref (D.1 33)])) rfl ?_
  refine Zm_get C it_Tx_fits hD rfl 33 wi_Tx (by decide) rfl rfl (j := 0) (by decide) fl_Tx_11 (v := .ref (D.1 34)) rfl ?_
  refine Z_run C it_Tx_fits 1 (f2 := (5, [some (.ref (D.1 33)), some (.int (nI i)), none], [.int (nI i), .ref (D.1 34)])) rfl ?_
  refine Zm_ald C it_Tx_fits hD 34 13 rfl (by decide) rfl (by decide) (by decide) rfl (j := i) (by omega) (v := .int (nI (T i))) (congrArg Value.int (hT i (by omega)).1) ?_
  refine Z_run C it_Tx_fits 4 (f2 := (10, [some (.ref (D.1 33)), some (.int (nI i)), some (.int (nI (T i)))], [.int (nI i % nI 5)])) rfl ?_
  rw [nI_mod (a := i) (d := 5) (by omega) (by omega) (by omega)]
  have h5 : i % 5 = 0 ∨ i % 5 = 1 ∨ i % 5 = 2 ∨ i % 5 = 3 ∨ i % 5 = 4 := by omega
  rcases h5 with h5 | h5 | h5 | h5 | h5
  · rw [h5]
    refine Z_swIn C it_Tx_fits rfl (x := nI 0) (tgt := 40) (by decide) (by decide) rfl rfl ?_
    refine Z_run C it_Tx_fits 2 (f2 := (43, [some (.ref (D.1 33)), some (.int (nI i)), some (.int (nI (T i)))], [.int (nI 97), .int (nI (T i))])) rfl ?_
    refine Z_br C it_Tx_fits rfl rfl (fun hc1 => ?_) (fun hc1 => ?_)
    · replace hc1 := (nI_ltI (a := T i) (b := 97) (by omega) (by omega)).mp hc1
      refine Z_run C it_Tx_fits 1 (f2 := (57, [some (.ref (D.1 33)), some (.int (nI i)), some (.int (nI (T i)))], [.int (nI 0)])) rfl ?_
      exact Z_zret C q.e it_Tx_fits rfl (Or.inl rfl) (zRet_i (bI_f (by unfold fit fit5; rw [h5]; simp_all [lett] <;> omega))) (by decide) (by decide)
    · replace hc1 : ¬ _ := fun z9 => hc1 ((nI_ltI (a := T i) (b := 97) (by omega) (by omega)).mpr z9)
      refine Z_run C it_Tx_fits 2 (f2 := (49, [some (.ref (D.1 33)), some (.int (nI i)), some (.int (nI (T i)))], [.int (nI 102), .int (nI (T i))])) rfl ?_
      refine Z_br C it_Tx_fits rfl rfl (fun hc2 => ?_) (fun hc2 => ?_)
      · replace hc2 := (nI_ltI (a := 102) (b := T i) (by omega) (by omega)).mp hc2
        refine Z_run C it_Tx_fits 1 (f2 := (57, [some (.ref (D.1 33)), some (.int (nI i)), some (.int (nI (T i)))], [.int (nI 0)])) rfl ?_
        exact Z_zret C q.e it_Tx_fits rfl (Or.inl rfl) (zRet_i (bI_f (by unfold fit fit5; rw [h5]; simp_all [lett] <;> omega))) (by decide) (by decide)
      · replace hc2 : ¬ _ := fun z9 => hc2 ((nI_ltI (a := 102) (b := T i) (by omega) (by omega)).mpr z9)
        refine Z_run C it_Tx_fits 2 (f2 := (57, [some (.ref (D.1 33)), some (.int (nI i)), some (.int (nI (T i)))], [.int (nI 1)])) rfl ?_
        exact Z_zret C q.e it_Tx_fits rfl (Or.inr rfl) (zRet_i (bI_t (by unfold fit fit5; rw [h5]; simp_all [lett] <;> omega))) (by decide) (by decide)
  · rw [h5]
    refine Z_swIn C it_Tx_fits rfl (x := nI 1) (tgt := 58) (by decide) (by decide) rfl rfl ?_
    refine Z_run C it_Tx_fits 1 (f2 := (59, [some (.ref (D.1 33)), some (.int (nI i)), some (.int (nI (T i)))], [.int (nI (T i))])) rfl ?_
    refine Zr_callS C it_Tx_fits rfl p_Tx_isDigit ml_Tx_27 [.int (nI (T i))] (ct_Tx_isDigit C.ev C.l (T i) (by omega) (HM D V P PH) _) rfl rfl ⟨by decide, by decide, by decide, by decide⟩ (Nat.le_of_ble_eq_true rfl) rfl ?_
    show Z E G (HM D V P PH) sz 0 0 (62, [some (.ref (D.1 33)), some (.int (nI i)), some (.int (nI (T i)))], [.int (bI (dig (T i)))])
    exact Z_zret C q.e it_Tx_fits rfl bI_v (zRet_i (by unfold fit fit5; rw [h5]; rfl)) (by decide) (by decide)
  · rw [h5]
    refine Z_swIn C it_Tx_fits rfl (x := nI 2) (tgt := 40) (by decide) (by decide) rfl rfl ?_
    refine Z_run C it_Tx_fits 2 (f2 := (43, [some (.ref (D.1 33)), some (.int (nI i)), some (.int (nI (T i)))], [.int (nI 97), .int (nI (T i))])) rfl ?_
    refine Z_br C it_Tx_fits rfl rfl (fun hc3 => ?_) (fun hc3 => ?_)
    · replace hc3 := (nI_ltI (a := T i) (b := 97) (by omega) (by omega)).mp hc3
      refine Z_run C it_Tx_fits 1 (f2 := (57, [some (.ref (D.1 33)), some (.int (nI i)), some (.int (nI (T i)))], [.int (nI 0)])) rfl ?_
      exact Z_zret C q.e it_Tx_fits rfl (Or.inl rfl) (zRet_i (bI_f (by unfold fit fit5; rw [h5]; simp_all [lett] <;> omega))) (by decide) (by decide)
    · replace hc3 : ¬ _ := fun z9 => hc3 ((nI_ltI (a := T i) (b := 97) (by omega) (by omega)).mpr z9)
      refine Z_run C it_Tx_fits 2 (f2 := (49, [some (.ref (D.1 33)), some (.int (nI i)), some (.int (nI (T i)))], [.int (nI 102), .int (nI (T i))])) rfl ?_
      refine Z_br C it_Tx_fits rfl rfl (fun hc4 => ?_) (fun hc4 => ?_)
      · replace hc4 := (nI_ltI (a := 102) (b := T i) (by omega) (by omega)).mp hc4
        refine Z_run C it_Tx_fits 1 (f2 := (57, [some (.ref (D.1 33)), some (.int (nI i)), some (.int (nI (T i)))], [.int (nI 0)])) rfl ?_
        exact Z_zret C q.e it_Tx_fits rfl (Or.inl rfl) (zRet_i (bI_f (by unfold fit fit5; rw [h5]; simp_all [lett] <;> omega))) (by decide) (by decide)
      · replace hc4 : ¬ _ := fun z9 => hc4 ((nI_ltI (a := 102) (b := T i) (by omega) (by omega)).mpr z9)
        refine Z_run C it_Tx_fits 2 (f2 := (57, [some (.ref (D.1 33)), some (.int (nI i)), some (.int (nI (T i)))], [.int (nI 1)])) rfl ?_
        exact Z_zret C q.e it_Tx_fits rfl (Or.inr rfl) (zRet_i (bI_t (by unfold fit fit5; rw [h5]; simp_all [lett] <;> omega))) (by decide) (by decide)
  · rw [h5]
    refine Z_swIn C it_Tx_fits rfl (x := nI 3) (tgt := 63) (by decide) (by decide) rfl rfl ?_
    refine Z_run C it_Tx_fits 1 (f2 := (64, [some (.ref (D.1 33)), some (.int (nI i)), some (.int (nI (T i)))], [.int (nI (T i))])) rfl ?_
    refine Zr_callS C it_Tx_fits rfl p_Tx_isDigit ml_Tx_27 [.int (nI (T i))] (ct_Tx_isDigit C.ev C.l (T i) (by omega) (HM D V P PH) _) rfl rfl ⟨by decide, by decide, by decide, by decide⟩ (Nat.le_of_ble_eq_true rfl) rfl ?_
    show Z E G (HM D V P PH) sz 0 0 (67, [some (.ref (D.1 33)), some (.int (nI i)), some (.int (nI (T i)))], [.int (bI (dig (T i)))])
    refine Z_br C it_Tx_fits rfl rfl (fun hc5 => ?_) (fun hc5 => ?_)
    · replace hc5 := bI_0.mp hc5
      refine Z_run C it_Tx_fits 1 (f2 := (83, [some (.ref (D.1 33)), some (.int (nI i)), some (.int (nI (T i)))], [.int (nI 0)])) rfl ?_
      exact Z_zret C q.e it_Tx_fits rfl (Or.inl rfl) (zRet_i (bI_f (by unfold fit fit5; rw [h5]; simp_all [lett] <;> omega))) (by decide) (by decide)
    · replace hc5 := bI_1.mp hc5
      refine Z_run C it_Tx_fits 2 (f2 := (72, [some (.ref (D.1 33)), some (.int (nI i)), some (.int (nI (T i)))], [.int (nI i), .ref (D.1 33)])) rfl ?_
      refine Zr_callV C it_Tx_fits hD rfl p_Tx_endsElsewhere ml_Tx_31 33 (by decide) rfl rfl [.int (nI i)] (ct_Tx_endsElsewhere C.ev C.l hD _ _ _ T hT i (by omega) _) rfl rfl ⟨by decide, by decide, by decide, by decide⟩ (Nat.le_of_ble_eq_true rfl) rfl ?_
      show Z E G (HM D V P PH) sz 0 0 (75, [some (.ref (D.1 33)), some (.int (nI i)), some (.int (nI (T i)))], [.int (bI (els T i))])
      refine Z_br C it_Tx_fits rfl rfl (fun hc6 => ?_) (fun hc6 => ?_)
      · replace hc6 := bI_0.mp hc6
        refine Z_run C it_Tx_fits 1 (f2 := (83, [some (.ref (D.1 33)), some (.int (nI i)), some (.int (nI (T i)))], [.int (nI 0)])) rfl ?_
        exact Z_zret C q.e it_Tx_fits rfl (Or.inl rfl) (zRet_i (bI_f (by unfold fit fit5; rw [h5]; simp_all [lett] <;> omega))) (by decide) (by decide)
      · replace hc6 := bI_1.mp hc6
        refine Z_run C it_Tx_fits 2 (f2 := (83, [some (.ref (D.1 33)), some (.int (nI i)), some (.int (nI (T i)))], [.int (nI 1)])) rfl ?_
        exact Z_zret C q.e it_Tx_fits rfl (Or.inr rfl) (zRet_i (bI_t (by unfold fit fit5; rw [h5]; simp_all [lett] <;> omega))) (by decide) (by decide)
  · rw [h5]
    refine Z_swOut C it_Tx_fits rfl (x := nI 4) (tgt := 84) (by decide) rfl ?_
    refine Z_run C it_Tx_fits 2 (f2 := (87, [some (.ref (D.1 33)), some (.int (nI i)), some (.int (nI (T i)))], [.int (nI 32), .int (nI (T i))])) rfl ?_
    refine Z_br C it_Tx_fits rfl rfl (fun hc7 => ?_) (fun hc7 => ?_)
    · replace hc7 : ¬ _ := fun z9 => hc7 ((nI_eq (a := T i) (b := 32) (by omega) (by omega)).mpr z9)
      refine Z_run C it_Tx_fits 1 (f2 := (95, [some (.ref (D.1 33)), some (.int (nI i)), some (.int (nI (T i)))], [.int (nI 0)])) rfl ?_
      exact Z_zret C q.e it_Tx_fits rfl (Or.inl rfl) (zRet_i (bI_f (by unfold fit fit5; rw [h5]; simp_all [lett] <;> omega))) (by decide) (by decide)
    · replace hc7 := Classical.not_not.mp hc7
      replace hc7 := (nI_eq (a := T i) (b := 32) (by omega) (by omega)).mp hc7
      refine Z_run C it_Tx_fits 2 (f2 := (95, [some (.ref (D.1 33)), some (.int (nI i)), some (.int (nI (T i)))], [.int (nI 1)])) rfl ?_
      exact Z_zret C q.e it_Tx_fits rfl (Or.inr rfl) (zRet_i (bI_t (by unfold fit fit5; rw [h5]; simp_all [lett] <;> omega))) (by decide) (by decide)
