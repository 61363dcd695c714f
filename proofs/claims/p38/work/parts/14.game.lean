/-! ===== Game: cell 1; L: the positions, the latest first ===== -/
theorem zfit_n {x : Int32} (h : x = 0 ∨ x = 1) : narrow .boolean (.int x) = .int x := by rcases h with rfl | rfl <;> rfl
theorem zfit_f {x : Int32} (h : x = 0 ∨ x = 1) : fits .boolean (.int x) = true := by rcases h with rfl | rfl <;> rfl
theorem ffr_lt {b : Nat → Bool} : ∀ {n i k : Nat}, ffr b n i = some k → i ≤ k ∧ k < i + n ∧ b k = true := by
  intro n
  induction n with
  | zero => intro i k h; cases h
  | succ n ih =>
    intro i k h
    unfold ffr at h
    split at h
    · cases h
      exact ⟨by omega, by omega, by assumption⟩
    · have := ih h
      exact ⟨by omega, by omega, this.2.2⟩
theorem lsq_lt {F : Nat → Nat} {s k : Nat} (h : lsq F s = some k) : k < 36 := by
  have := ffr_lt h
  omega
theorem oI_lsq {F : Nat → Nat} {s : Nat} : oI (lsq F s) = -1 ↔ (lsq F s).isSome = false := by
  rw [oI_m1 (fun k h => lsq_lt h)]
  cases lsq F s <;> simp
def tmz : List zPos → Nat
  | [] => 0
  | p :: _ => p.2.2
def acc_ (L : List zPos) (F : Nat → Nat) (s sq : Nat) (ld : Bool) : Bool := L.isEmpty && (F sq == 0 && (decide (popc (sqs F s) < 8) && !(ld && (lsq F s).isSome)))
def cbg (L : List zPos) (F : Nat → Nat) : Bool := L.isEmpty && ((lsq F 0).isSome && (lsq F 1).isSome)
def rsn (L : List zPos) (ov : Bool) (F : Nat → Nat) (t fr to : Nat) : Nat := if L.isEmpty then 1 else if ov then 1 else if hld F fr t then (if hld F to t then 3 else if (gfa F fr (sd (F fr))).testBit to then 0 else 4) else 2
theorem rsn_le (L : List zPos) (ov : Bool) (F : Nat → Nat) (t fr to : Nat) : rsn L ov F t fr to ≤ 4 := by
  unfold rsn
  split
  · omega
  · split
    · omega
    · split
      · split
        · omega
        · split <;> omega
      · omega
set_option maxRecDepth 20000 in
theorem ct_Gm_hasStarted {E : zE} (hE : zEv E) {l : Launch} (hl : l.stackTraces = false) {D : zD} (hD : zDok E D) (V : Nat → Nat → Int32) (P : Nat → Nat → Value) (PH : aH) (L : List zPos) (hch : chn PH (P 1 7) L) (sz : Nat) : zM E l y_Gm_hasStarted [.code y_Gm_hasStarted c_Gm_hasStarted 1 (some .boolean)] rm_Gm_hasStarted [.ref (D.1 1)] (HM D V P PH) sz (zRet (some (.int (bI (!L.isEmpty)))) (HM D V P PH) sz) := by
  cases L with
  | nil =>
    have hlv : P 1 7 = .null := hch
    refine zM_of hE hl (by decide +kernel) [some (.ref (D.1 1))] ⟨rfl, rfl, Nat.le_of_ble_eq_true rfl⟩ ?_
    intro G C q htb
    refine Z_run C it_Gm_hasStarted 1 (f2 := (1, [some (.ref (D.1 1))], [.ref (D.1 1)])) rfl ?_
    refine Zm_get C it_Gm_hasStarted hD rfl 1 wi_Gm (by decide) rfl rfl (j := 7) (by decide) fl_Gm_39 (v := .null) hlv ?_
    refine Z_run C it_Gm_hasStarted 2 (f2 := (12, [some (.ref (D.1 1))], [.int (nI 0)])) rfl ?_
    exact Z_zret C q.e it_Gm_hasStarted rfl (Or.inl rfl) (zRet_i rfl) (by decide) (by decide)
  | cons p L =>
    obtain ⟨q9, ev9, hlv, hq9, hpk9, hch9⟩ := id hch
    refine zM_of hE hl (by decide +kernel) [some (.ref (D.1 1))] ⟨rfl, rfl, Nat.le_of_ble_eq_true rfl⟩ ?_
    intro G C q htb
    refine Z_run C it_Gm_hasStarted 1 (f2 := (1, [some (.ref (D.1 1))], [.ref (D.1 1)])) rfl ?_
    refine Zm_get C it_Gm_hasStarted hD rfl 1 wi_Gm (by decide) rfl rfl (j := 7) (by decide) fl_Gm_39 (v := .ref q9) hlv ?_
    refine Z_run C it_Gm_hasStarted 3 (f2 := (12, [some (.ref (D.1 1))], [.int (nI 1)])) rfl ?_
    exact Z_zret C q.e it_Gm_hasStarted rfl (Or.inr rfl) (zRet_i rfl) (by decide) (by decide)
set_option maxRecDepth 20000 in
theorem ct_Gm_timesOfBoard {E : zE} (hE : zEv E) {l : Launch} (hl : l.stackTraces = false) {D : zD} (hD : zDok E D) (V : Nat → Nat → Int32) (P : Nat → Nat → Value) (PH : aH) (hP : okP D PH) (L : List zPos) (hch : chn PH (P 1 7) L) (sz : Nat) : zM E l y_Gm_timesOfBoard [.code y_Gm_timesOfBoard c_Gm_timesOfBoard 1 (some .int)] rm_Gm_timesOfBoard [.ref (D.1 1)] (HM D V P PH) sz (zRet (some (.int (nI (tmz L)))) (HM D V P PH) sz) := by
  cases L with
  | nil =>
    have hlv : P 1 7 = .null := hch
    refine zM_of hE hl (by decide +kernel) [some (.ref (D.1 1))] ⟨rfl, rfl, Nat.le_of_ble_eq_true rfl⟩ ?_
    intro G C q htb
    refine Z_run C it_Gm_timesOfBoard 1 (f2 := (1, [some (.ref (D.1 1))], [.ref (D.1 1)])) rfl ?_
    refine Zm_get C it_Gm_timesOfBoard hD rfl 1 wi_Gm (by decide) rfl rfl (j := 7) (by decide) fl_Gm_39 (v := .null) hlv ?_
    refine Z_run C it_Gm_timesOfBoard 3 (f2 := (18, [some (.ref (D.1 1))], [.int (nI 0)])) rfl ?_
    exact Z_iret C q.e it_Gm_timesOfBoard rfl (zRet_i rfl) (by decide) (by decide)
  | cons p L =>
    obtain ⟨q9, ev9, hlv, hq9, hpk9, hch9⟩ := id hch
    refine zM_of hE hl (by decide +kernel) [some (.ref (D.1 1))] ⟨rfl, rfl, Nat.le_of_ble_eq_true rfl⟩ ?_
    intro G C q htb
    refine Z_run C it_Gm_timesOfBoard 1 (f2 := (1, [some (.ref (D.1 1))], [.ref (D.1 1)])) rfl ?_
    refine Zm_get C it_Gm_timesOfBoard hD rfl 1 wi_Gm (by decide) rfl rfl (j := 7) (by decide) fl_Gm_39 (v := .ref q9) hlv ?_
    refine Z_run C it_Gm_timesOfBoard 2 (f2 := (12, [some (.ref (D.1 1))], [.ref (D.1 1)])) rfl ?_
    refine Zm_get C it_Gm_timesOfBoard hD rfl 1 wi_Gm (by decide) rfl rfl (j := 7) (by decide) fl_Gm_39 (v := .ref q9) hlv ?_
    refine Z_getf C it_Gm_timesOfBoard rfl wi_Ps (HM_pc hP hq9) rfl (j := 6) (by decide) fl_Gm_47 (v := .int (nI p.2.2)) rfl ?_
    exact Z_iret C q.e it_Gm_timesOfBoard rfl (zRet_i rfl) (by decide) (by decide)
set_option maxRecDepth 20000 in
theorem ct_Gm_accepts {E : zE} (hE : zEv E) {l : Launch} (hl : l.stackTraces = false) {D : zD} (hD : zDok E D) (V : Nat → Nat → Int32) (P : Nat → Nat → Value) (PH : aH) (hF : okF (bF V 2)) (L : List zPos) (hch : chn PH (P 1 7) L) (s : Nat) (hs : s < 2) (sq : Nat) (hsq : sq < 36) (ld : Bool) (sz : Nat) : zM E l y_Gm_accepts [.code y_Gm_accepts c_Gm_accepts 4 (some .boolean)] rm_Gm_accepts [.ref (D.1 1), .int (nI s), .int (nI sq), .int (bI ld)] (HM D V P PH) sz (zRet (some (.int (bI (acc_ L (bF V 2) s sq ld)))) (HM D V P PH) sz) := by
  refine zM_of hE hl (by decide +kernel) [some (.ref (D.1 1)), some (.int (nI s)), some (.int (nI sq)), some (.int (bI ld))] ⟨rfl, rfl, Nat.le_of_ble_eq_true rfl⟩ ?_
  intro G C q htb
  have hpl := popc_le (sqs (bF V 2) s)
  refine Z_run C it_Gm_accepts 1 (f2 := (1, [some (.ref (D.1 1)), some (.int (nI s)), some (.int (nI sq)), some (.int (bI ld))], [.ref (D.1 1)])) rfl ?_
  refine Zr_callV C it_Gm_accepts hD rfl p_Gm_hasStarted ml_Gm_52 1 (by decide) rfl rfl [] (ct_Gm_hasStarted C.ev C.l hD _ _ _ L hch _) rfl rfl ⟨by decide, by decide, by decide, by decide⟩ (Nat.le_of_ble_eq_true rfl) rfl ?_
  show Z E G (HM D V P PH) sz 0 0 (4, [some (.ref (D.1 1)), some (.int (nI s)), some (.int (nI sq)), some (.int (bI ld))], [.int (bI (!L.isEmpty))])
  refine Z_br C it_Gm_accepts rfl rfl (fun hc1 => ?_) (fun hc1 => ?_)
  · replace hc1 := bI_1.mp hc1
    refine Z_run C it_Gm_accepts 1 (f2 := (52, [some (.ref (D.1 1)), some (.int (nI s)), some (.int (nI sq)), some (.int (bI ld))], [.int (nI 0)])) rfl ?_
    exact Z_zret C q.e it_Gm_accepts rfl (Or.inl rfl) (zRet_i (bI_f (by first | (simp_all [acc_]; done) | (simp_all [acc_] <;> omega)))) (by decide) (by decide)
  · replace hc1 := Classical.not_not.mp hc1
    replace hc1 := bI_0.mp hc1
    refine Z_run C it_Gm_accepts 1 (f2 := (8, [some (.ref (D.1 1)), some (.int (nI s)), some (.int (nI sq)), some (.int (bI ld))], [.ref (D.1 1)])) rfl ?_
    refine Zm_get C it_Gm_accepts hD rfl 1 wi_Gm (by decide) rfl rfl (j := 0) (by decide) fl_Gm_12 (v := .ref (D.1 2)) rfl ?_
    refine Z_run C it_Gm_accepts 1 (f2 := (12, [some (.ref (D.1 1)), some (.int (nI s)), some (.int (nI sq)), some (.int (bI ld))], [.int (nI sq), .ref (D.1 2)])) rfl ?_
    refine Zr_callV C it_Gm_accepts hD rfl p_Bd_isEmpty ml_Gm_56 2 (by decide) rfl rfl [.int (nI sq)] (ct_Bd_isEmpty C.ev C.l hD _ _ _ 2 isB_2 hF sq (by first | assumption | omega) _) rfl rfl ⟨by decide, by decide, by decide, by decide⟩ (Nat.le_of_ble_eq_true rfl) rfl ?_
    show Z E G (HM D V P PH) sz 0 0 (15, [some (.ref (D.1 1)), some (.int (nI s)), some (.int (nI sq)), some (.int (bI ld))], [.int (bI (bF V 2 sq == 0))])
    refine Z_br C it_Gm_accepts rfl rfl (fun hc2 => ?_) (fun hc2 => ?_)
    · replace hc2 := bI_0.mp hc2
      refine Z_run C it_Gm_accepts 1 (f2 := (52, [some (.ref (D.1 1)), some (.int (nI s)), some (.int (nI sq)), some (.int (bI ld))], [.int (nI 0)])) rfl ?_
      exact Z_zret C q.e it_Gm_accepts rfl (Or.inl rfl) (zRet_i (bI_f (by first | (simp_all [acc_]; done) | (simp_all [acc_] <;> omega)))) (by decide) (by decide)
    · replace hc2 := bI_1.mp hc2
      refine Z_run C it_Gm_accepts 1 (f2 := (19, [some (.ref (D.1 1)), some (.int (nI s)), some (.int (nI sq)), some (.int (bI ld))], [.ref (D.1 1)])) rfl ?_
      refine Zm_get C it_Gm_accepts hD rfl 1 wi_Gm (by decide) rfl rfl (j := 0) (by decide) fl_Gm_12 (v := .ref (D.1 2)) rfl ?_
      refine Z_run C it_Gm_accepts 1 (f2 := (23, [some (.ref (D.1 1)), some (.int (nI s)), some (.int (nI sq)), some (.int (bI ld))], [.int (nI s), .ref (D.1 2)])) rfl ?_
      refine Zr_callV C it_Gm_accepts hD rfl p_Bd_countOf ml_Gm_60 2 (by decide) rfl rfl [.int (nI s)] (ct_Bd_countOf C.ev C.l hD _ _ _ 2 isB_2 hF s (by first | assumption | omega) _) rfl rfl ⟨by decide, by decide, by decide, by decide⟩ (Nat.le_of_ble_eq_true rfl) rfl ?_
      show Z E G (HM D V P PH) sz 0 0 (26, [some (.ref (D.1 1)), some (.int (nI s)), some (.int (nI sq)), some (.int (bI ld))], [.int (nI (popc (sqs (bF V 2) s)))])
      refine Z_run C it_Gm_accepts 1 (f2 := (28, [some (.ref (D.1 1)), some (.int (nI s)), some (.int (nI sq)), some (.int (bI ld))], [.int (nI 8), .int (nI (popc (sqs (bF V 2) s)))])) rfl ?_
      refine Z_br C it_Gm_accepts rfl rfl (fun hc3 => ?_) (fun hc3 => ?_)
      · replace hc3 := (nI_leI (a := 8) (b := popc (sqs (bF V 2) s)) (by omega) (by omega)).mp hc3
        refine Z_run C it_Gm_accepts 1 (f2 := (52, [some (.ref (D.1 1)), some (.int (nI s)), some (.int (nI sq)), some (.int (bI ld))], [.int (nI 0)])) rfl ?_
        exact Z_zret C q.e it_Gm_accepts rfl (Or.inl rfl) (zRet_i (bI_f (by first | (simp_all [acc_]; done) | (simp_all [acc_] <;> omega)))) (by decide) (by decide)
      · replace hc3 : ¬ _ := fun z9 => hc3 ((nI_leI (a := 8) (b := popc (sqs (bF V 2) s)) (by omega) (by omega)).mpr z9)
        refine Z_run C it_Gm_accepts 1 (f2 := (32, [some (.ref (D.1 1)), some (.int (nI s)), some (.int (nI sq)), some (.int (bI ld))], [.int (bI ld)])) rfl ?_
        refine Z_br C it_Gm_accepts rfl rfl (fun hc4 => ?_) (fun hc4 => ?_)
        · replace hc4 := bI_0.mp hc4
          refine Z_run C it_Gm_accepts 2 (f2 := (52, [some (.ref (D.1 1)), some (.int (nI s)), some (.int (nI sq)), some (.int (bI ld))], [.int (nI 1)])) rfl ?_
          exact Z_zret C q.e it_Gm_accepts rfl (Or.inr rfl) (zRet_i (bI_t (by first | (simp_all [acc_]; done) | (simp_all [acc_] <;> omega)))) (by decide) (by decide)
        · replace hc4 := bI_1.mp hc4
          refine Z_run C it_Gm_accepts 1 (f2 := (36, [some (.ref (D.1 1)), some (.int (nI s)), some (.int (nI sq)), some (.int (bI ld))], [.ref (D.1 1)])) rfl ?_
          refine Zm_get C it_Gm_accepts hD rfl 1 wi_Gm (by decide) rfl rfl (j := 0) (by decide) fl_Gm_12 (v := .ref (D.1 2)) rfl ?_
          refine Z_run C it_Gm_accepts 1 (f2 := (40, [some (.ref (D.1 1)), some (.int (nI s)), some (.int (nI sq)), some (.int (bI ld))], [.int (nI s), .ref (D.1 2)])) rfl ?_
          refine Zr_callV C it_Gm_accepts hD rfl p_Bd_leaderSquare ml_Gm_64 2 (by decide) rfl rfl [.int (nI s)] (ct_Bd_leaderSquare C.ev C.l hD _ _ _ 2 isB_2 hF s (by first | assumption | omega) _) rfl rfl ⟨by decide, by decide, by decide, by decide⟩ (Nat.le_of_ble_eq_true rfl) rfl ?_
          show Z E G (HM D V P PH) sz 0 0 (43, [some (.ref (D.1 1)), some (.int (nI s)), some (.int (nI sq)), some (.int (bI ld))], [.int (oI (lsq (bF V 2) s))])
          refine Z_run C it_Gm_accepts 1 (f2 := (44, [some (.ref (D.1 1)), some (.int (nI s)), some (.int (nI sq)), some (.int (bI ld))], [.int ((-1)), .int (oI (lsq (bF V 2) s))])) rfl ?_
          refine Z_br C it_Gm_accepts rfl rfl (fun hc5 => ?_) (fun hc5 => ?_)
          · replace hc5 : (lsq (bF V 2) s).isSome = true := by rw [← Bool.not_eq_false]; exact fun z9 => hc5 (oI_lsq.mpr z9)
            refine Z_run C it_Gm_accepts 1 (f2 := (52, [some (.ref (D.1 1)), some (.int (nI s)), some (.int (nI sq)), some (.int (bI ld))], [.int (nI 0)])) rfl ?_
            exact Z_zret C q.e it_Gm_accepts rfl (Or.inl rfl) (zRet_i (bI_f (by first | (simp_all [acc_]; done) | (simp_all [acc_] <;> omega)))) (by decide) (by decide)
          · replace hc5 := oI_lsq.mp (Classical.not_not.mp hc5)
            refine Z_run C it_Gm_accepts 2 (f2 := (52, [some (.ref (D.1 1)), some (.int (nI s)), some (.int (nI sq)), some (.int (bI ld))], [.int (nI 1)])) rfl ?_
            exact Z_zret C q.e it_Gm_accepts rfl (Or.inr rfl) (zRet_i (bI_t (by first | (simp_all [acc_]; done) | (simp_all [acc_] <;> omega)))) (by decide) (by decide)
set_option maxRecDepth 20000 in
theorem ct_Gm_addPiece {E : zE} (hE : zEv E) {l : Launch} (hl : l.stackTraces = false) {D : zD} (hD : zDok E D) (V : Nat → Nat → Int32) (P : Nat → Nat → Value) (PH : aH) (sq : Nat) (hsq : sq < 36) (p : Nat) (hp : p < 128) (sz : Nat) : zM E l y_Gm_addPiece [.code y_Gm_addPiece c_Gm_addPiece 3 none] rm_Gm_addPiece [.ref (D.1 1), .int (nI sq), .int (nI p)] (HM D V P PH) sz (zRet (none) (HM D (vset (vset V 3 sq (nI p)) 4 (sd p) (V 4 (sd p) + nI (wr p))) P PH) sz) := by
  refine zM_of hE hl (by decide +kernel) [some (.ref (D.1 1)), some (.int (nI sq)), some (.int (nI p))] ⟨rfl, rfl, Nat.le_of_ble_eq_true rfl⟩ ?_
  intro G C q htb
  have hsd := sd_le p
  refine Z_run C it_Gm_addPiece 1 (f2 := (1, [some (.ref (D.1 1)), some (.int (nI sq)), some (.int (nI p))], [.ref (D.1 1)])) rfl ?_
  refine Zm_get C it_Gm_addPiece hD rfl 1 wi_Gm (by decide) rfl rfl (j := 0) (by decide) fl_Gm_12 (v := .ref (D.1 2)) rfl ?_
  refine Z_run C it_Gm_addPiece 2 (f2 := (6, [some (.ref (D.1 1)), some (.int (nI sq)), some (.int (nI p))], [.int (nI p), .int (nI sq), .ref (D.1 2)])) rfl ?_
  refine Zr_callV C it_Gm_addPiece hD rfl p_Bd_set ml_Gm_67 2 (by decide) rfl rfl [.int (nI sq), .int (nI p)] (ct_Bd_set C.ev C.l hD _ _ _ 2 isB_2 sq (by first | assumption | omega) (nI p) _) rfl rfl ⟨by decide, by decide, by decide, by decide⟩ (Nat.le_of_ble_eq_true rfl) rfl ?_
  show Z E G (HM D (vset V 3 sq (nI p)) P PH) sz 0 0 (9, [some (.ref (D.1 1)), some (.int (nI sq)), some (.int (nI p))], [])
  refine Z_run C it_Gm_addPiece 1 (f2 := (10, [some (.ref (D.1 1)), some (.int (nI sq)), some (.int (nI p))], [.ref (D.1 1)])) rfl ?_
  refine Zm_get C it_Gm_addPiece hD rfl 1 wi_Gm (by decide) rfl rfl (j := 1) (by decide) fl_Gm_18 (v := .ref (D.1 4)) rfl ?_
  refine Z_run C it_Gm_addPiece 1 (f2 := (14, [some (.ref (D.1 1)), some (.int (nI sq)), some (.int (nI p))], [.int (nI p), .ref (D.1 4)])) rfl ?_
  refine Zr_callS C it_Gm_addPiece rfl p_Pc_sideOf ml_Gm_71 [.int (nI p)] (ct_Pc_sideOf C.ev C.l p (by first | assumption | omega | exact hF _ (by omega)) _ _) rfl rfl ⟨by decide, by decide, by decide, by decide⟩ (Nat.le_of_ble_eq_true rfl) rfl ?_
  show Z E G (HM D (vset V 3 sq (nI p)) P PH) sz 0 0 (17, [some (.ref (D.1 1)), some (.int (nI sq)), some (.int (nI p))], [.int (nI (sd p)), .ref (D.1 4)])
  refine Z_run C it_Gm_addPiece 1 (f2 := (18, [some (.ref (D.1 1)), some (.int (nI sq)), some (.int (nI p))], [.int (nI (sd p)), .ref (D.1 4), .int (nI (sd p)), .ref (D.1 4)])) rfl ?_
  refine Zm_ald C it_Gm_addPiece hD 4 10 rfl (by decide) rfl (by decide) (by decide) rfl (j := sd p) (by omega) (v := .int ((vset V 3 sq (nI p)) 4 (sd p))) rfl ?_
  refine Z_run C it_Gm_addPiece 1 (f2 := (20, [some (.ref (D.1 1)), some (.int (nI sq)), some (.int (nI p))], [.int (nI p), .int ((vset V 3 sq (nI p)) 4 (sd p)), .int (nI (sd p)), .ref (D.1 4)])) rfl ?_
  refine Zr_callS C it_Gm_addPiece rfl p_Pc_worthOf ml_Gm_76 [.int (nI p)] (ct_Pc_worthOf C.ev C.l hD _ _ _ p (by first | assumption | omega | exact hF _ (by omega)) _) rfl rfl ⟨by decide, by decide, by decide, by decide⟩ (Nat.le_of_ble_eq_true rfl) rfl ?_
  show Z E G (HM D (vset V 3 sq (nI p)) P PH) sz 0 0 (23, [some (.ref (D.1 1)), some (.int (nI sq)), some (.int (nI p))], [.int (nI (wr p)), .int ((vset V 3 sq (nI p)) 4 (sd p)), .int (nI (sd p)), .ref (D.1 4)])
  refine Z_run C it_Gm_addPiece 1 (f2 := (24, [some (.ref (D.1 1)), some (.int (nI sq)), some (.int (nI p))], [.int ((vset V 3 sq (nI p)) 4 (sd p) + nI (wr p)), .int (nI (sd p)), .ref (D.1 4)])) rfl ?_
  refine Zm_ast C it_Gm_addPiece hD 4 10 rfl (by first | decide | exact isB_k hb | omega) rfl (by decide) rfl (j := sd p) (by omega) trivial rfl ?_
  exact Z_vret C q.e it_Gm_addPiece rfl (zRet_vH rfl) (by decide) (by decide)

set_option maxRecDepth 20000 in
theorem ct_Gm_canBegin {E : zE} (hE : zEv E) {l : Launch} (hl : l.stackTraces = false) {D : zD} (hD : zDok E D) (V : Nat → Nat → Int32) (P : Nat → Nat → Value) (PH : aH) (hF : okF (bF V 2)) (L : List zPos) (hch : chn PH (P 1 7) L) (sz : Nat) : zM E l y_Gm_canBegin [.code y_Gm_canBegin c_Gm_canBegin 1 (some .boolean)] rm_Gm_canBegin [.ref (D.1 1)] (HM D V P PH) sz (zRet (some (.int (bI (cbg L (bF V 2))))) (HM D V P PH) sz) := by
  refine zM_of hE hl (by decide +kernel) [some (.ref (D.1 1))] ⟨rfl, rfl, Nat.le_of_ble_eq_true rfl⟩ ?_
  intro G C q htb
  refine Z_run C it_Gm_canBegin 1 (f2 := (1, [some (.ref (D.1 1))], [.ref (D.1 1)])) rfl ?_
  refine Zr_callV C it_Gm_canBegin hD rfl p_Gm_hasStarted ml_Gm_52 1 (by decide) rfl rfl [] (ct_Gm_hasStarted C.ev C.l hD _ _ _ L hch _) rfl rfl ⟨by decide, by decide, by decide, by decide⟩ (Nat.le_of_ble_eq_true rfl) rfl ?_
  show Z E G (HM D V P PH) sz 0 0 (4, [some (.ref (D.1 1))], [.int (bI (!L.isEmpty))])
  refine Z_br C it_Gm_canBegin rfl rfl (fun hc1 => ?_) (fun hc1 => ?_)
  · replace hc1 := bI_1.mp hc1
    refine Z_run C it_Gm_canBegin 1 (f2 := (36, [some (.ref (D.1 1))], [.int (nI 0)])) rfl ?_
    exact Z_zret C q.e it_Gm_canBegin rfl (Or.inl rfl) (zRet_i (bI_f (by simp_all [cbg]))) (by decide) (by decide)
  · replace hc1 := Classical.not_not.mp hc1
    replace hc1 := bI_0.mp hc1
    refine Z_run C it_Gm_canBegin 1 (f2 := (8, [some (.ref (D.1 1))], [.ref (D.1 1)])) rfl ?_
    refine Zm_get C it_Gm_canBegin hD rfl 1 wi_Gm (by decide) rfl rfl (j := 0) (by decide) fl_Gm_12 (v := .ref (D.1 2)) rfl ?_
    refine Z_run C it_Gm_canBegin 1 (f2 := (12, [some (.ref (D.1 1))], [.int (nI 0), .ref (D.1 2)])) rfl ?_
    refine Zr_callV C it_Gm_canBegin hD rfl p_Bd_leaderSquare ml_Gm_64 2 (by decide) rfl rfl [.int (nI 0)] (ct_Bd_leaderSquare C.ev C.l hD _ _ _ 2 isB_2 hF 0 (by first | assumption | omega) _) rfl rfl ⟨by decide, by decide, by decide, by decide⟩ (Nat.le_of_ble_eq_true rfl) rfl ?_
    show Z E G (HM D V P PH) sz 0 0 (15, [some (.ref (D.1 1))], [.int (oI (lsq (bF V 2) 0))])
    refine Z_run C it_Gm_canBegin 1 (f2 := (16, [some (.ref (D.1 1))], [.int ((-1)), .int (oI (lsq (bF V 2) 0))])) rfl ?_
    refine Z_br C it_Gm_canBegin rfl rfl (fun hc2 => ?_) (fun hc2 => ?_)
    · replace hc2 := oI_lsq.mp hc2
      refine Z_run C it_Gm_canBegin 1 (f2 := (36, [some (.ref (D.1 1))], [.int (nI 0)])) rfl ?_
      exact Z_zret C q.e it_Gm_canBegin rfl (Or.inl rfl) (zRet_i (bI_f (by simp_all [cbg]))) (by decide) (by decide)
    · replace hc2 : (lsq (bF V 2) 0).isSome = true := by rw [← Bool.not_eq_false]; exact fun z9 => hc2 (oI_lsq.mpr z9)
      refine Z_run C it_Gm_canBegin 1 (f2 := (20, [some (.ref (D.1 1))], [.ref (D.1 1)])) rfl ?_
      refine Zm_get C it_Gm_canBegin hD rfl 1 wi_Gm (by decide) rfl rfl (j := 0) (by decide) fl_Gm_12 (v := .ref (D.1 2)) rfl ?_
      refine Z_run C it_Gm_canBegin 1 (f2 := (24, [some (.ref (D.1 1))], [.int (nI 1), .ref (D.1 2)])) rfl ?_
      refine Zr_callV C it_Gm_canBegin hD rfl p_Bd_leaderSquare ml_Gm_64 2 (by decide) rfl rfl [.int (nI 1)] (ct_Bd_leaderSquare C.ev C.l hD _ _ _ 2 isB_2 hF 1 (by first | assumption | omega) _) rfl rfl ⟨by decide, by decide, by decide, by decide⟩ (Nat.le_of_ble_eq_true rfl) rfl ?_
      show Z E G (HM D V P PH) sz 0 0 (27, [some (.ref (D.1 1))], [.int (oI (lsq (bF V 2) 1))])
      refine Z_run C it_Gm_canBegin 1 (f2 := (28, [some (.ref (D.1 1))], [.int ((-1)), .int (oI (lsq (bF V 2) 1))])) rfl ?_
      refine Z_br C it_Gm_canBegin rfl rfl (fun hc3 => ?_) (fun hc3 => ?_)
      · replace hc3 := oI_lsq.mp hc3
        refine Z_run C it_Gm_canBegin 1 (f2 := (36, [some (.ref (D.1 1))], [.int (nI 0)])) rfl ?_
        exact Z_zret C q.e it_Gm_canBegin rfl (Or.inl rfl) (zRet_i (bI_f (by simp_all [cbg]))) (by decide) (by decide)
      · replace hc3 : (lsq (bF V 2) 1).isSome = true := by rw [← Bool.not_eq_false]; exact fun z9 => hc3 (oI_lsq.mpr z9)
        refine Z_run C it_Gm_canBegin 2 (f2 := (36, [some (.ref (D.1 1))], [.int (nI 1)])) rfl ?_
        exact Z_zret C q.e it_Gm_canBegin rfl (Or.inr rfl) (zRet_i (bI_t (by simp_all [cbg]))) (by decide) (by decide)
set_option maxRecDepth 20000 in
theorem ct_Gm_reasonAgainst {E : zE} (hE : zEv E) {l : Launch} (hl : l.stackTraces = false) {D : zD} (hD : zDok E D) (V : Nat → Nat → Int32) (P : Nat → Nat → Value) (PH : aH) (hF : okF (bF V 2)) (L : List zPos) (hch : chn PH (P 1 7) L) (tn : Nat) (htn : tn < 2) (hT : V 1 3 = nI tn) (ov : Bool) (hO5 : V 1 5 = bI ov) (fr : Nat) (hfr : fr < 36) (to : Nat) (hto : to < 36) (sz : Nat) : zM E l y_Gm_reasonAgainst [.code y_Gm_reasonAgainst c_Gm_reasonAgainst 4 (some .int)] rm_Gm_reasonAgainst [.ref (D.1 1), .int (nI fr), .int (nI to)] (HM D V P PH) sz (zRet (some (.int (nI (rsn L ov (bF V 2) tn fr to)))) (HM D V P PH) sz) := by
  refine zM_of hE hl (by decide +kernel) [some (.ref (D.1 1)), some (.int (nI fr)), some (.int (nI to)), none] ⟨rfl, rfl, Nat.le_of_ble_eq_true rfl⟩ ?_
  intro G C q htb
  refine Z_run C it_Gm_reasonAgainst 1 (f2 := (1, [some (.ref (D.1 1)), some (.int (nI fr)), some (.int (nI to)), none], [.ref (D.1 1)])) rfl ?_
  refine Zr_callV C it_Gm_reasonAgainst hD rfl p_Gm_hasStarted ml_Gm_52 1 (by decide) rfl rfl [] (ct_Gm_hasStarted C.ev C.l hD _ _ _ L hch _) rfl rfl ⟨by decide, by decide, by decide, by decide⟩ (Nat.le_of_ble_eq_true rfl) rfl ?_
  show Z E G (HM D V P PH) sz 0 0 (4, [some (.ref (D.1 1)), some (.int (nI fr)), some (.int (nI to)), none], [.int (bI (!L.isEmpty))])
  refine Z_br C it_Gm_reasonAgainst rfl rfl (fun hc1 => ?_) (fun hc1 => ?_)
  · replace hc1 := bI_0.mp hc1
    refine Z_run C it_Gm_reasonAgainst 1 (f2 := (15, [some (.ref (D.1 1)), some (.int (nI fr)), some (.int (nI to)), none], [.int (nI 1)])) rfl ?_
    exact Z_iret C q.e it_Gm_reasonAgainst rfl (zRet_i (by simp_all [rsn])) (by decide) (by decide)
  · replace hc1 := bI_1.mp hc1
    refine Z_run C it_Gm_reasonAgainst 1 (f2 := (8, [some (.ref (D.1 1)), some (.int (nI fr)), some (.int (nI to)), none], [.ref (D.1 1)])) rfl ?_
    refine Zm_get C it_Gm_reasonAgainst hD rfl 1 wi_Gm (by decide) rfl rfl (j := 5) (by decide) fl_Gm_32 (v := .int (bI ov)) (congrArg Value.int hO5) ?_
    refine Z_br C it_Gm_reasonAgainst rfl rfl (fun hc2 => ?_) (fun hc2 => ?_)
    · replace hc2 := bI_0.mp hc2
      refine Z_run C it_Gm_reasonAgainst 1 (f2 := (17, [some (.ref (D.1 1)), some (.int (nI fr)), some (.int (nI to)), none], [.ref (D.1 1)])) rfl ?_
      refine Zm_get C it_Gm_reasonAgainst hD rfl 1 wi_Gm (by decide) rfl rfl (j := 0) (by decide) fl_Gm_12 (v := .ref (D.1 2)) rfl ?_
      refine Z_run C it_Gm_reasonAgainst 2 (f2 := (22, [some (.ref (D.1 1)), some (.int (nI fr)), some (.int (nI to)), none], [.ref (D.1 1), .int (nI fr), .ref (D.1 2)])) rfl ?_
      refine Zm_get C it_Gm_reasonAgainst hD rfl 1 wi_Gm (by decide) rfl rfl (j := 3) (by decide) fl_Gm_25 (v := .int (nI tn)) (congrArg Value.int hT) ?_
      refine Zr_callV C it_Gm_reasonAgainst hD rfl p_Bd_holds ml_Gm_88 2 (by decide) rfl rfl [.int (nI fr), .int (nI tn)] (ct_Bd_holds C.ev C.l hD _ _ _ 2 isB_2 hF fr (by first | assumption | omega) tn (by first | assumption | omega) _) rfl rfl ⟨by decide, by decide, by decide, by decide⟩ (Nat.le_of_ble_eq_true rfl) rfl ?_
      show Z E G (HM D V P PH) sz 0 0 (28, [some (.ref (D.1 1)), some (.int (nI fr)), some (.int (nI to)), none], [.int (bI (hld (bF V 2) fr tn))])
      refine Z_br C it_Gm_reasonAgainst rfl rfl (fun hc3 => ?_) (fun hc3 => ?_)
      · replace hc3 := bI_1.mp hc3
        refine Z_run C it_Gm_reasonAgainst 1 (f2 := (34, [some (.ref (D.1 1)), some (.int (nI fr)), some (.int (nI to)), none], [.ref (D.1 1)])) rfl ?_
        refine Zm_get C it_Gm_reasonAgainst hD rfl 1 wi_Gm (by decide) rfl rfl (j := 0) (by decide) fl_Gm_12 (v := .ref (D.1 2)) rfl ?_
        refine Z_run C it_Gm_reasonAgainst 2 (f2 := (39, [some (.ref (D.1 1)), some (.int (nI fr)), some (.int (nI to)), none], [.ref (D.1 1), .int (nI to), .ref (D.1 2)])) rfl ?_
        refine Zm_get C it_Gm_reasonAgainst hD rfl 1 wi_Gm (by decide) rfl rfl (j := 3) (by decide) fl_Gm_25 (v := .int (nI tn)) (congrArg Value.int hT) ?_
        refine Zr_callV C it_Gm_reasonAgainst hD rfl p_Bd_holds ml_Gm_88 2 (by decide) rfl rfl [.int (nI to), .int (nI tn)] (ct_Bd_holds C.ev C.l hD _ _ _ 2 isB_2 hF to (by first | assumption | omega) tn (by first | assumption | omega) _) rfl rfl ⟨by decide, by decide, by decide, by decide⟩ (Nat.le_of_ble_eq_true rfl) rfl ?_
        show Z E G (HM D V P PH) sz 0 0 (45, [some (.ref (D.1 1)), some (.int (nI fr)), some (.int (nI to)), none], [.int (bI (hld (bF V 2) to tn))])
        refine Z_br C it_Gm_reasonAgainst rfl rfl (fun hc4 => ?_) (fun hc4 => ?_)
        · replace hc4 := bI_0.mp hc4
          refine Z_run C it_Gm_reasonAgainst 1 (f2 := (51, [some (.ref (D.1 1)), some (.int (nI fr)), some (.int (nI to)), none], [.ref (D.1 1)])) rfl ?_
          refine Zm_get C it_Gm_reasonAgainst hD rfl 1 wi_Gm (by decide) rfl rfl (j := 0) (by decide) fl_Gm_12 (v := .ref (D.1 2)) rfl ?_
          refine Z_run C it_Gm_reasonAgainst 1 (f2 := (55, [some (.ref (D.1 1)), some (.int (nI fr)), some (.int (nI to)), none], [.int (nI fr), .ref (D.1 2)])) rfl ?_
          refine Zr_callV C it_Gm_reasonAgainst hD rfl p_Bd_reachFrom ml_Gm_92 2 (by decide) rfl rfl [.int (nI fr)] (ct_Bd_reachFrom C.ev C.l hD _ _ _ 2 isB_2 hF fr (by first | assumption | omega) _) rfl rfl ⟨by decide, by decide, by decide, by decide⟩ (Nat.le_of_ble_eq_true rfl) rfl ?_
          show Z E G (HM D V P PH) sz 0 0 (58, [some (.ref (D.1 1)), some (.int (nI fr)), some (.int (nI to)), none], [.long (lN (gfa (bF V 2) fr (sd (bF V 2 fr))))])
          refine Z_run C it_Gm_reasonAgainst 6 (f2 := (64, [some (.ref (D.1 1)), some (.int (nI fr)), some (.int (nI to)), none], [.int (lg_cmp ((lN (gfa (bF V 2) fr (sd (bF V 2 fr))) >>> ((nI to).toInt64 &&& 63)) &&& lN 1) (lN 0))])) rfl ?_
          have e1 : lg_cmp ((lN (gfa (bF V 2) fr (sd (bF V 2 fr))) >>> ((nI to).toInt64 &&& 63)) &&& lN 1) (lN 0) = bI ((gfa (bF V 2) fr (sd (bF V 2 fr))).testBit to) := lN_bit (by have := gfa_lt (bF V 2) fr (sd (bF V 2 fr)); omega) (by omega)
          rw [e1]
          refine Z_br C it_Gm_reasonAgainst rfl rfl (fun hc5 => ?_) (fun hc5 => ?_)
          · replace hc5 := bI_0.mp hc5
            refine Z_run C it_Gm_reasonAgainst 3 (f2 := (74, [some (.ref (D.1 1)), some (.int (nI fr)), some (.int (nI to)), some (.int (nI 0))], [.int (nI 0)])) rfl ?_
            refine Z_br C it_Gm_reasonAgainst rfl rfl (fun hc6 => ?_) (fun hc6 => ?_)
            · skip
              refine Z_run C it_Gm_reasonAgainst 1 (f2 := (82, [some (.ref (D.1 1)), some (.int (nI fr)), some (.int (nI to)), some (.int (nI 0))], [.int (nI 4)])) rfl ?_
              exact Z_iret C q.e it_Gm_reasonAgainst rfl (zRet_i (by simp_all [rsn])) (by decide) (by decide)
            · exact absurd rfl hc6
          · replace hc5 := bI_1.mp hc5
            refine Z_run C it_Gm_reasonAgainst 4 (f2 := (74, [some (.ref (D.1 1)), some (.int (nI fr)), some (.int (nI to)), some (.int (nI 1))], [.int (nI 1)])) rfl ?_
            refine Z_br C it_Gm_reasonAgainst rfl rfl (fun hc7 => ?_) (fun hc7 => ?_)
            · exact absurd hc7 (by decide)
            · skip
              refine Z_run C it_Gm_reasonAgainst 2 (f2 := (82, [some (.ref (D.1 1)), some (.int (nI fr)), some (.int (nI to)), some (.int (nI 1))], [.int (nI 0)])) rfl ?_
              exact Z_iret C q.e it_Gm_reasonAgainst rfl (zRet_i (by simp_all [rsn])) (by decide) (by decide)
        · replace hc4 := bI_1.mp hc4
          refine Z_run C it_Gm_reasonAgainst 1 (f2 := (49, [some (.ref (D.1 1)), some (.int (nI fr)), some (.int (nI to)), none], [.int (nI 3)])) rfl ?_
          exact Z_iret C q.e it_Gm_reasonAgainst rfl (zRet_i (by simp_all [rsn])) (by decide) (by decide)
      · replace hc3 := Classical.not_not.mp hc3
        replace hc3 := bI_0.mp hc3
        refine Z_run C it_Gm_reasonAgainst 1 (f2 := (32, [some (.ref (D.1 1)), some (.int (nI fr)), some (.int (nI to)), none], [.int (nI 2)])) rfl ?_
        exact Z_iret C q.e it_Gm_reasonAgainst rfl (zRet_i (by simp_all [rsn])) (by decide) (by decide)
    · replace hc2 := bI_1.mp hc2
      refine Z_run C it_Gm_reasonAgainst 1 (f2 := (15, [some (.ref (D.1 1)), some (.int (nI fr)), some (.int (nI to)), none], [.int (nI 1)])) rfl ?_
      exact Z_iret C q.e it_Gm_reasonAgainst rfl (zRet_i (by simp_all [rsn])) (by decide) (by decide)
