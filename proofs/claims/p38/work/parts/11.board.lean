/-! ===== Board: reads of one square, sums over the squares; F k is the piece on the square k ===== -/
def bF (V : Nat → Nat → Int32) (b k : Nat) : Nat := pn (V (b + 1) k)
theorem bF_e (V : Nat → Nat → Int32) (b k : Nat) : V (b + 1) k = nI (bF V b k) := (nI_pn _).symm
theorem bF_v (V : Nat → Nat → Int32) (b k : Nat) : Value.int (V (b + 1) k) = .int (nI (bF V b k)) := congrArg Value.int (bF_e V b k)
def okF (F : Nat → Nat) : Prop := ∀ k, k < 36 → F k < 128
def hld (F : Nat → Nat) (sq s : Nat) : Bool := F sq != 0 && sd (F sq) == s
theorem hld_t {F : Nat → Nat} {sq s : Nat} (h1 : ¬ F sq = 0) (h2 : sd (F sq) = s) : hld F sq s = true := by simp [hld, h1, h2]
theorem hld_f1 {F : Nat → Nat} {sq s : Nat} (h1 : F sq = 0) : hld F sq s = false := by simp [hld, h1]
theorem hld_f2 {F : Nat → Nat} {sq s : Nat} (h2 : ¬ sd (F sq) = s) : hld F sq s = false := by simp [hld, h2]
/-- a number counted over the first n places -/
def smp (f : Nat → Nat) : Nat → Nat
  | 0 => 0
  | n + 1 => smp f n + f n
theorem smp_ext {f g : Nat → Nat} {n : Nat} (h : ∀ k, k < n → f k = g k) : smp f n = smp g n := by
  induction n with
  | zero => rfl
  | succ n ih => simp only [smp]; rw [ih (fun k hk => h k (by omega)), h n (by omega)]
theorem smp_le {f : Nat → Nat} {c n : Nat} (h : ∀ k, k < n → f k ≤ c) : smp f n ≤ c * n := by
  induction n with
  | zero => simp [smp]
  | succ n ih =>
    have h1 := ih (fun k hk => h k (by omega))
    have h2 := h n (by omega)
    simp only [smp, Nat.mul_succ]
    omega
def cnt (b : Nat → Bool) (n : Nat) : Nat := smp (fun k => if b k then 1 else 0) n
def orp (f : Nat → Nat) : Nat → Nat
  | 0 => 0
  | n + 1 => orp f n ||| f n
theorem orp_lt {f : Nat → Nat} {n c : Nat} (h : ∀ k, k < n → f k < 2 ^ c) : orp f n < 2 ^ c := by
  induction n with
  | zero => exact Nat.two_pow_pos c
  | succ n ih => exact Nat.or_lt_two_pow (ih (fun k hk => h k (by omega))) (h n (by omega))
theorem orp_tb (f : Nat → Nat) (n t : Nat) : (orp f n).testBit t = true ↔ ∃ i, i < n ∧ (f i).testBit t = true := by
  induction n with
  | zero => simp [orp]
  | succ n ih =>
    simp only [orp, Nat.testBit_or, Bool.or_eq_true, ih]
    constructor
    · rintro (⟨i, h1, h2⟩ | h)
      · exact ⟨i, by omega, h2⟩
      · exact ⟨n, by omega, h⟩
    · rintro ⟨i, h1, h2⟩
      by_cases e : i = n
      · subst e
        exact Or.inr h2
      · exact Or.inl ⟨i, by omega, h2⟩
theorem orp_ext {f g : Nat → Nat} {n : Nat} (h : ∀ k, k < n → f k = g k) : orp f n = orp g n := by
  induction n with
  | zero => rfl
  | succ n ih => simp only [orp]; rw [ih (fun k hk => h k (by omega)), h n (by omega)]
/-- the first of n places from i on that has b -/
def ffr (b : Nat → Bool) : Nat → Nat → Option Nat
  | 0, _ => none
  | n + 1, i => if b i then some i else ffr b n (i + 1)
def oI : Option Nat → Int32
  | none => -1
  | some k => nI k
def sqs (F : Nat → Nat) (s : Nat) : Nat := bm (fun k => hld F k s) 36
def knw (F : Nat → Nat) (s i : Nat) : Nat := bm (fun k => hld F k s && kn (F k) i) 36
def lsq (F : Nat → Nat) (s : Nat) : Option Nat := ffr (fun k => hld F k s && ldr (F k)) 36 0
def wos (F : Nat → Nat) (s n : Nat) : Nat := smp (fun k => if hld F k s then wr (F k) else 0) n
theorem sqs_lt (F : Nat → Nat) (s : Nat) : sqs F s < 2 ^ 36 := bm_lt _ _
theorem knw_lt (F : Nat → Nat) (s i : Nat) : knw F s i < 2 ^ 36 := bm_lt _ _
theorem nI_or (a b : Nat) : nI a ||| nI b = nI (a ||| b) := by
  apply Int32.toBitVec_inj.mp
  show BitVec.ofNat 32 a ||| BitVec.ofNat 32 b = BitVec.ofNat 32 (a ||| b)
  apply BitVec.eq_of_getLsbD_eq
  intro i hi
  rw [BitVec.getLsbD_or, BitVec.getLsbD_ofNat, BitVec.getLsbD_ofNat, BitVec.getLsbD_ofNat, Nat.testBit_or]
  simp [hi]
def crr (F : Nat → Nat) (fr to : Nat) : Nat := F fr ||| lrn (F fr) (F to)
set_option maxRecDepth 20000 in
theorem ct_Bd_isEmpty {E : zE} (hE : zEv E) {l : Launch} (hl : l.stackTraces = false) {D : zD} (hD : zDok E D) (V : Nat → Nat → Int32) (P : Nat → Nat → Value) (PH : aH) (b : Nat) (hb : isB b) (hF : okF (bF V b)) (sq : Nat) (hsq : sq < 36) (sz : Nat) : zM E l y_Bd_isEmpty [.code y_Bd_isEmpty c_Bd_isEmpty 2 (some .boolean)] rm_Bd_isEmpty [.ref (D.1 b), .int (nI sq)] (HM D V P PH) sz (zRet (some (.int (bI (bF V b sq == 0)))) (HM D V P PH) sz) := by
  refine zM_of hE hl (by decide +kernel) [some (.ref (D.1 b)), some (.int (nI sq))] ⟨rfl, rfl, Nat.le_of_ble_eq_true rfl⟩ ?_
  intro G C q htb
  have hq := hF sq hsq
  refine Z_run C it_Bd_isEmpty 1 (f2 := (1, [some (.ref (D.1 b)), some (.int (nI sq))], [.ref (D.1 b)])) rfl ?_
  refine Zm_get C it_Bd_isEmpty hD rfl b wi_Bd (isB_i hb) (hb.1 _ _ _) rfl (j := 0) (by decide) fl_Bd_9 (v := .ref (D.1 (b + 1))) rfl ?_
  refine Z_run C it_Bd_isEmpty 1 (f2 := (5, [some (.ref (D.1 b)), some (.int (nI sq))], [.int (nI sq), .ref (D.1 (b + 1))])) rfl ?_
  refine Zm_ald C it_Bd_isEmpty hD (b + 1) 10 rfl (isB_j hb) (hb.2.1 _ _ _) (by decide) (by decide) rfl (j := sq) (by omega) (v := .int (nI (bF V b sq))) (bF_v _ _ _) ?_
  refine Z_br C it_Bd_isEmpty rfl rfl (fun hc1 => ?_) (fun hc1 => ?_)
  · replace hc1 : ¬ _ := fun z9 => hc1 ((nI_e0 (a := bF V b sq) (by omega)).mpr z9)
    refine Z_run C it_Bd_isEmpty 1 (f2 := (14, [some (.ref (D.1 b)), some (.int (nI sq))], [.int (nI 0)])) rfl ?_
    exact Z_zret C q.e it_Bd_isEmpty rfl (Or.inl rfl) (zRet_i (bI_f (by simp [hc1]))) (by decide) (by decide)
  · replace hc1 := Classical.not_not.mp hc1
    replace hc1 := (nI_e0 (a := bF V b sq) (by omega)).mp hc1
    refine Z_run C it_Bd_isEmpty 2 (f2 := (14, [some (.ref (D.1 b)), some (.int (nI sq))], [.int (nI 1)])) rfl ?_
    exact Z_zret C q.e it_Bd_isEmpty rfl (Or.inr rfl) (zRet_i (bI_t (by simp [hc1]))) (by decide) (by decide)
set_option maxRecDepth 20000 in
theorem ct_Bd_pieceOn {E : zE} (hE : zEv E) {l : Launch} (hl : l.stackTraces = false) {D : zD} (hD : zDok E D) (V : Nat → Nat → Int32) (P : Nat → Nat → Value) (PH : aH) (b : Nat) (hb : isB b) (sq : Nat) (hsq : sq < 36) (sz : Nat) : zM E l y_Bd_pieceOn [.code y_Bd_pieceOn c_Bd_pieceOn 2 (some .int)] rm_Bd_pieceOn [.ref (D.1 b), .int (nI sq)] (HM D V P PH) sz (zRet (some (.int (nI (bF V b sq)))) (HM D V P PH) sz) := by
  refine zM_of hE hl (by decide +kernel) [some (.ref (D.1 b)), some (.int (nI sq))] ⟨rfl, rfl, Nat.le_of_ble_eq_true rfl⟩ ?_
  intro G C q htb
  refine Z_run C it_Bd_pieceOn 1 (f2 := (1, [some (.ref (D.1 b)), some (.int (nI sq))], [.ref (D.1 b)])) rfl ?_
  refine Zm_get C it_Bd_pieceOn hD rfl b wi_Bd (isB_i hb) (hb.1 _ _ _) rfl (j := 0) (by decide) fl_Bd_9 (v := .ref (D.1 (b + 1))) rfl ?_
  refine Z_run C it_Bd_pieceOn 1 (f2 := (5, [some (.ref (D.1 b)), some (.int (nI sq))], [.int (nI sq), .ref (D.1 (b + 1))])) rfl ?_
  refine Zm_ald C it_Bd_pieceOn hD (b + 1) 10 rfl (isB_j hb) (hb.2.1 _ _ _) (by decide) (by decide) rfl (j := sq) (by omega) (v := .int (nI (bF V b sq))) (bF_v _ _ _) ?_
  exact Z_iret C q.e it_Bd_pieceOn rfl (zRet_i rfl) (by decide) (by decide)
set_option maxRecDepth 20000 in
theorem ct_Bd_holds {E : zE} (hE : zEv E) {l : Launch} (hl : l.stackTraces = false) {D : zD} (hD : zDok E D) (V : Nat → Nat → Int32) (P : Nat → Nat → Value) (PH : aH) (b : Nat) (hb : isB b) (hF : okF (bF V b)) (sq : Nat) (hsq : sq < 36) (s : Nat) (hs : s < 2) (sz : Nat) : zM E l y_Bd_holds [.code y_Bd_holds c_Bd_holds 3 (some .boolean)] rm_Bd_holds [.ref (D.1 b), .int (nI sq), .int (nI s)] (HM D V P PH) sz (zRet (some (.int (bI (hld (bF V b) sq s)))) (HM D V P PH) sz) := by
  refine zM_of hE hl (by decide +kernel) [some (.ref (D.1 b)), some (.int (nI sq)), some (.int (nI s))] ⟨rfl, rfl, Nat.le_of_ble_eq_true rfl⟩ ?_
  intro G C q htb
  have hq := hF sq hsq
  have hsd := sd_le (bF V b sq)
  refine Z_run C it_Bd_holds 1 (f2 := (1, [some (.ref (D.1 b)), some (.int (nI sq)), some (.int (nI s))], [.ref (D.1 b)])) rfl ?_
  refine Zm_get C it_Bd_holds hD rfl b wi_Bd (isB_i hb) (hb.1 _ _ _) rfl (j := 0) (by decide) fl_Bd_9 (v := .ref (D.1 (b + 1))) rfl ?_
  refine Z_run C it_Bd_holds 1 (f2 := (5, [some (.ref (D.1 b)), some (.int (nI sq)), some (.int (nI s))], [.int (nI sq), .ref (D.1 (b + 1))])) rfl ?_
  refine Zm_ald C it_Bd_holds hD (b + 1) 10 rfl (isB_j hb) (hb.2.1 _ _ _) (by decide) (by decide) rfl (j := sq) (by omega) (v := .int (nI (bF V b sq))) (bF_v _ _ _) ?_
  refine Z_br C it_Bd_holds rfl rfl (fun hc1 => ?_) (fun hc1 => ?_)
  · replace hc1 := (nI_e0 (a := bF V b sq) (by omega)).mp hc1
    refine Z_run C it_Bd_holds 1 (f2 := (27, [some (.ref (D.1 b)), some (.int (nI sq)), some (.int (nI s))], [.int (nI 0)])) rfl ?_
    exact Z_zret C q.e it_Bd_holds rfl (Or.inl rfl) (zRet_i (bI_f (by first | exact hld_f1 hc1 | exact hld_f2 hc2))) (by decide) (by decide)
  · replace hc1 : ¬ _ := fun z9 => hc1 ((nI_e0 (a := bF V b sq) (by omega)).mpr z9)
    refine Z_run C it_Bd_holds 1 (f2 := (10, [some (.ref (D.1 b)), some (.int (nI sq)), some (.int (nI s))], [.ref (D.1 b)])) rfl ?_
    refine Zm_get C it_Bd_holds hD rfl b wi_Bd (isB_i hb) (hb.1 _ _ _) rfl (j := 0) (by decide) fl_Bd_9 (v := .ref (D.1 (b + 1))) rfl ?_
    refine Z_run C it_Bd_holds 1 (f2 := (14, [some (.ref (D.1 b)), some (.int (nI sq)), some (.int (nI s))], [.int (nI sq), .ref (D.1 (b + 1))])) rfl ?_
    refine Zm_ald C it_Bd_holds hD (b + 1) 10 rfl (isB_j hb) (hb.2.1 _ _ _) (by decide) (by decide) rfl (j := sq) (by omega) (v := .int (nI (bF V b sq))) (bF_v _ _ _) ?_
    refine Zr_callS C it_Bd_holds rfl p_Pc_sideOf ml_Bd_27 [.int (nI (bF V b sq))] (ct_Pc_sideOf C.ev C.l (bF V b sq) (by first | assumption | omega | exact hF _ (by omega)) _ _) rfl rfl ⟨by decide, by decide, by decide, by decide⟩ (Nat.le_of_ble_eq_true rfl) rfl ?_
    show Z E G (HM D V P PH) sz 0 0 (18, [some (.ref (D.1 b)), some (.int (nI sq)), some (.int (nI s))], [.int (nI (sd (bF V b sq)))])
    refine Z_run C it_Bd_holds 1 (f2 := (19, [some (.ref (D.1 b)), some (.int (nI sq)), some (.int (nI s))], [.int (nI s), .int (nI (sd (bF V b sq)))])) rfl ?_
    refine Z_br C it_Bd_holds rfl rfl (fun hc2 => ?_) (fun hc2 => ?_)
    · replace hc2 : ¬ _ := fun z9 => hc2 ((nI_eq (a := sd (bF V b sq)) (b := s) (by omega) (by omega)).mpr z9)
      refine Z_run C it_Bd_holds 1 (f2 := (27, [some (.ref (D.1 b)), some (.int (nI sq)), some (.int (nI s))], [.int (nI 0)])) rfl ?_
      exact Z_zret C q.e it_Bd_holds rfl (Or.inl rfl) (zRet_i (bI_f (by first | exact hld_f1 hc1 | exact hld_f2 hc2))) (by decide) (by decide)
    · replace hc2 := Classical.not_not.mp hc2
      replace hc2 := (nI_eq (a := sd (bF V b sq)) (b := s) (by omega) (by omega)).mp hc2
      refine Z_run C it_Bd_holds 2 (f2 := (27, [some (.ref (D.1 b)), some (.int (nI sq)), some (.int (nI s))], [.int (nI 1)])) rfl ?_
      exact Z_zret C q.e it_Bd_holds rfl (Or.inr rfl) (zRet_i (bI_t (hld_t hc1 hc2))) (by decide) (by decide)
set_option maxRecDepth 20000 in
theorem ct_Bd_set {E : zE} (hE : zEv E) {l : Launch} (hl : l.stackTraces = false) {D : zD} (hD : zDok E D) (V : Nat → Nat → Int32) (P : Nat → Nat → Value) (PH : aH) (b : Nat) (hb : isB b) (sq : Nat) (hsq : sq < 36) (x : Int32) (sz : Nat) : zM E l y_Bd_set [.code y_Bd_set c_Bd_set 3 none] rm_Bd_set [.ref (D.1 b), .int (nI sq), .int x] (HM D V P PH) sz (zRet (none) (HM D (vset V (b + 1) sq x) P PH) sz) := by
  refine zM_of hE hl (by decide +kernel) [some (.ref (D.1 b)), some (.int (nI sq)), some (.int x)] ⟨rfl, rfl, Nat.le_of_ble_eq_true rfl⟩ ?_
  intro G C q htb
  refine Z_run C it_Bd_set 1 (f2 := (1, [some (.ref (D.1 b)), some (.int (nI sq)), some (.int x)], [.ref (D.1 b)])) rfl ?_
  refine Zm_get C it_Bd_set hD rfl b wi_Bd (isB_i hb) (hb.1 _ _ _) rfl (j := 0) (by decide) fl_Bd_9 (v := .ref (D.1 (b + 1))) rfl ?_
  refine Z_run C it_Bd_set 2 (f2 := (6, [some (.ref (D.1 b)), some (.int (nI sq)), some (.int x)], [.int x, .int (nI sq), .ref (D.1 (b + 1))])) rfl ?_
  refine Zm_ast C it_Bd_set hD (b + 1) 10 rfl (by first | decide | exact isB_k hb | omega) (hb.2.1 _ _ _) (by decide) rfl (j := sq) (by omega) trivial (hb.2.2.2 _) ?_
  exact Z_vret C q.e it_Bd_set rfl (zRet_vH rfl) (by decide) (by decide)
set_option maxRecDepth 20000 in
theorem ct_Bd_carry {E : zE} (hE : zEv E) {l : Launch} (hl : l.stackTraces = false) {D : zD} (hD : zDok E D) (V : Nat → Nat → Int32) (P : Nat → Nat → Value) (PH : aH) (b : Nat) (hb : isB b) (hF : okF (bF V b)) (fr : Nat) (hfr : fr < 36) (to : Nat) (hto : to < 36) (sz : Nat) : zM E l y_Bd_carry [.code y_Bd_carry c_Bd_carry 3 none] rm_Bd_carry [.ref (D.1 b), .int (nI fr), .int (nI to)] (HM D V P PH) sz (zRet (none) (HM D (vset (vset V (b + 1) to (nI (crr (bF V b) fr to))) (b + 1) fr (nI 0)) P PH) sz) := by
  refine zM_of hE hl (by decide +kernel) [some (.ref (D.1 b)), some (.int (nI fr)), some (.int (nI to))] ⟨rfl, rfl, Nat.le_of_ble_eq_true rfl⟩ ?_
  intro G C q htb
  refine Z_run C it_Bd_carry 1 (f2 := (1, [some (.ref (D.1 b)), some (.int (nI fr)), some (.int (nI to))], [.ref (D.1 b)])) rfl ?_
  refine Zm_get C it_Bd_carry hD rfl b wi_Bd (isB_i hb) (hb.1 _ _ _) rfl (j := 0) (by decide) fl_Bd_9 (v := .ref (D.1 (b + 1))) rfl ?_
  refine Z_run C it_Bd_carry 2 (f2 := (6, [some (.ref (D.1 b)), some (.int (nI fr)), some (.int (nI to))], [.ref (D.1 b), .int (nI to), .ref (D.1 (b + 1))])) rfl ?_
  refine Zm_get C it_Bd_carry hD rfl b wi_Bd (isB_i hb) (hb.1 _ _ _) rfl (j := 0) (by decide) fl_Bd_9 (v := .ref (D.1 (b + 1))) rfl ?_
  refine Z_run C it_Bd_carry 1 (f2 := (10, [some (.ref (D.1 b)), some (.int (nI fr)), some (.int (nI to))], [.int (nI fr), .ref (D.1 (b + 1)), .int (nI to), .ref (D.1 (b + 1))])) rfl ?_
  refine Zm_ald C it_Bd_carry hD (b + 1) 10 rfl (isB_j hb) (hb.2.1 _ _ _) (by decide) (by decide) rfl (j := fr) (by omega) (v := .int (nI (bF V b fr))) (bF_v _ _ _) ?_
  refine Z_run C it_Bd_carry 1 (f2 := (12, [some (.ref (D.1 b)), some (.int (nI fr)), some (.int (nI to))], [.ref (D.1 b), .int (nI (bF V b fr)), .int (nI to), .ref (D.1 (b + 1))])) rfl ?_
  refine Zm_get C it_Bd_carry hD rfl b wi_Bd (isB_i hb) (hb.1 _ _ _) rfl (j := 0) (by decide) fl_Bd_9 (v := .ref (D.1 (b + 1))) rfl ?_
  refine Z_run C it_Bd_carry 1 (f2 := (16, [some (.ref (D.1 b)), some (.int (nI fr)), some (.int (nI to))], [.int (nI fr), .ref (D.1 (b + 1)), .int (nI (bF V b fr)), .int (nI to), .ref (D.1 (b + 1))])) rfl ?_
  refine Zm_ald C it_Bd_carry hD (b + 1) 10 rfl (isB_j hb) (hb.2.1 _ _ _) (by decide) (by decide) rfl (j := fr) (by omega) (v := .int (nI (bF V b fr))) (bF_v _ _ _) ?_
  refine Z_run C it_Bd_carry 1 (f2 := (18, [some (.ref (D.1 b)), some (.int (nI fr)), some (.int (nI to))], [.ref (D.1 b), .int (nI (bF V b fr)), .int (nI (bF V b fr)), .int (nI to), .ref (D.1 (b + 1))])) rfl ?_
  refine Zm_get C it_Bd_carry hD rfl b wi_Bd (isB_i hb) (hb.1 _ _ _) rfl (j := 0) (by decide) fl_Bd_9 (v := .ref (D.1 (b + 1))) rfl ?_
  refine Z_run C it_Bd_carry 1 (f2 := (22, [some (.ref (D.1 b)), some (.int (nI fr)), some (.int (nI to))], [.int (nI to), .ref (D.1 (b + 1)), .int (nI (bF V b fr)), .int (nI (bF V b fr)), .int (nI to), .ref (D.1 (b + 1))])) rfl ?_
  refine Zm_ald C it_Bd_carry hD (b + 1) 10 rfl (isB_j hb) (hb.2.1 _ _ _) (by decide) (by decide) rfl (j := to) (by omega) (v := .int (nI (bF V b to))) (bF_v _ _ _) ?_
  refine Zr_callS C it_Bd_carry rfl p_Pc_learnt ml_Bd_21 [.int (nI (bF V b fr)), .int (nI (bF V b to))] (ct_Pc_learnt C.ev C.l (bF V b fr) (by first | assumption | omega | exact hF _ (by omega)) (bF V b to) (by first | assumption | omega | exact hF _ (by omega)) _ _) rfl rfl ⟨by decide, by decide, by decide, by decide⟩ (Nat.le_of_ble_eq_true rfl) rfl ?_
  show Z E G (HM D V P PH) sz 0 0 (26, [some (.ref (D.1 b)), some (.int (nI fr)), some (.int (nI to))], [.int (nI (lrn (bF V b fr) (bF V b to))), .int (nI (bF V b fr)), .int (nI to), .ref (D.1 (b + 1))])
  refine Z_run C it_Bd_carry 1 (f2 := (27, [some (.ref (D.1 b)), some (.int (nI fr)), some (.int (nI to))], [.int (nI (bF V b fr) ||| nI (lrn (bF V b fr) (bF V b to))), .int (nI to), .ref (D.1 (b + 1))])) rfl ?_
  have e1 : nI (bF V b fr) ||| nI (lrn (bF V b fr) (bF V b to)) = nI (crr (bF V b) fr to) := nI_or _ _
  rw [e1]
  refine Zm_ast C it_Bd_carry hD (b + 1) 10 rfl (by first | decide | exact isB_k hb | omega) (hb.2.1 _ _ _) (by decide) rfl (j := to) (by omega) trivial (hb.2.2.2 _) ?_
  refine Z_run C it_Bd_carry 1 (f2 := (29, [some (.ref (D.1 b)), some (.int (nI fr)), some (.int (nI to))], [.ref (D.1 b)])) rfl ?_
  refine Zm_get C it_Bd_carry hD rfl b wi_Bd (isB_i hb) (hb.1 _ _ _) rfl (j := 0) (by decide) fl_Bd_9 (v := .ref (D.1 (b + 1))) rfl ?_
  refine Z_run C it_Bd_carry 2 (f2 := (34, [some (.ref (D.1 b)), some (.int (nI fr)), some (.int (nI to))], [.int (nI 0), .int (nI fr), .ref (D.1 (b + 1))])) rfl ?_
  refine Zm_ast C it_Bd_carry hD (b + 1) 10 rfl (by first | decide | exact isB_k hb | omega) (hb.2.1 _ _ _) (by decide) rfl (j := fr) (by omega) trivial (hb.2.2.2 _) ?_
  exact Z_vret C q.e it_Bd_carry rfl (zRet_vH rfl) (by decide) (by decide)
set_option maxRecDepth 20000 in
theorem lp_Bd_squaresOf {E : zE} {G : zG} {O : zO} (C : zCx E G c_Bd_squaresOf 5 y_Bd_squaresOf.cls y_Bd_squaresOf.name (some .long) rm_Bd_squaresOf) (q : zEndX E G O rm_Bd_squaresOf.cells rm_Bd_squaresOf.slots)  {D : zD} (hD : zDok E D) {V : Nat → Nat → Int32} {P : Nat → Nat → Value} {PH : aH} {b : Nat} (hb : isB b) (hF : okF (bF V b)) {s : Nat} (hs : s < 2) {sz : Nat} (hO : O (.inl (some (.long (lN (sqs (bF V b) s))))) (HM D V P PH) sz) : ∀ (j i : Nat), 36 - i < j → i ≤ 36 → Z E G (HM D V P PH) sz 0 0 (5, [some (.ref (D.1 b)), some (.int (nI s)), some (.long (lN (bm (fun k => hld (bF V b) k s) i))), none, some (.int (nI i))], []) := by
  intro j
  induction j with
  | zero =>
    intro i h1 h2
    omega
  | succ j ih =>
    intro i h1 h2
    have hsd := fun k => sd_le (bF V b k)
    refine Z_run C it_Bd_squaresOf 2 (f2 := (9, [some (.ref (D.1 b)), some (.int (nI s)), some (.long (lN (bm (fun k => hld (bF V b) k s) i))), none, some (.int (nI i))], [.int (nI 36), .int (nI i)])) rfl ?_
    refine Z_br C it_Bd_squaresOf rfl rfl (fun hc1 => ?_) (fun hc1 => ?_)
    · replace hc1 := (nI_leI (a := 36) (b := i) (by omega) (by omega)).mp hc1
      refine Z_run C it_Bd_squaresOf 1 (f2 := (36, [some (.ref (D.1 b)), some (.int (nI s)), some (.long (lN (bm (fun k => hld (bF V b) k s) i))), none, some (.int (nI i))], [.long (lN (bm (fun k => hld (bF V b) k s) i))])) rfl ?_
      exact Z_lret C q.e it_Bd_squaresOf rfl ((show i = 36 by omega) ▸ hO) (by decide) (by decide)
    · replace hc1 : ¬ _ := fun z9 => hc1 ((nI_leI (a := 36) (b := i) (by omega) (by omega)).mpr z9)
      refine Z_run C it_Bd_squaresOf 3 (f2 := (16, [some (.ref (D.1 b)), some (.int (nI s)), some (.long (lN (bm (fun k => hld (bF V b) k s) i))), none, some (.int (nI i))], [.int (nI s), .int (nI i), .ref (D.1 b)])) rfl ?_
      refine Zr_callV C it_Bd_squaresOf hD rfl p_Bd_holds ml_Bd_31 b (isB_i hb) (hb.1 _ _ _) rfl [.int (nI i), .int (nI s)] (ct_Bd_holds C.ev C.l hD _ _ _ b hb hF i (by first | assumption | omega) s (by first | assumption | omega) _) rfl rfl ⟨by decide, by decide, by decide, by decide⟩ (Nat.le_of_ble_eq_true rfl) rfl ?_
      show Z E G (HM D V P PH) sz 0 0 (19, [some (.ref (D.1 b)), some (.int (nI s)), some (.long (lN (bm (fun k => hld (bF V b) k s) i))), none, some (.int (nI i))], [.int (bI (hld (bF V b) i s))])
      refine Z_br C it_Bd_squaresOf rfl rfl (fun hc2 => ?_) (fun hc2 => ?_)
      · replace hc2 := bI_0.mp hc2
        refine Z_run C it_Bd_squaresOf 1 (f2 := (32, [some (.ref (D.1 b)), some (.int (nI s)), some (.long (lN (bm (fun k => hld (bF V b) k s) i))), none, some (.int (nI i + nI 1))], [])) rfl ?_
        rw [nI_add i 1]
        refine Z_run C it_Bd_squaresOf 1 (f2 := (5, [some (.ref (D.1 b)), some (.int (nI s)), some (.long (lN (bm (fun k => hld (bF V b) k s) i))), none, some (.int (nI (i + 1)))], [])) rfl ?_
        have e1 : lN (bm (fun k => hld (bF V b) k s) i) = lN (bm (fun k => hld (bF V b) k s) (i + 1)) := by rw [bm_f (b := fun k => hld (bF V b) k s) hc2]
        rw [e1]
        exact ih (i + 1) (by omega) (by omega)
      · replace hc2 := bI_1.mp hc2
        refine Z_run C it_Bd_squaresOf 7 (f2 := (32, [some (.ref (D.1 b)), some (.int (nI s)), some (.long (lN (bm (fun k => hld (bF V b) k s) i) ||| (lN 1 <<< ((nI i).toInt64 &&& 63)))), none, some (.int (nI i + nI 1))], [])) rfl ?_
        rw [nI_add i 1]
        refine Z_run C it_Bd_squaresOf 1 (f2 := (5, [some (.ref (D.1 b)), some (.int (nI s)), some (.long (lN (bm (fun k => hld (bF V b) k s) i) ||| (lN 1 <<< ((nI i).toInt64 &&& 63)))), none, some (.int (nI (i + 1)))], [])) rfl ?_
        have e2 : lN (bm (fun k => hld (bF V b) k s) i) ||| (lN 1 <<< ((nI i).toInt64 &&& 63)) = lN (bm (fun k => hld (bF V b) k s) (i + 1)) := bm_t (b := fun k => hld (bF V b) k s) (by omega) hc2
        rw [e2]
        exact ih (i + 1) (by omega) (by omega)
set_option maxRecDepth 20000 in
theorem ct_Bd_squaresOf {E : zE} (hE : zEv E) {l : Launch} (hl : l.stackTraces = false) {D : zD} (hD : zDok E D) (V : Nat → Nat → Int32) (P : Nat → Nat → Value) (PH : aH) (b : Nat) (hb : isB b) (hF : okF (bF V b)) (s : Nat) (hs : s < 2) (sz : Nat) : zM E l y_Bd_squaresOf [.code y_Bd_squaresOf c_Bd_squaresOf 5 (some .long)] rm_Bd_squaresOf [.ref (D.1 b), .int (nI s)] (HM D V P PH) sz (zRet (some (.long (lN (sqs (bF V b) s)))) (HM D V P PH) sz) := by
  refine zM_of hE hl (by decide +kernel) [some (.ref (D.1 b)), some (.int (nI s)), none, none, none] ⟨rfl, rfl, Nat.le_of_ble_eq_true rfl⟩ ?_
  intro G C q htb
  refine Z_run C it_Bd_squaresOf 4 (f2 := (5, [some (.ref (D.1 b)), some (.int (nI s)), some (.long (lN 0)), none, some (.int (nI 0))], [])) rfl ?_
  exact lp_Bd_squaresOf C q hD hb hF hs ⟨rfl, rfl, rfl⟩ 37 0 (by omega) (by omega)
set_option maxRecDepth 20000 in
theorem lp_Bd_knowers {E : zE} {G : zG} {O : zO} (C : zCx E G c_Bd_knowers 6 y_Bd_knowers.cls y_Bd_knowers.name (some .long) rm_Bd_knowers) (q : zEndX E G O rm_Bd_knowers.cells rm_Bd_knowers.slots)  {D : zD} (hD : zDok E D) {V : Nat → Nat → Int32} {P : Nat → Nat → Value} {PH : aH} {b : Nat} (hb : isB b) (hF : okF (bF V b)) {s : Nat} (hs : s < 2) {c : Nat} (hc : c < 5) {sz : Nat} (hO : O (.inl (some (.long (lN (knw (bF V b) s c))))) (HM D V P PH) sz) : ∀ (j i : Nat), 36 - i < j → i ≤ 36 → Z E G (HM D V P PH) sz 0 0 (5, [some (.ref (D.1 b)), some (.int (nI s)), some (.int (nI c)), some (.long (lN (bm (fun k => hld (bF V b) k s && kn (bF V b k) c) i))), none, some (.int (nI i))], []) := by
  intro j
  induction j with
  | zero =>
    intro i h1 h2
    omega
  | succ j ih =>
    intro i h1 h2
    have hsd := fun k => sd_le (bF V b k)
    refine Z_run C it_Bd_knowers 2 (f2 := (9, [some (.ref (D.1 b)), some (.int (nI s)), some (.int (nI c)), some (.long (lN (bm (fun k => hld (bF V b) k s && kn (bF V b k) c) i))), none, some (.int (nI i))], [.int (nI 36), .int (nI i)])) rfl ?_
    refine Z_br C it_Bd_knowers rfl rfl (fun hc1 => ?_) (fun hc1 => ?_)
    · replace hc1 := (nI_leI (a := 36) (b := i) (by omega) (by omega)).mp hc1
      refine Z_run C it_Bd_knowers 1 (f2 := (50, [some (.ref (D.1 b)), some (.int (nI s)), some (.int (nI c)), some (.long (lN (bm (fun k => hld (bF V b) k s && kn (bF V b k) c) i))), none, some (.int (nI i))], [.long (lN (bm (fun k => hld (bF V b) k s && kn (bF V b k) c) i))])) rfl ?_
      exact Z_lret C q.e it_Bd_knowers rfl ((show i = 36 by omega) ▸ hO) (by decide) (by decide)
    · replace hc1 : ¬ _ := fun z9 => hc1 ((nI_leI (a := 36) (b := i) (by omega) (by omega)).mpr z9)
      refine Z_run C it_Bd_knowers 3 (f2 := (16, [some (.ref (D.1 b)), some (.int (nI s)), some (.int (nI c)), some (.long (lN (bm (fun k => hld (bF V b) k s && kn (bF V b k) c) i))), none, some (.int (nI i))], [.int (nI s), .int (nI i), .ref (D.1 b)])) rfl ?_
      refine Zr_callV C it_Bd_knowers hD rfl p_Bd_holds ml_Bd_31 b (isB_i hb) (hb.1 _ _ _) rfl [.int (nI i), .int (nI s)] (ct_Bd_holds C.ev C.l hD _ _ _ b hb hF i (by first | assumption | omega) s (by first | assumption | omega) _) rfl rfl ⟨by decide, by decide, by decide, by decide⟩ (Nat.le_of_ble_eq_true rfl) rfl ?_
      show Z E G (HM D V P PH) sz 0 0 (19, [some (.ref (D.1 b)), some (.int (nI s)), some (.int (nI c)), some (.long (lN (bm (fun k => hld (bF V b) k s && kn (bF V b k) c) i))), none, some (.int (nI i))], [.int (bI (hld (bF V b) i s))])
      refine Z_br C it_Bd_knowers rfl rfl (fun hc2 => ?_) (fun hc2 => ?_)
      · replace hc2 := bI_0.mp hc2
        refine Z_run C it_Bd_knowers 1 (f2 := (46, [some (.ref (D.1 b)), some (.int (nI s)), some (.int (nI c)), some (.long (lN (bm (fun k => hld (bF V b) k s && kn (bF V b k) c) i))), none, some (.int (nI i + nI 1))], [])) rfl ?_
        rw [nI_add i 1]
        refine Z_run C it_Bd_knowers 1 (f2 := (5, [some (.ref (D.1 b)), some (.int (nI s)), some (.int (nI c)), some (.long (lN (bm (fun k => hld (bF V b) k s && kn (bF V b k) c) i))), none, some (.int (nI (i + 1)))], [])) rfl ?_
        have e1 : lN (bm (fun k => hld (bF V b) k s && kn (bF V b k) c) i) = lN (bm (fun k => hld (bF V b) k s && kn (bF V b k) c) (i + 1)) := by rw [bm_f (b := fun k => hld (bF V b) k s && kn (bF V b k) c) (by first | simp [hc2, hc3] | simp [hc2])]
        rw [e1]
        exact ih (i + 1) (by omega) (by omega)
      · replace hc2 := bI_1.mp hc2
        refine Z_run C it_Bd_knowers 1 (f2 := (23, [some (.ref (D.1 b)), some (.int (nI s)), some (.int (nI c)), some (.long (lN (bm (fun k => hld (bF V b) k s && kn (bF V b k) c) i))), none, some (.int (nI i))], [.ref (D.1 b)])) rfl ?_
        refine Zm_get C it_Bd_knowers hD rfl b wi_Bd (isB_i hb) (hb.1 _ _ _) rfl (j := 0) (by decide) fl_Bd_9 (v := .ref (D.1 (b + 1))) rfl ?_
        refine Z_run C it_Bd_knowers 1 (f2 := (28, [some (.ref (D.1 b)), some (.int (nI s)), some (.int (nI c)), some (.long (lN (bm (fun k => hld (bF V b) k s && kn (bF V b k) c) i))), none, some (.int (nI i))], [.int (nI i), .ref (D.1 (b + 1))])) rfl ?_
        refine Zm_ald C it_Bd_knowers hD (b + 1) 10 rfl (isB_j hb) (hb.2.1 _ _ _) (by decide) (by decide) rfl (j := i) (by omega) (v := .int (nI (bF V b i))) (bF_v _ _ _) ?_
        refine Z_run C it_Bd_knowers 1 (f2 := (30, [some (.ref (D.1 b)), some (.int (nI s)), some (.int (nI c)), some (.long (lN (bm (fun k => hld (bF V b) k s && kn (bF V b k) c) i))), none, some (.int (nI i))], [.int (nI c), .int (nI (bF V b i))])) rfl ?_
        refine Zr_callS C it_Bd_knowers rfl p_Pc_knows ml_Bd_45 [.int (nI (bF V b i)), .int (nI c)] (ct_Pc_knows C.ev C.l (bF V b i) (by first | assumption | omega | exact hF _ (by omega)) c (by omega) _ _) rfl rfl ⟨by decide, by decide, by decide, by decide⟩ (Nat.le_of_ble_eq_true rfl) rfl ?_
        show Z E G (HM D V P PH) sz 0 0 (33, [some (.ref (D.1 b)), some (.int (nI s)), some (.int (nI c)), some (.long (lN (bm (fun k => hld (bF V b) k s && kn (bF V b k) c) i))), none, some (.int (nI i))], [.int (bI (kn (bF V b i) c))])
        refine Z_br C it_Bd_knowers rfl rfl (fun hc3 => ?_) (fun hc3 => ?_)
        · replace hc3 := bI_0.mp hc3
          refine Z_run C it_Bd_knowers 1 (f2 := (46, [some (.ref (D.1 b)), some (.int (nI s)), some (.int (nI c)), some (.long (lN (bm (fun k => hld (bF V b) k s && kn (bF V b k) c) i))), none, some (.int (nI i + nI 1))], [])) rfl ?_
          rw [nI_add i 1]
          refine Z_run C it_Bd_knowers 1 (f2 := (5, [some (.ref (D.1 b)), some (.int (nI s)), some (.int (nI c)), some (.long (lN (bm (fun k => hld (bF V b) k s && kn (bF V b k) c) i))), none, some (.int (nI (i + 1)))], [])) rfl ?_
          have e2 : lN (bm (fun k => hld (bF V b) k s && kn (bF V b k) c) i) = lN (bm (fun k => hld (bF V b) k s && kn (bF V b k) c) (i + 1)) := by rw [bm_f (b := fun k => hld (bF V b) k s && kn (bF V b k) c) (by first | simp [hc2, hc3] | simp [hc2])]
          rw [e2]
          exact ih (i + 1) (by omega) (by omega)
        · replace hc3 := bI_1.mp hc3
          refine Z_run C it_Bd_knowers 7 (f2 := (46, [some (.ref (D.1 b)), some (.int (nI s)), some (.int (nI c)), some (.long (lN (bm (fun k => hld (bF V b) k s && kn (bF V b k) c) i) ||| (lN 1 <<< ((nI i).toInt64 &&& 63)))), none, some (.int (nI i + nI 1))], [])) rfl ?_
          rw [nI_add i 1]
          refine Z_run C it_Bd_knowers 1 (f2 := (5, [some (.ref (D.1 b)), some (.int (nI s)), some (.int (nI c)), some (.long (lN (bm (fun k => hld (bF V b) k s && kn (bF V b k) c) i) ||| (lN 1 <<< ((nI i).toInt64 &&& 63)))), none, some (.int (nI (i + 1)))], [])) rfl ?_
          have e3 : lN (bm (fun k => hld (bF V b) k s && kn (bF V b k) c) i) ||| (lN 1 <<< ((nI i).toInt64 &&& 63)) = lN (bm (fun k => hld (bF V b) k s && kn (bF V b k) c) (i + 1)) := bm_t (b := fun k => hld (bF V b) k s && kn (bF V b k) c) (by omega) (by simp [hc2, hc3])
          rw [e3]
          exact ih (i + 1) (by omega) (by omega)
set_option maxRecDepth 20000 in
theorem ct_Bd_knowers {E : zE} (hE : zEv E) {l : Launch} (hl : l.stackTraces = false) {D : zD} (hD : zDok E D) (V : Nat → Nat → Int32) (P : Nat → Nat → Value) (PH : aH) (b : Nat) (hb : isB b) (hF : okF (bF V b)) (s : Nat) (hs : s < 2) (c : Nat) (hc : c < 5) (sz : Nat) : zM E l y_Bd_knowers [.code y_Bd_knowers c_Bd_knowers 6 (some .long)] rm_Bd_knowers [.ref (D.1 b), .int (nI s), .int (nI c)] (HM D V P PH) sz (zRet (some (.long (lN (knw (bF V b) s c)))) (HM D V P PH) sz) := by
  refine zM_of hE hl (by decide +kernel) [some (.ref (D.1 b)), some (.int (nI s)), some (.int (nI c)), none, none, none] ⟨rfl, rfl, Nat.le_of_ble_eq_true rfl⟩ ?_
  intro G C q htb
  refine Z_run C it_Bd_knowers 4 (f2 := (5, [some (.ref (D.1 b)), some (.int (nI s)), some (.int (nI c)), some (.long (lN 0)), none, some (.int (nI 0))], [])) rfl ?_
  exact lp_Bd_knowers C q hD hb hF hs hc ⟨rfl, rfl, rfl⟩ 37 0 (by omega) (by omega)
set_option maxRecDepth 20000 in
theorem lp_Bd_worthOfSide {E : zE} {G : zG} {O : zO} (C : zCx E G c_Bd_worthOfSide 4 y_Bd_worthOfSide.cls y_Bd_worthOfSide.name (some .int) rm_Bd_worthOfSide) (q : zEndX E G O rm_Bd_worthOfSide.cells rm_Bd_worthOfSide.slots)  {D : zD} (hD : zDok E D) {V : Nat → Nat → Int32} {P : Nat → Nat → Value} {PH : aH} {b : Nat} (hb : isB b) (hF : okF (bF V b)) {s : Nat} (hs : s < 2) {sz : Nat} (hO : O (.inl (some (.int (nI (wos (bF V b) s 36))))) (HM D V P PH) sz) : ∀ (j i : Nat), 36 - i < j → i ≤ 36 → Z E G (HM D V P PH) sz 0 0 (4, [some (.ref (D.1 b)), some (.int (nI s)), some (.int (nI (wos (bF V b) s i))), some (.int (nI i))], []) := by
  intro j
  induction j with
  | zero =>
    intro i h1 h2
    omega
  | succ j ih =>
    intro i h1 h2
    have hsd := fun k => sd_le (bF V b k)
    refine Z_run C it_Bd_worthOfSide 2 (f2 := (7, [some (.ref (D.1 b)), some (.int (nI s)), some (.int (nI (wos (bF V b) s i))), some (.int (nI i))], [.int (nI 36), .int (nI i)])) rfl ?_
    refine Z_br C it_Bd_worthOfSide rfl rfl (fun hc1 => ?_) (fun hc1 => ?_)
    · replace hc1 := (nI_leI (a := 36) (b := i) (by omega) (by omega)).mp hc1
      refine Z_run C it_Bd_worthOfSide 1 (f2 := (38, [some (.ref (D.1 b)), some (.int (nI s)), some (.int (nI (wos (bF V b) s i))), some (.int (nI i))], [.int (nI (wos (bF V b) s i))])) rfl ?_
      exact Z_iret C q.e it_Bd_worthOfSide rfl ((show i = 36 by omega) ▸ hO) (by decide) (by decide)
    · replace hc1 : ¬ _ := fun z9 => hc1 ((nI_leI (a := 36) (b := i) (by omega) (by omega)).mpr z9)
      refine Z_run C it_Bd_worthOfSide 3 (f2 := (13, [some (.ref (D.1 b)), some (.int (nI s)), some (.int (nI (wos (bF V b) s i))), some (.int (nI i))], [.int (nI s), .int (nI i), .ref (D.1 b)])) rfl ?_
      refine Zr_callV C it_Bd_worthOfSide hD rfl p_Bd_holds ml_Bd_31 b (isB_i hb) (hb.1 _ _ _) rfl [.int (nI i), .int (nI s)] (ct_Bd_holds C.ev C.l hD _ _ _ b hb hF i (by first | assumption | omega) s (by first | assumption | omega) _) rfl rfl ⟨by decide, by decide, by decide, by decide⟩ (Nat.le_of_ble_eq_true rfl) rfl ?_
      show Z E G (HM D V P PH) sz 0 0 (16, [some (.ref (D.1 b)), some (.int (nI s)), some (.int (nI (wos (bF V b) s i))), some (.int (nI i))], [.int (bI (hld (bF V b) i s))])
      refine Z_br C it_Bd_worthOfSide rfl rfl (fun hc2 => ?_) (fun hc2 => ?_)
      · replace hc2 := bI_0.mp hc2
        refine Z_run C it_Bd_worthOfSide 1 (f2 := (34, [some (.ref (D.1 b)), some (.int (nI s)), some (.int (nI (wos (bF V b) s i))), some (.int (nI i + nI 1))], [])) rfl ?_
        rw [nI_add i 1]
        refine Z_run C it_Bd_worthOfSide 1 (f2 := (4, [some (.ref (D.1 b)), some (.int (nI s)), some (.int (nI (wos (bF V b) s i))), some (.int (nI (i + 1)))], [])) rfl ?_
        have e1 : nI (wos (bF V b) s i) = nI (wos (bF V b) s (i + 1)) := by simp [wos, smp, hc2]
        rw [e1]
        exact ih (i + 1) (by omega) (by omega)
      · replace hc2 := bI_1.mp hc2
        refine Z_run C it_Bd_worthOfSide 2 (f2 := (21, [some (.ref (D.1 b)), some (.int (nI s)), some (.int (nI (wos (bF V b) s i))), some (.int (nI i))], [.ref (D.1 b), .int (nI (wos (bF V b) s i))])) rfl ?_
        refine Zm_get C it_Bd_worthOfSide hD rfl b wi_Bd (isB_i hb) (hb.1 _ _ _) rfl (j := 0) (by decide) fl_Bd_9 (v := .ref (D.1 (b + 1))) rfl ?_
        refine Z_run C it_Bd_worthOfSide 1 (f2 := (25, [some (.ref (D.1 b)), some (.int (nI s)), some (.int (nI (wos (bF V b) s i))), some (.int (nI i))], [.int (nI i), .ref (D.1 (b + 1)), .int (nI (wos (bF V b) s i))])) rfl ?_
        refine Zm_ald C it_Bd_worthOfSide hD (b + 1) 10 rfl (isB_j hb) (hb.2.1 _ _ _) (by decide) (by decide) rfl (j := i) (by omega) (v := .int (nI (bF V b i))) (bF_v _ _ _) ?_
        refine Zr_callS C it_Bd_worthOfSide rfl p_Pc_worthOf ml_Bd_52 [.int (nI (bF V b i))] (ct_Pc_worthOf C.ev C.l hD _ _ _ (bF V b i) (by first | assumption | omega | exact hF _ (by omega)) _) rfl rfl ⟨by decide, by decide, by decide, by decide⟩ (Nat.le_of_ble_eq_true rfl) rfl ?_
        show Z E G (HM D V P PH) sz 0 0 (29, [some (.ref (D.1 b)), some (.int (nI s)), some (.int (nI (wos (bF V b) s i))), some (.int (nI i))], [.int (nI (wr (bF V b i))), .int (nI (wos (bF V b) s i))])
        refine Z_run C it_Bd_worthOfSide 1 (f2 := (30, [some (.ref (D.1 b)), some (.int (nI s)), some (.int (nI (wos (bF V b) s i))), some (.int (nI i))], [.int (nI (wos (bF V b) s i) + nI (wr (bF V b i)))])) rfl ?_
        rw [nI_add (wos (bF V b) s i) (wr (bF V b i))]
        refine Z_run C it_Bd_worthOfSide 2 (f2 := (34, [some (.ref (D.1 b)), some (.int (nI s)), some (.int (nI (wos (bF V b) s i + wr (bF V b i)))), some (.int (nI i + nI 1))], [])) rfl ?_
        rw [nI_add i 1]
        refine Z_run C it_Bd_worthOfSide 1 (f2 := (4, [some (.ref (D.1 b)), some (.int (nI s)), some (.int (nI (wos (bF V b) s i + wr (bF V b i)))), some (.int (nI (i + 1)))], [])) rfl ?_
        have e2 : nI (wos (bF V b) s i + wr (bF V b i)) = nI (wos (bF V b) s (i + 1)) := by simp [wos, smp, hc2]
        rw [e2]
        exact ih (i + 1) (by omega) (by omega)
set_option maxRecDepth 20000 in
theorem ct_Bd_worthOfSide {E : zE} (hE : zEv E) {l : Launch} (hl : l.stackTraces = false) {D : zD} (hD : zDok E D) (V : Nat → Nat → Int32) (P : Nat → Nat → Value) (PH : aH) (b : Nat) (hb : isB b) (hF : okF (bF V b)) (s : Nat) (hs : s < 2) (sz : Nat) : zM E l y_Bd_worthOfSide [.code y_Bd_worthOfSide c_Bd_worthOfSide 4 (some .int)] rm_Bd_worthOfSide [.ref (D.1 b), .int (nI s)] (HM D V P PH) sz (zRet (some (.int (nI (wos (bF V b) s 36)))) (HM D V P PH) sz) := by
  refine zM_of hE hl (by decide +kernel) [some (.ref (D.1 b)), some (.int (nI s)), none, none] ⟨rfl, rfl, Nat.le_of_ble_eq_true rfl⟩ ?_
  intro G C q htb
  refine Z_run C it_Bd_worthOfSide 4 (f2 := (4, [some (.ref (D.1 b)), some (.int (nI s)), some (.int (nI 0)), some (.int (nI 0))], [])) rfl ?_
  exact lp_Bd_worthOfSide C q hD hb hF hs ⟨rfl, rfl, rfl⟩ 37 0 (by omega) (by omega)
set_option maxRecDepth 20000 in
theorem lp_Bd_leaderSquare {E : zE} {G : zG} {O : zO} (C : zCx E G c_Bd_leaderSquare 3 y_Bd_leaderSquare.cls y_Bd_leaderSquare.name (some .int) rm_Bd_leaderSquare) (q : zEndX E G O rm_Bd_leaderSquare.cells rm_Bd_leaderSquare.slots)  {D : zD} (hD : zDok E D) {V : Nat → Nat → Int32} {P : Nat → Nat → Value} {PH : aH} {b : Nat} (hb : isB b) (hF : okF (bF V b)) {s : Nat} (hs : s < 2) {sz : Nat} : ∀ (j i : Nat), 36 - i < j → i ≤ 36 → O (.inl (some (.int (oI (ffr (fun k => hld (bF V b) k s && ldr (bF V b k)) (36 - i) i))))) (HM D V P PH) sz → Z E G (HM D V P PH) sz 0 0 (2, [some (.ref (D.1 b)), some (.int (nI s)), some (.int (nI i))], []) := by
  intro j
  induction j with
  | zero =>
    intro i h1 h2 hO
    omega
  | succ j ih =>
    intro i h1 h2 hO
    have hsd := fun k => sd_le (bF V b k)
    refine Z_run C it_Bd_leaderSquare 2 (f2 := (5, [some (.ref (D.1 b)), some (.int (nI s)), some (.int (nI i))], [.int (nI 36), .int (nI i)])) rfl ?_
    refine Z_br C it_Bd_leaderSquare rfl rfl (fun hc1 => ?_) (fun hc1 => ?_)
    · replace hc1 := (nI_leI (a := 36) (b := i) (by omega) (by omega)).mp hc1
      refine Z_run C it_Bd_leaderSquare 1 (f2 := (38, [some (.ref (D.1 b)), some (.int (nI s)), some (.int (nI i))], [.int ((-1))])) rfl ?_
      exact Z_iret C q.e it_Bd_leaderSquare rfl (by rw [show 36 - i = 0 by omega] at hO; exact hO) (by decide) (by decide)
    · replace hc1 : ¬ _ := fun z9 => hc1 ((nI_leI (a := 36) (b := i) (by omega) (by omega)).mpr z9)
      refine Z_run C it_Bd_leaderSquare 3 (f2 := (11, [some (.ref (D.1 b)), some (.int (nI s)), some (.int (nI i))], [.int (nI s), .int (nI i), .ref (D.1 b)])) rfl ?_
      refine Zr_callV C it_Bd_leaderSquare hD rfl p_Bd_holds ml_Bd_31 b (isB_i hb) (hb.1 _ _ _) rfl [.int (nI i), .int (nI s)] (ct_Bd_holds C.ev C.l hD _ _ _ b hb hF i (by first | assumption | omega) s (by first | assumption | omega) _) rfl rfl ⟨by decide, by decide, by decide, by decide⟩ (Nat.le_of_ble_eq_true rfl) rfl ?_
      show Z E G (HM D V P PH) sz 0 0 (14, [some (.ref (D.1 b)), some (.int (nI s)), some (.int (nI i))], [.int (bI (hld (bF V b) i s))])
      refine Z_br C it_Bd_leaderSquare rfl rfl (fun hc2 => ?_) (fun hc2 => ?_)
      · replace hc2 := bI_0.mp hc2
        refine Z_run C it_Bd_leaderSquare 1 (f2 := (34, [some (.ref (D.1 b)), some (.int (nI s)), some (.int (nI i + nI 1))], [])) rfl ?_
        rw [nI_add i 1]
        refine Z_run C it_Bd_leaderSquare 1 (f2 := (2, [some (.ref (D.1 b)), some (.int (nI s)), some (.int (nI (i + 1)))], [])) rfl ?_
        exact ih (i + 1) (by omega) (by omega) (by rw [show 36 - i = (36 - (i + 1)) + 1 by omega] at hO; first | simpa [ffr, hc2, hc3] using hO | simpa [ffr, hc2] using hO)
      · replace hc2 := bI_1.mp hc2
        refine Z_run C it_Bd_leaderSquare 1 (f2 := (18, [some (.ref (D.1 b)), some (.int (nI s)), some (.int (nI i))], [.ref (D.1 b)])) rfl ?_
        refine Zm_get C it_Bd_leaderSquare hD rfl b wi_Bd (isB_i hb) (hb.1 _ _ _) rfl (j := 0) (by decide) fl_Bd_9 (v := .ref (D.1 (b + 1))) rfl ?_
        refine Z_run C it_Bd_leaderSquare 1 (f2 := (22, [some (.ref (D.1 b)), some (.int (nI s)), some (.int (nI i))], [.int (nI i), .ref (D.1 (b + 1))])) rfl ?_
        refine Zm_ald C it_Bd_leaderSquare hD (b + 1) 10 rfl (isB_j hb) (hb.2.1 _ _ _) (by decide) (by decide) rfl (j := i) (by omega) (v := .int (nI (bF V b i))) (bF_v _ _ _) ?_
        refine Zr_callS C it_Bd_leaderSquare rfl p_Pc_leads ml_Bd_48 [.int (nI (bF V b i))] (ct_Pc_leads C.ev C.l (bF V b i) (by first | assumption | omega | exact hF _ (by omega)) _ _) rfl rfl ⟨by decide, by decide, by decide, by decide⟩ (Nat.le_of_ble_eq_true rfl) rfl ?_
        show Z E G (HM D V P PH) sz 0 0 (26, [some (.ref (D.1 b)), some (.int (nI s)), some (.int (nI i))], [.int (bI (ldr (bF V b i)))])
        refine Z_br C it_Bd_leaderSquare rfl rfl (fun hc3 => ?_) (fun hc3 => ?_)
        · replace hc3 := bI_0.mp hc3
          refine Z_run C it_Bd_leaderSquare 1 (f2 := (34, [some (.ref (D.1 b)), some (.int (nI s)), some (.int (nI i + nI 1))], [])) rfl ?_
          rw [nI_add i 1]
          refine Z_run C it_Bd_leaderSquare 1 (f2 := (2, [some (.ref (D.1 b)), some (.int (nI s)), some (.int (nI (i + 1)))], [])) rfl ?_
          exact ih (i + 1) (by omega) (by omega) (by rw [show 36 - i = (36 - (i + 1)) + 1 by omega] at hO; first | simpa [ffr, hc2, hc3] using hO | simpa [ffr, hc2] using hO)
        · replace hc3 := bI_1.mp hc3
          refine Z_run C it_Bd_leaderSquare 1 (f2 := (30, [some (.ref (D.1 b)), some (.int (nI s)), some (.int (nI i))], [.int (nI i)])) rfl ?_
          exact Z_iret C q.e it_Bd_leaderSquare rfl (by rw [show 36 - i = (36 - (i + 1)) + 1 by omega] at hO; simpa [ffr, hc2, hc3, oI] using hO) (by decide) (by decide)
set_option maxRecDepth 20000 in
theorem ct_Bd_leaderSquare {E : zE} (hE : zEv E) {l : Launch} (hl : l.stackTraces = false) {D : zD} (hD : zDok E D) (V : Nat → Nat → Int32) (P : Nat → Nat → Value) (PH : aH) (b : Nat) (hb : isB b) (hF : okF (bF V b)) (s : Nat) (hs : s < 2) (sz : Nat) : zM E l y_Bd_leaderSquare [.code y_Bd_leaderSquare c_Bd_leaderSquare 3 (some .int)] rm_Bd_leaderSquare [.ref (D.1 b), .int (nI s)] (HM D V P PH) sz (zRet (some (.int (oI (lsq (bF V b) s)))) (HM D V P PH) sz) := by
  refine zM_of hE hl (by decide +kernel) [some (.ref (D.1 b)), some (.int (nI s)), none] ⟨rfl, rfl, Nat.le_of_ble_eq_true rfl⟩ ?_
  intro G C q htb
  refine Z_run C it_Bd_leaderSquare 2 (f2 := (2, [some (.ref (D.1 b)), some (.int (nI s)), some (.int (nI 0))], [])) rfl ?_
  exact lp_Bd_leaderSquare C q hD hb hF hs 37 0 (by omega) (by omega) ⟨rfl, rfl, rfl⟩
