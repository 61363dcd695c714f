/-! ===== numbers and bit sets (the wb_ rows are pasted from kit/laws/BITS.to-paste) ===== -/
theorem wb_tb (n : Nat) : (lN n).toBitVec = BitVec.ofNat 64 n := rfl
theorem wb_inj {a b : Int64} (h : a.toBitVec = b.toBitVec) : a = b := Int64.toBitVec_inj.mp h
theorem wb_tn {n : Nat} (h : n < 2 ^ 64) : (lN n).toBitVec.toNat = n := by rw [wb_tb, BitVec.toNat_ofNat, Nat.mod_eq_of_lt h]
theorem wb_of (x : Int64) : ∃ n, n < 2 ^ 64 ∧ x = lN n := ⟨x.toBitVec.toNat, x.toBitVec.isLt, wb_inj (by rw [wb_tb]; simp)⟩
theorem wb_of32 (x : Int32) : ∃ n, n < 2 ^ 32 ∧ x = nI n := ⟨x.toBitVec.toNat, x.toBitVec.isLt, Int32.toBitVec_inj.mp (by show _ = BitVec.ofNat 32 _; simp)⟩
theorem wb_c : ∀ k, k < 64 → ((nI k).toInt64 &&& 63) = lN k := by decide +kernel
theorem wb_cu : ∀ k, k < 64 → ((nI k).toInt64.toUInt64 &&& Int64.toUInt64 63) = UInt64.ofNat k := by decide +kernel
theorem wb_sm : ∀ k, k < 64 → (BitVec.ofNat 64 k).smod 64 = BitVec.ofNat 64 k := by decide +kernel
theorem wb_pw {a b : Nat} (h : a ≤ b) : 2 ^ b = 2 ^ a * 2 ^ (b - a) := by rw [← Nat.pow_add]; congr 1; omega
theorem wb_lt2 {a b : Nat} (h : a < b) : 2 ^ a < 2 ^ b := Nat.pow_lt_pow_right (by decide) h
theorem wb_mod (n : Nat) : lN n = lN (n % 2 ^ 64) := wb_inj (by rw [wb_tb, wb_tb]; apply BitVec.eq_of_toNat_eq; rw [BitVec.toNat_ofNat, BitVec.toNat_ofNat, Nat.mod_mod])
theorem wb_shr {n k : Nat} (hn : n < 2 ^ 64) (hk : k < 64) : ((lN n).toUInt64 >>> ((nI k).toInt64.toUInt64 &&& Int64.toUInt64 63)).toInt64 = lN (n / 2 ^ k) := by
  rw [wb_cu k hk]
  apply wb_inj
  apply BitVec.eq_of_toNat_eq
  show ((lN n).toUInt64 >>> UInt64.ofNat k).toNat = (BitVec.ofNat 64 _).toNat
  have h1 : (UInt64.ofNat k).toNat = k := by
    show (BitVec.ofNat 64 k).toNat = k
    rw [BitVec.toNat_ofNat, Nat.mod_eq_of_lt (by omega)]
  have h2 : (lN n).toUInt64.toNat = n := wb_tn hn
  rw [UInt64.toNat_shiftRight, h1, h2, Nat.mod_eq_of_lt hk, Nat.shiftRight_eq_div_pow, BitVec.toNat_ofNat, Nat.mod_eq_of_lt (Nat.lt_of_le_of_lt (Nat.div_le_self _ _) hn)]
theorem wb_shl (n : Nat) {k : Nat} (hk : k < 64) : lN n <<< ((nI k).toInt64 &&& 63) = lN (n * 2 ^ k) := by
  rw [wb_c k hk]
  apply wb_inj
  rw [Int64.toBitVec_shiftLeft, wb_tb, wb_tb, wb_tb, wb_sm k hk]
  apply BitVec.eq_of_toNat_eq
  rw [BitVec.shiftLeft_eq', BitVec.toNat_shiftLeft, BitVec.toNat_ofNat, BitVec.toNat_ofNat, BitVec.toNat_ofNat, Nat.mod_eq_of_lt (show k < 2 ^ 64 by omega), Nat.shiftLeft_eq, Nat.mul_mod, Nat.mod_mod, ← Nat.mul_mod]
theorem wb_and {a b : Nat} (ha : a < 2 ^ 64) (hb : b < 2 ^ 64) : lN a &&& lN b = lN (a &&& b) := by
  apply wb_inj
  rw [Int64.toBitVec_and, wb_tb, wb_tb, wb_tb]
  apply BitVec.eq_of_toNat_eq
  rw [BitVec.toNat_and, BitVec.toNat_ofNat, BitVec.toNat_ofNat, BitVec.toNat_ofNat, Nat.mod_eq_of_lt ha, Nat.mod_eq_of_lt hb, Nat.mod_eq_of_lt (Nat.and_lt_two_pow _ hb)]
theorem wb_or {a b : Nat} (ha : a < 2 ^ 64) (hb : b < 2 ^ 64) : lN a ||| lN b = lN (a ||| b) := by
  apply wb_inj
  rw [Int64.toBitVec_or, wb_tb, wb_tb, wb_tb]
  apply BitVec.eq_of_toNat_eq
  rw [BitVec.toNat_or, BitVec.toNat_ofNat, BitVec.toNat_ofNat, BitVec.toNat_ofNat, Nat.mod_eq_of_lt ha, Nat.mod_eq_of_lt hb, Nat.mod_eq_of_lt (Nat.or_lt_two_pow ha hb)]
theorem wb_mask {n k : Nat} (hn : n < 2 ^ 64) (hk : k < 64) : lN n &&& lN (2 ^ k - 1) = lN (n % 2 ^ k) := by
  rw [wb_and hn (by have := wb_lt2 hk; omega), Nat.and_two_pow_sub_one_eq_mod]
theorem wb_a1 {n : Nat} (hn : n < 2 ^ 64) : lN n &&& 1 = lN (n % 2) := wb_mask (k := 1) hn (by decide)
theorem wb_bit {n k : Nat} (hn : n < 2 ^ 64) (hk : k < 64) : ((lN n).toUInt64 >>> ((nI k).toInt64.toUInt64 &&& Int64.toUInt64 63)).toInt64 &&& 1 = lN (n / 2 ^ k % 2) := by
  rw [wb_shr hn hk, wb_a1 (Nat.lt_of_le_of_lt (Nat.div_le_self _ _) hn)]
theorem pf_lI {a : Nat} (h : a < 2 ^ 63) : (lN a).toInt = (a : Int) := lg_ofNat_toInt h
theorem pf_shr {a d : Nat} {D : Int64} (hD : (D.toBitVec.smod 64).toNat = d) (h : a < 2 ^ 62) : lN a >>> D = lN (a / 2 ^ d) := by
  have hd : a / 2 ^ d ≤ a := Nat.div_le_self _ _
  apply Int64.toInt_inj.mp
  have e : (lN a >>> D).toInt = (lN a).toInt >>> d := by
    rw [← hD]
    exact BitVec.toInt_sshiftRight ..
  rw [e, Int.shiftRight_eq_div_pow, pf_lI (by omega), pf_lI (by omega)]
  rfl
theorem pf_ushr {a d : Nat} {D : UInt64} (hD : D.toNat % 64 = d) (h : a < 2 ^ 62) : ((lN a).toUInt64 >>> D).toInt64 = lN (a / 2 ^ d) := by
  have hd : a / 2 ^ d ≤ a := Nat.div_le_self _ _
  have e : (lN a).toUInt64 >>> D = UInt64.ofNat (a / 2 ^ d) := UInt64.toNat_inj.mp (by
    rw [UInt64.toNat_shiftRight, hD, Nat.shiftRight_eq_div_pow, UInt64.toNat_ofNat']
    show (UInt64.ofNat a).toNat / 2 ^ d = _
    rw [UInt64.toNat_ofNat', Nat.mod_eq_of_lt (by omega), Nat.mod_eq_of_lt (by omega)])
  rw [e]
  rfl
theorem pf_andw (x : Int64) : ∃ m, m < 2 ^ 32 ∧ x &&& 4294967295 = lN m := ⟨x.toBitVec.toNat % 2 ^ 32, Nat.mod_lt _ (by decide), Int64.toBitVec_inj.mp (BitVec.eq_of_toNat_eq (by
  show (x.toBitVec &&& 4294967295#64).toNat = (BitVec.ofNat 64 (x.toBitVec.toNat % 2 ^ 32)).toNat
  rw [BitVec.toNat_and, show (4294967295#64).toNat = 2 ^ 32 - 1 from by decide, Nat.and_two_pow_sub_one_eq_mod, BitVec.toNat_ofNat]
  omega))⟩
/-- the set of the numbers below n that have b -/
def bm (b : Nat → Bool) : Nat → Nat
  | 0 => 0
  | n + 1 => if b n then bm b n ||| 2 ^ n else bm b n
theorem bm_lt (b : Nat → Bool) (n : Nat) : bm b n < 2 ^ n := by
  induction n with
  | zero => simp [bm]
  | succ n ih =>
    have h1 : 2 ^ n < 2 ^ (n + 1) := wb_lt2 (by omega)
    unfold bm
    split
    · exact Nat.or_lt_two_pow (by omega) h1
    · omega
theorem bm_tb (b : Nat → Bool) (n k : Nat) : (bm b n).testBit k = (decide (k < n) && b k) := by
  induction n with
  | zero => simp [bm]
  | succ n ih =>
    unfold bm
    split
    · next h =>
      rw [Nat.testBit_or, ih, Nat.testBit_two_pow]
      by_cases h1 : n = k
      · subst h1
        simp [h]
      · simp only [h1, decide_false, Bool.or_false]
        by_cases h2 : k < n
        · simp [h2, show k < n + 1 by omega]
        · simp [h2, show ¬ k < n + 1 by omega]
    · next h =>
      rw [ih]
      by_cases h1 : k = n
      · subst h1
        simp [h]
      · by_cases h2 : k < n
        · simp [h2, show k < n + 1 by omega]
        · simp [h2, show ¬ k < n + 1 by omega]
theorem bm_t {b : Nat → Bool} {n : Nat} (hn : n < 63) (h : b n = true) : lN (bm b n) ||| (lN 1 <<< ((nI n).toInt64 &&& 63)) = lN (bm b (n + 1)) := by
  have h0 := bm_lt b n
  have h1 : 2 ^ n < 2 ^ 64 := wb_lt2 (by omega)
  rw [wb_shl 1 (by omega), Nat.one_mul, wb_or (by omega) h1]
  simp [bm, h]
theorem bm_f {b : Nat → Bool} {n : Nat} (h : b n = false) : bm b n = bm b (n + 1) := by simp [bm, h]
theorem bm_ext {b c : Nat → Bool} {n : Nat} (h : ∀ k, k < n → b k = c k) : bm b n = bm c n := by
  induction n with
  | zero => rfl
  | succ n ih => simp only [bm]; rw [ih (fun k hk => h k (by omega)), h n (by omega)]
theorem lN_or {a c : Nat} (ha : a < 2 ^ 64) (hc : c < 2 ^ 64) : lN a ||| lN c = lN (a ||| c) := wb_or ha hc
theorem lN_not {a c : Nat} (ha : a < 2 ^ 36) (hc : c < 2 ^ 36) : lN a &&& (lN c ^^^ (-1)) = lN (a &&& (c ^^^ (2 ^ 36 - 1))) := by
  apply wb_inj
  apply BitVec.eq_of_getLsbD_eq
  intro i hi
  rw [Int64.toBitVec_and, Int64.toBitVec_xor, wb_tb, wb_tb, wb_tb, BitVec.getLsbD_and, BitVec.getLsbD_xor, BitVec.getLsbD_ofNat, BitVec.getLsbD_ofNat, BitVec.getLsbD_ofNat, Nat.testBit_and, Nat.testBit_xor, Nat.testBit_two_pow_sub_one]
  have h1 : (-1 : Int64).toBitVec.getLsbD i = true := by
    have : ∀ j, j < 64 → (-1 : Int64).toBitVec.getLsbD j = true := by decide
    exact this i hi
  rw [h1]
  simp only [hi, decide_true, Bool.true_and]
  by_cases h2 : i < 36
  · simp [h2]
  · have h3 : a.testBit i = false := Nat.testBit_lt_two_pow (Nat.lt_of_lt_of_le ha (Nat.pow_le_pow_right (by decide) (by omega)))
    simp [h3]
theorem lN_shr {a t : Nat} (ha : a < 2 ^ 62) (ht : t < 64) : lN a >>> ((nI t).toInt64 &&& 63) = lN (a / 2 ^ t) := by
  rw [wb_c t ht]
  exact pf_shr (by rw [wb_tb, wb_sm t ht, BitVec.toNat_ofNat, Nat.mod_eq_of_lt (by omega)]) ha
theorem lN_bit {a t : Nat} (ha : a < 2 ^ 62) (ht : t < 64) : lg_cmp (lN a >>> ((nI t).toInt64 &&& 63) &&& lN 1) (lN 0) = bI (a.testBit t) := by
  rw [lN_shr ha ht]
  have hq : a / 2 ^ t ≤ a := Nat.div_le_self _ _
  rw [show (lN 1 : Int64) = 1 from rfl, wb_a1 (by omega)]
  rw [Nat.testBit_eq_decide_div_mod_eq]
  rcases (show a / 2 ^ t % 2 = 0 ∨ a / 2 ^ t % 2 = 1 by omega) with h | h
  · rw [h]; rfl
  · rw [h]; rfl
/-! ===== Piece: a piece is a number below 128: its steps, 32 for a leader, 64 for side 1 ===== -/
def sd (p : Nat) : Nat := p / 64 % 2
def stp (p : Nat) : Nat := p % 32
def ldr (p : Nat) : Bool := p / 32 % 2 == 1
def kn (p i : Nat) : Bool := p / 2 ^ i % 2 == 1
def kw (i : Nat) : Nat := match i with
  | 0 => 1
  | 1 => 1
  | 2 => 3
  | 3 => 5
  | _ => 3
/-- the worth of the first i kinds of a set of steps -/
def wsp (s : Nat) : Nat → Nat
  | 0 => 0
  | i + 1 => wsp s i + if kn s i then kw i else 0
def wst (s : Nat) : Nat := wsp s 5
def wr (p : Nat) : Nat := wst (stp p) + if ldr p then 10 else 0
def lrn (p v : Nat) : Nat := stp v &&& (31 ^^^ stp p)
theorem sd_le (p : Nat) : sd p ≤ 1 := by unfold sd; omega
theorem stp_lt (p : Nat) : stp p < 32 := by unfold stp; omega
theorem kw_le (i : Nat) : kw i ≤ 5 := by unfold kw; split <;> omega
theorem wsp_le (s i : Nat) : wsp s i ≤ 5 * i := by
  induction i with
  | zero => simp [wsp]
  | succ i ih =>
    have := kw_le i
    unfold wsp
    split <;> omega
theorem wst_le (s : Nat) : wst s ≤ 25 := wsp_le s 5
theorem wr_le (p : Nat) : wr p ≤ 35 := by
  have := wst_le (stp p)
  unfold wr
  split <;> omega
theorem wsp_t {s i : Nat} (hi : i < 5) (h : kn s i = true) : nI (wsp s i) + zKW i = nI (wsp s (i + 1)) := by
  have h1 : zKW i = nI (kw i) := by
    rcases (show i = 0 ∨ i = 1 ∨ i = 2 ∨ i = 3 ∨ i = 4 by omega) with rfl | rfl | rfl | rfl | rfl <;> rfl
  rw [h1, nI_add]
  simp [wsp, h]
theorem wsp_f {s i : Nat} (h : kn s i = false) : wsp s i = wsp s (i + 1) := by simp [wsp, h]
theorem tb_side : ∀ p, p < 128 → nI p &&& nI 64 = nI (64 * sd p) := by decide +kernel
theorem tb_lead : ∀ p, p < 128 → nI p &&& nI 32 = bI (ldr p) * nI 32 := by decide +kernel
theorem tb_lead0 : ∀ p, p < 128 → (nI p &&& nI 32 = 0 ↔ ldr p = false) := by decide +kernel
theorem tb_stp : ∀ p, p < 128 → nI p &&& nI 31 = nI (stp p) := by decide +kernel
theorem tb_kn : ∀ p, p < 128 → ∀ i, i < 5 → (nI p >>> (nI i &&& 31)) &&& nI 1 = bI (kn p i) := by decide +kernel
theorem tb_lrn : ∀ a, a < 32 → ∀ c, c < 32 → nI c &&& (nI a ^^^ (-1)) = nI (c &&& (31 ^^^ a)) := by decide +kernel
theorem lrn_lt (p v : Nat) : lrn p v < 32 := by
  have h := stp_lt v
  unfold lrn
  exact Nat.lt_of_le_of_lt Nat.and_le_left h
set_option maxRecDepth 20000 in
theorem ct_Pc_sideOf {E : zE} (hE : zEv E) {l : Launch} (hl : l.stackTraces = false) (p : Nat) (hp : p < 128) (h : aH) (sz : Nat) : zM E l y_Pc_sideOf [.code y_Pc_sideOf c_Pc_sideOf 1 (some .int)] rm_Pc_sideOf [.int (nI p)] h sz (zRet (some (.int (nI (sd p)))) h sz) := by
  refine zM_of hE hl (by decide +kernel) [some (.int (nI p))] ⟨rfl, rfl, Nat.le_of_ble_eq_true rfl⟩ ?_
  intro G C q htb
  have hs := sd_le p
  refine Z_run C it_Pc_sideOf 3 (f2 := (4, [some (.int (nI p))], [.int (nI p &&& nI 64)])) rfl ?_
  have e1 : nI p &&& nI 64 = nI (64 * sd p) := tb_side p hp
  rw [e1]
  refine Z_br C it_Pc_sideOf rfl rfl (fun hc1 => ?_) (fun hc1 => ?_)
  · replace hc1 := (nI_e0 (a := 64 * sd p) (by omega)).mp hc1
    refine Z_run C it_Pc_sideOf 1 (f2 := (12, [some (.int (nI p))], [.int (nI 0)])) rfl ?_
    exact Z_iret C q.e it_Pc_sideOf rfl (zRet_i (by rw [show sd p = 0 by omega])) (by decide) (by decide)
  · replace hc1 : ¬ _ := fun z9 => hc1 ((nI_e0 (a := 64 * sd p) (by omega)).mpr z9)
    refine Z_run C it_Pc_sideOf 2 (f2 := (12, [some (.int (nI p))], [.int (nI 1)])) rfl ?_
    exact Z_iret C q.e it_Pc_sideOf rfl (zRet_i (by rw [show sd p = 1 by omega])) (by decide) (by decide)
set_option maxRecDepth 20000 in
theorem ct_Pc_stepsOf {E : zE} (hE : zEv E) {l : Launch} (hl : l.stackTraces = false) (p : Nat) (hp : p < 128) (h : aH) (sz : Nat) : zM E l y_Pc_stepsOf [.code y_Pc_stepsOf c_Pc_stepsOf 1 (some .int)] rm_Pc_stepsOf [.int (nI p)] h sz (zRet (some (.int (nI (stp p)))) h sz) := by
  refine zM_of hE hl (by decide +kernel) [some (.int (nI p))] ⟨rfl, rfl, Nat.le_of_ble_eq_true rfl⟩ ?_
  intro G C q htb
  refine Z_run C it_Pc_stepsOf 3 (f2 := (4, [some (.int (nI p))], [.int (nI p &&& nI 31)])) rfl ?_
  have e1 : nI p &&& nI 31 = nI (stp p) := tb_stp p hp
  rw [e1]
  exact Z_iret C q.e it_Pc_stepsOf rfl (zRet_i rfl) (by decide) (by decide)
set_option maxRecDepth 20000 in
theorem ct_Pc_leads {E : zE} (hE : zEv E) {l : Launch} (hl : l.stackTraces = false) (p : Nat) (hp : p < 128) (h : aH) (sz : Nat) : zM E l y_Pc_leads [.code y_Pc_leads c_Pc_leads 1 (some .boolean)] rm_Pc_leads [.int (nI p)] h sz (zRet (some (.int (bI (ldr p)))) h sz) := by
  refine zM_of hE hl (by decide +kernel) [some (.int (nI p))] ⟨rfl, rfl, Nat.le_of_ble_eq_true rfl⟩ ?_
  intro G C q htb
  refine Z_run C it_Pc_leads 3 (f2 := (4, [some (.int (nI p))], [.int (nI p &&& nI 32)])) rfl ?_
  refine Z_br C it_Pc_leads rfl rfl (fun hc1 => ?_) (fun hc1 => ?_)
  · replace hc1 := (tb_lead0 p hp).mp hc1
    refine Z_run C it_Pc_leads 1 (f2 := (12, [some (.int (nI p))], [.int (nI 0)])) rfl ?_
    exact Z_zret C q.e it_Pc_leads rfl (Or.inl rfl) (zRet_i (by rw [hc1]; rfl)) (by decide) (by decide)
  · replace hc1 : ldr p = true := by rw [← Bool.not_eq_false]; exact fun z9 => hc1 ((tb_lead0 p hp).mpr z9)
    refine Z_run C it_Pc_leads 2 (f2 := (12, [some (.int (nI p))], [.int (nI 1)])) rfl ?_
    exact Z_zret C q.e it_Pc_leads rfl (Or.inr rfl) (zRet_i (by rw [hc1]; rfl)) (by decide) (by decide)
set_option maxRecDepth 20000 in
theorem ct_Pc_knows {E : zE} (hE : zEv E) {l : Launch} (hl : l.stackTraces = false) (p : Nat) (hp : p < 128) (i : Nat) (hi : i < 5) (h : aH) (sz : Nat) : zM E l y_Pc_knows [.code y_Pc_knows c_Pc_knows 2 (some .boolean)] rm_Pc_knows [.int (nI p), .int (nI i)] h sz (zRet (some (.int (bI (kn p i)))) h sz) := by
  refine zM_of hE hl (by decide +kernel) [some (.int (nI p)), some (.int (nI i))] ⟨rfl, rfl, Nat.le_of_ble_eq_true rfl⟩ ?_
  intro G C q htb
  refine Z_run C it_Pc_knows 5 (f2 := (5, [some (.int (nI p)), some (.int (nI i))], [.int ((nI p >>> (nI i &&& 31)) &&& nI 1)])) rfl ?_
  have e1 : (nI p >>> (nI i &&& 31)) &&& nI 1 = bI (kn p i) := tb_kn p hp i hi
  rw [e1]
  refine Z_br C it_Pc_knows rfl rfl (fun hc1 => ?_) (fun hc1 => ?_)
  · replace hc1 := bI_0.mp hc1
    refine Z_run C it_Pc_knows 1 (f2 := (13, [some (.int (nI p)), some (.int (nI i))], [.int (nI 0)])) rfl ?_
    exact Z_zret C q.e it_Pc_knows rfl (Or.inl rfl) (zRet_i (by rw [hc1]; rfl)) (by decide) (by decide)
  · replace hc1 := bI_1.mp hc1
    refine Z_run C it_Pc_knows 2 (f2 := (13, [some (.int (nI p)), some (.int (nI i))], [.int (nI 1)])) rfl ?_
    exact Z_zret C q.e it_Pc_knows rfl (Or.inr rfl) (zRet_i (by rw [hc1]; rfl)) (by decide) (by decide)
set_option maxRecDepth 20000 in
theorem lp_Pc_worthOfSteps {E : zE} {G : zG} {O : zO} (C : zCx E G c_Pc_worthOfSteps 3 y_Pc_worthOfSteps.cls y_Pc_worthOfSteps.name (some .int) rm_Pc_worthOfSteps) (q : zEndX E G O rm_Pc_worthOfSteps.cells rm_Pc_worthOfSteps.slots)  {D : zD} (hD : zDok E D) {V : Nat → Nat → Int32} {P : Nat → Nat → Value} {PH : aH} {sz : Nat} (s : Nat) (hs : s < 32) (hO : O (.inl (some (.int (nI (wst s))))) (HM D V P PH) sz) : ∀ (j i : Nat), 5 - i < j → i ≤ 5 → Z E G (HM D V P PH) sz 0 0 (4, [some (.int (nI s)), some (.int (nI (wsp s i))), some (.int (nI i))], []) := by
  intro j
  induction j with
  | zero =>
    intro i h1 h2
    omega
  | succ j ih =>
    intro i h1 h2
    refine Z_run C it_Pc_worthOfSteps 2 (f2 := (6, [some (.int (nI s)), some (.int (nI (wsp s i))), some (.int (nI i))], [.int (nI 5), .int (nI i)])) rfl ?_
    refine Z_br C it_Pc_worthOfSteps rfl rfl (fun hc1 => ?_) (fun hc1 => ?_)
    · replace hc1 := (nI_leI (a := 5) (b := i) (by omega) (by omega)).mp hc1
      refine Z_run C it_Pc_worthOfSteps 1 (f2 := (32, [some (.int (nI s)), some (.int (nI (wsp s i))), some (.int (nI i))], [.int (nI (wsp s i))])) rfl ?_
      exact Z_iret C q.e it_Pc_worthOfSteps rfl ((show i = 5 by omega) ▸ hO) (by decide) (by decide)
    · replace hc1 : ¬ _ := fun z9 => hc1 ((nI_leI (a := 5) (b := i) (by omega) (by omega)).mpr z9)
      refine Z_run C it_Pc_worthOfSteps 2 (f2 := (11, [some (.int (nI s)), some (.int (nI (wsp s i))), some (.int (nI i))], [.int (nI i), .int (nI s)])) rfl ?_
      refine Zr_callS C it_Pc_worthOfSteps rfl p_Pc_knows ml_Pc_22 [.int (nI s), .int (nI i)] (ct_Pc_knows C.ev C.l s (by first | assumption | omega | exact hF _ (by omega)) i (by omega) _ _) rfl rfl ⟨by decide, by decide, by decide, by decide⟩ (Nat.le_of_ble_eq_true rfl) rfl ?_
      show Z E G (HM D V P PH) sz 0 0 (14, [some (.int (nI s)), some (.int (nI (wsp s i))), some (.int (nI i))], [.int (bI (kn s i))])
      refine Z_br C it_Pc_worthOfSteps rfl rfl (fun hc2 => ?_) (fun hc2 => ?_)
      · replace hc2 := bI_0.mp hc2
        refine Z_run C it_Pc_worthOfSteps 1 (f2 := (28, [some (.int (nI s)), some (.int (nI (wsp s i))), some (.int (nI i + nI 1))], [])) rfl ?_
        rw [nI_add i 1]
        refine Z_run C it_Pc_worthOfSteps 1 (f2 := (4, [some (.int (nI s)), some (.int (nI (wsp s i))), some (.int (nI (i + 1)))], [])) rfl ?_
        have e1 : nI (wsp s i) = nI (wsp s (i + 1)) := by rw [wsp_f hc2]
        rw [e1]
        exact ih (i + 1) (by omega) (by omega)
      · replace hc2 := bI_1.mp hc2
        refine Z_run C it_Pc_worthOfSteps 1 (f2 := (18, [some (.int (nI s)), some (.int (nI (wsp s i))), some (.int (nI i))], [.int (nI (wsp s i))])) rfl ?_
        refine Z_gets C it_Pc_worthOfSteps rfl hD.2.2.1 fl_Pc_26 ?_
        refine Z_run C it_Pc_worthOfSteps 1 (f2 := (22, [some (.int (nI s)), some (.int (nI (wsp s i))), some (.int (nI i))], [.int (nI i), .ref (D.1 46), .int (nI (wsp s i))])) rfl ?_
        refine Zm_ald C it_Pc_worthOfSteps hD 46 15 rfl (by decide) rfl (by decide) (by decide) rfl (j := i) (by omega) (v := .int (zKW i)) rfl ?_
        refine Z_run C it_Pc_worthOfSteps 3 (f2 := (28, [some (.int (nI s)), some (.int (nI (wsp s i) + zKW i)), some (.int (nI i + nI 1))], [])) rfl ?_
        rw [nI_add i 1]
        refine Z_run C it_Pc_worthOfSteps 1 (f2 := (4, [some (.int (nI s)), some (.int (nI (wsp s i) + zKW i)), some (.int (nI (i + 1)))], [])) rfl ?_
        have e2 : nI (wsp s i) + zKW i = nI (wsp s (i + 1)) := wsp_t (by omega) hc2
        rw [e2]
        exact ih (i + 1) (by omega) (by omega)
set_option maxRecDepth 20000 in
theorem ct_Pc_worthOfSteps {E : zE} (hE : zEv E) {l : Launch} (hl : l.stackTraces = false) {D : zD} (hD : zDok E D) (V : Nat → Nat → Int32) (P : Nat → Nat → Value) (PH : aH) (s : Nat) (hs : s < 32) (sz : Nat) : zM E l y_Pc_worthOfSteps [.code y_Pc_worthOfSteps c_Pc_worthOfSteps 3 (some .int)] rm_Pc_worthOfSteps [.int (nI s)] (HM D V P PH) sz (zRet (some (.int (nI (wst s)))) (HM D V P PH) sz) := by
  refine zM_of hE hl (by decide +kernel) [some (.int (nI s)), none, none] ⟨rfl, rfl, Nat.le_of_ble_eq_true rfl⟩ ?_
  intro G C q htb
  refine Z_run C it_Pc_worthOfSteps 4 (f2 := (4, [some (.int (nI s)), some (.int (nI 0)), some (.int (nI 0))], [])) rfl ?_
  exact lp_Pc_worthOfSteps C q hD s hs ⟨rfl, rfl, rfl⟩ 6 0 (by omega) (by omega)
set_option maxRecDepth 20000 in
theorem ct_Pc_worthOf {E : zE} (hE : zEv E) {l : Launch} (hl : l.stackTraces = false) {D : zD} (hD : zDok E D) (V : Nat → Nat → Int32) (P : Nat → Nat → Value) (PH : aH) (p : Nat) (hp : p < 128) (sz : Nat) : zM E l y_Pc_worthOf [.code y_Pc_worthOf c_Pc_worthOf 1 (some .int)] rm_Pc_worthOf [.int (nI p)] (HM D V P PH) sz (zRet (some (.int (nI (wr p)))) (HM D V P PH) sz) := by
  refine zM_of hE hl (by decide +kernel) [some (.int (nI p))] ⟨rfl, rfl, Nat.le_of_ble_eq_true rfl⟩ ?_
  intro G C q htb
  refine Z_run C it_Pc_worthOf 1 (f2 := (1, [some (.int (nI p))], [.int (nI p)])) rfl ?_
  refine Zr_callS C it_Pc_worthOf rfl p_Pc_stepsOf ml_Pc_11 [.int (nI p)] (ct_Pc_stepsOf C.ev C.l p (by first | assumption | omega | exact hF _ (by omega)) _ _) rfl rfl ⟨by decide, by decide, by decide, by decide⟩ (Nat.le_of_ble_eq_true rfl) rfl ?_
  show Z E G (HM D V P PH) sz 0 0 (4, [some (.int (nI p))], [.int (nI (stp p))])
  refine Zr_callS C it_Pc_worthOf rfl p_Pc_worthOfSteps ml_Pc_15 [.int (nI (stp p))] (ct_Pc_worthOfSteps C.ev C.l hD _ _ _ (stp p) (by first | exact stp_lt _ | exact lrn_lt _ _ | assumption | omega) _) rfl rfl ⟨by decide, by decide, by decide, by decide⟩ (Nat.le_of_ble_eq_true rfl) rfl ?_
  show Z E G (HM D V P PH) sz 0 0 (7, [some (.int (nI p))], [.int (nI (wst (stp p)))])
  refine Z_run C it_Pc_worthOf 1 (f2 := (8, [some (.int (nI p))], [.int (nI p), .int (nI (wst (stp p)))])) rfl ?_
  refine Zr_callS C it_Pc_worthOf rfl p_Pc_leads ml_Pc_18 [.int (nI p)] (ct_Pc_leads C.ev C.l p (by first | assumption | omega | exact hF _ (by omega)) _ _) rfl rfl ⟨by decide, by decide, by decide, by decide⟩ (Nat.le_of_ble_eq_true rfl) rfl ?_
  show Z E G (HM D V P PH) sz 0 0 (11, [some (.int (nI p))], [.int (bI (ldr p)), .int (nI (wst (stp p)))])
  refine Z_br C it_Pc_worthOf rfl rfl (fun hc1 => ?_) (fun hc1 => ?_)
  · replace hc1 := bI_0.mp hc1
    refine Z_run C it_Pc_worthOf 2 (f2 := (21, [some (.int (nI p))], [.int (nI (wst (stp p)) + nI 0)])) rfl ?_
    rw [nI_add (wst (stp p)) 0]
    exact Z_iret C q.e it_Pc_worthOf rfl (zRet_i (by unfold wr; rw [hc1]; rfl)) (by decide) (by decide)
  · replace hc1 := bI_1.mp hc1
    refine Z_run C it_Pc_worthOf 3 (f2 := (21, [some (.int (nI p))], [.int (nI (wst (stp p)) + nI 10)])) rfl ?_
    rw [nI_add (wst (stp p)) 10]
    exact Z_iret C q.e it_Pc_worthOf rfl (zRet_i (by unfold wr; rw [hc1]; rfl)) (by decide) (by decide)
set_option maxRecDepth 20000 in
theorem ct_Pc_learnt {E : zE} (hE : zEv E) {l : Launch} (hl : l.stackTraces = false) (p : Nat) (hp : p < 128) (v : Nat) (hv : v < 128) (h : aH) (sz : Nat) : zM E l y_Pc_learnt [.code y_Pc_learnt c_Pc_learnt 2 (some .int)] rm_Pc_learnt [.int (nI p), .int (nI v)] h sz (zRet (some (.int (nI (lrn p v)))) h sz) := by
  refine zM_of hE hl (by decide +kernel) [some (.int (nI p)), some (.int (nI v))] ⟨rfl, rfl, Nat.le_of_ble_eq_true rfl⟩ ?_
  intro G C q htb
  refine Z_run C it_Pc_learnt 1 (f2 := (1, [some (.int (nI p)), some (.int (nI v))], [.int (nI v)])) rfl ?_
  refine Zr_callS C it_Pc_learnt rfl p_Pc_stepsOf ml_Pc_11 [.int (nI v)] (ct_Pc_stepsOf C.ev C.l v (by first | assumption | omega | exact hF _ (by omega)) _ _) rfl rfl ⟨by decide, by decide, by decide, by decide⟩ (Nat.le_of_ble_eq_true rfl) rfl ?_
  show Z E G h sz 0 0 (4, [some (.int (nI p)), some (.int (nI v))], [.int (nI (stp v))])
  refine Z_run C it_Pc_learnt 1 (f2 := (5, [some (.int (nI p)), some (.int (nI v))], [.int (nI p), .int (nI (stp v))])) rfl ?_
  refine Zr_callS C it_Pc_learnt rfl p_Pc_stepsOf ml_Pc_11 [.int (nI p)] (ct_Pc_stepsOf C.ev C.l p (by first | assumption | omega | exact hF _ (by omega)) _ _) rfl rfl ⟨by decide, by decide, by decide, by decide⟩ (Nat.le_of_ble_eq_true rfl) rfl ?_
  show Z E G h sz 0 0 (8, [some (.int (nI p)), some (.int (nI v))], [.int (nI (stp p)), .int (nI (stp v))])
  refine Z_run C it_Pc_learnt 3 (f2 := (11, [some (.int (nI p)), some (.int (nI v))], [.int (nI (stp v) &&& (nI (stp p) ^^^ (-1)))])) rfl ?_
  have e1 : nI (stp v) &&& (nI (stp p) ^^^ (-1)) = nI (lrn p v) := tb_lrn _ (stp_lt _) _ (stp_lt _)
  rw [e1]
  exact Z_iret C q.e it_Pc_learnt rfl (zRet_i rfl) (by decide) (by decide)
/-- a piece out of its side, its steps and whether it leads -/
def pof (s st : Nat) (ld : Bool) : Nat := st + (if ld then 32 else 0) + 64 * s
theorem tb_pof : ∀ st, st < 32 → ∀ ld : Bool, ∀ s, s < 2 → ((nI st ||| (if ld then nI 32 else nI 0)) ||| (if s = 1 then nI 64 else nI 0)) = nI (pof s st ld) := by decide +kernel
set_option maxRecDepth 20000 in
theorem ct_Pc_of {E : zE} (hE : zEv E) {l : Launch} (hl : l.stackTraces = false) (s : Nat) (hs : s < 2) (st : Nat) (hst : st < 32) (ld : Bool) (h : aH) (sz : Nat) : zM E l y_Pc_of [.code y_Pc_of c_Pc_of 3 (some .int)] rm_Pc_of [.int (nI s), .int (nI st), .int (bI ld)] h sz (zRet (some (.int (nI (pof s st ld)))) h sz) := by
  refine zM_of hE hl (by decide +kernel) [some (.int (nI s)), some (.int (nI st)), some (.int (bI ld))] ⟨rfl, rfl, Nat.le_of_ble_eq_true rfl⟩ ?_
  intro G C q htb
  refine Z_run C it_Pc_of 2 (f2 := (2, [some (.int (nI s)), some (.int (nI st)), some (.int (bI ld))], [.int (bI ld), .int (nI st)])) rfl ?_
  refine Z_br C it_Pc_of rfl rfl (fun hc1 => ?_) (fun hc1 => ?_)
  · replace hc1 := bI_0.mp hc1
    refine Z_run C it_Pc_of 4 (f2 := (14, [some (.int (nI s)), some (.int (nI st)), some (.int (bI ld))], [.int (nI 1), .int (nI s), .int (nI st ||| nI 0)])) rfl ?_
    refine Z_br C it_Pc_of rfl rfl (fun hc2 => ?_) (fun hc2 => ?_)
    · replace hc2 : ¬ _ := fun z9 => hc2 ((nI_eq (a := s) (b := 1) (by omega) (by omega)).mpr z9)
      refine Z_run C it_Pc_of 2 (f2 := (24, [some (.int (nI s)), some (.int (nI st)), some (.int (bI ld))], [.int ((nI st ||| nI 0) ||| nI 0)])) rfl ?_
      exact Z_iret C q.e it_Pc_of rfl (zRet_i (by subst hc1; have e9 := tb_pof st hst false s hs; (first | rw [if_neg hc2] at e9 | rw [if_neg hc3] at e9 | rw [if_pos hc2] at e9 | rw [if_pos hc3] at e9) ; exact e9)) (by decide) (by decide)
    · replace hc2 := Classical.not_not.mp hc2
      replace hc2 := (nI_eq (a := s) (b := 1) (by omega) (by omega)).mp hc2
      refine Z_run C it_Pc_of 3 (f2 := (24, [some (.int (nI s)), some (.int (nI st)), some (.int (bI ld))], [.int ((nI st ||| nI 0) ||| nI 64)])) rfl ?_
      exact Z_iret C q.e it_Pc_of rfl (zRet_i (by subst hc1; have e9 := tb_pof st hst false s hs; (first | rw [if_neg hc2] at e9 | rw [if_neg hc3] at e9 | rw [if_pos hc2] at e9 | rw [if_pos hc3] at e9) ; exact e9)) (by decide) (by decide)
  · replace hc1 := bI_1.mp hc1
    refine Z_run C it_Pc_of 5 (f2 := (14, [some (.int (nI s)), some (.int (nI st)), some (.int (bI ld))], [.int (nI 1), .int (nI s), .int (nI st ||| nI 32)])) rfl ?_
    refine Z_br C it_Pc_of rfl rfl (fun hc3 => ?_) (fun hc3 => ?_)
    · replace hc3 : ¬ _ := fun z9 => hc3 ((nI_eq (a := s) (b := 1) (by omega) (by omega)).mpr z9)
      refine Z_run C it_Pc_of 2 (f2 := (24, [some (.int (nI s)), some (.int (nI st)), some (.int (bI ld))], [.int ((nI st ||| nI 32) ||| nI 0)])) rfl ?_
      exact Z_iret C q.e it_Pc_of rfl (zRet_i (by subst hc1; have e9 := tb_pof st hst true s hs; (first | rw [if_neg hc2] at e9 | rw [if_neg hc3] at e9 | rw [if_pos hc2] at e9 | rw [if_pos hc3] at e9) ; exact e9)) (by decide) (by decide)
    · replace hc3 := Classical.not_not.mp hc3
      replace hc3 := (nI_eq (a := s) (b := 1) (by omega) (by omega)).mp hc3
      refine Z_run C it_Pc_of 3 (f2 := (24, [some (.int (nI s)), some (.int (nI st)), some (.int (bI ld))], [.int ((nI st ||| nI 32) ||| nI 64)])) rfl ?_
      exact Z_iret C q.e it_Pc_of rfl (zRet_i (by subst hc1; have e9 := tb_pof st hst true s hs; (first | rw [if_neg hc2] at e9 | rw [if_neg hc3] at e9 | rw [if_pos hc2] at e9 | rw [if_pos hc3] at e9) ; exact e9)) (by decide) (by decide)
