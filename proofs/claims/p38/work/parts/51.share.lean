/-! ===== worthShare ===== -/
theorem fq_n {v w : Int32} (h : w ≠ 0) : vf_n64 (FP.ddiv (FP.i2d v) (FP.i2d w)) := by
  have hv : FP.Core.dIsNaN (FP.i2d v) = false := by
    rw [← Bool.not_eq_true, FP.Core.isNaN_bits]
    have := (FP.Core.fin_bits _).mp (FP.Core.i2d_fin v)
    intro h2
    exact absurd this (by have h3 : 9218868437227405312 < (FP.Core.i2d v).toNat % 2 ^ 63 := h2; omega)
  have h1 : FP.Core.dIsNaN (FP.ddiv (FP.i2d v) (FP.i2d w)) = false := FP.Core.ddiv_out hv (FP.Core.i2d_fin w) (fun hz => FP.Core.i2d_ne_zero h ((FP.Core.zero_bits2 _).mp hz))
  rw [← Bool.not_eq_true, FP.Core.isNaN_bits] at h1
  unfold vf_n64
  rw [UInt64.le_iff_toNat_le, UInt64.toNat_and]
  have e1 : (0x7fffffffffffffff : UInt64).toNat = 2 ^ 63 - 1 := by decide
  have e2 : (0x7ff0000000000000 : UInt64).toNat = 9218868437227405312 := by decide
  rw [e1, e2, Nat.and_two_pow_sub_one_eq_mod]
  omega
def shq (a b : Nat) : UInt64 := if b = 0 then FP.dconst0 else FP.ddiv (FP.i2d (nI a)) (FP.i2d (nI b))
theorem zRet_d {h h2 : aH} {sz : Nat} {v w : UInt64} (e : v = w) (e2 : h = h2) : zRet (some (.double w)) h2 sz (.inl (some (.double v))) h sz := ⟨by rw [e], e2, rfl⟩
theorem wos_le {F : Nat → Nat} {s : Nat} : wos F s 36 ≤ 35 * 36 := by
  unfold wos
  exact smp_le (fun k _ => by split; exact wr_le _; omega)
set_option maxRecDepth 20000 in
theorem ct_Xx_worthShare {E : zE} (hE : zEv E) {l : Launch} (hl : l.stackTraces = false) {D : zD} (hD : zDok E D) (V : Nat → Nat → Int32) (P : Nat → Nat → Value) (PH : aH) (hF : okF (bF V 2)) (a : Nat) (ha : a < 2) (sz : Nat) : zM E l y_Xx_worthShare [.code y_Xx_worthShare c_Xx_worthShare 3 (some .double)] rm_Xx_worthShare [.ref (D.1 0), .int (nI a)] (HM D V P PH) sz (zRet (some (.double (shq (wos (bF V 2) a 36) (wos (bF V 2) 0 36 + wos (bF V 2) 1 36)))) (HM D V P PH) sz) := by
  refine zM_of hE hl (by decide +kernel) [some (.ref (D.1 0)), some (.int (nI a)), none] ⟨rfl, rfl, Nat.le_of_ble_eq_true rfl⟩ ?_
  intro G C q htb
  have hw0 := wos_le (F := bF V 2) (s := 0)
  have hw1 := wos_le (F := bF V 2) (s := 1)
  refine Z_run C it_Xx_worthShare 1 (f2 := (1, [some (.ref (D.1 0)), some (.int (nI a)), none], [.int (nI a)])) rfl ?_
  refine Zr_callS C it_Xx_worthShare rfl p_Xx_needSide ml_Xx_132 [.int (nI a)] (ct_Xx_needSide C.ev C.l a (by omega) (HM D V P PH) _) rfl rfl ⟨by decide, by decide, by decide, by decide⟩ (Nat.le_of_ble_eq_true rfl) rfl ?_
  show Z E G (HM D V P PH) sz 1 6 (4, [some (.ref (D.1 0)), some (.int (nI a)), none], [])
  refine Z_run C it_Xx_worthShare 1 (f2 := (5, [some (.ref (D.1 0)), some (.int (nI a)), none], [.ref (D.1 0)])) rfl ?_
  refine Zm_get C it_Xx_worthShare hD rfl 0 wi_Xx (by decide) rfl rfl (j := 0) (by decide) fl_Xx_10 (v := .ref (D.1 1)) rfl ?_
  refine Zm_get C it_Xx_worthShare hD rfl 1 wi_Gm (by decide) rfl rfl (j := 0) (by decide) fl_Xx_49 (v := .ref (D.1 2)) rfl ?_
  refine Z_run C it_Xx_worthShare 1 (f2 := (12, [some (.ref (D.1 0)), some (.int (nI a)), none], [.int (nI 0), .ref (D.1 2)])) rfl ?_
  refine Zr_callV C it_Xx_worthShare hD rfl p_Bd_worthOfSide ml_Xx_216 2 (by decide) rfl rfl [.int (nI 0)] (ct_Bd_worthOfSide C.ev C.l hD _ _ _ 2 isB_2 hF 0 (by first | assumption | omega) _) rfl rfl ⟨by decide, by decide, by decide, by decide⟩ (Nat.le_of_ble_eq_true rfl) rfl ?_
  show Z E G (HM D V P PH) sz 1 6 (15, [some (.ref (D.1 0)), some (.int (nI a)), none], [.int (nI (wos (bF V 2) 0 36))])
  refine Z_run C it_Xx_worthShare 1 (f2 := (16, [some (.ref (D.1 0)), some (.int (nI a)), none], [.ref (D.1 0), .int (nI (wos (bF V 2) 0 36))])) rfl ?_
  refine Zm_get C it_Xx_worthShare hD rfl 0 wi_Xx (by decide) rfl rfl (j := 0) (by decide) fl_Xx_10 (v := .ref (D.1 1)) rfl ?_
  refine Zm_get C it_Xx_worthShare hD rfl 1 wi_Gm (by decide) rfl rfl (j := 0) (by decide) fl_Xx_49 (v := .ref (D.1 2)) rfl ?_
  refine Z_run C it_Xx_worthShare 1 (f2 := (23, [some (.ref (D.1 0)), some (.int (nI a)), none], [.int (nI 1), .ref (D.1 2), .int (nI (wos (bF V 2) 0 36))])) rfl ?_
  refine Zr_callV C it_Xx_worthShare hD rfl p_Bd_worthOfSide ml_Xx_216 2 (by decide) rfl rfl [.int (nI 1)] (ct_Bd_worthOfSide C.ev C.l hD _ _ _ 2 isB_2 hF 1 (by first | assumption | omega) _) rfl rfl ⟨by decide, by decide, by decide, by decide⟩ (Nat.le_of_ble_eq_true rfl) rfl ?_
  show Z E G (HM D V P PH) sz 1 6 (26, [some (.ref (D.1 0)), some (.int (nI a)), none], [.int (nI (wos (bF V 2) 1 36)), .int (nI (wos (bF V 2) 0 36))])
  refine Z_run C it_Xx_worthShare 1 (f2 := (27, [some (.ref (D.1 0)), some (.int (nI a)), none], [.int (nI (wos (bF V 2) 0 36) + nI (wos (bF V 2) 1 36))])) rfl ?_
  rw [nI_add (wos (bF V 2) 0 36) (wos (bF V 2) 1 36)]
  refine Z_run C it_Xx_worthShare 2 (f2 := (29, [some (.ref (D.1 0)), some (.int (nI a)), some (.int (nI (wos (bF V 2) 0 36 + wos (bF V 2) 1 36)))], [.int (nI (wos (bF V 2) 0 36 + wos (bF V 2) 1 36))])) rfl ?_
  refine Z_br C it_Xx_worthShare rfl rfl (fun hc1 => ?_) (fun hc1 => ?_)
  · have hc2z : ¬ nI (wos (bF V 2) 0 36 + wos (bF V 2) 1 36) = 0 := hc1
    refine Z_run C it_Xx_worthShare 1 (f2 := (35, [some (.ref (D.1 0)), some (.int (nI a)), some (.int (nI (wos (bF V 2) 0 36 + wos (bF V 2) 1 36)))], [.ref (D.1 0)])) rfl ?_
    refine Zm_get C it_Xx_worthShare hD rfl 0 wi_Xx (by decide) rfl rfl (j := 0) (by decide) fl_Xx_10 (v := .ref (D.1 1)) rfl ?_
    refine Zm_get C it_Xx_worthShare hD rfl 1 wi_Gm (by decide) rfl rfl (j := 0) (by decide) fl_Xx_49 (v := .ref (D.1 2)) rfl ?_
    refine Z_run C it_Xx_worthShare 1 (f2 := (42, [some (.ref (D.1 0)), some (.int (nI a)), some (.int (nI (wos (bF V 2) 0 36 + wos (bF V 2) 1 36)))], [.int (nI a), .ref (D.1 2)])) rfl ?_
    refine Zr_callV C it_Xx_worthShare hD rfl p_Bd_worthOfSide ml_Xx_216 2 (by decide) rfl rfl [.int (nI a)] (ct_Bd_worthOfSide C.ev C.l hD _ _ _ 2 isB_2 hF a (by first | assumption | omega) _) rfl rfl ⟨by decide, by decide, by decide, by decide⟩ (Nat.le_of_ble_eq_true rfl) rfl ?_
    show Z E G (HM D V P PH) sz 1 6 (45, [some (.ref (D.1 0)), some (.int (nI a)), some (.int (nI (wos (bF V 2) 0 36 + wos (bF V 2) 1 36)))], [.int (nI (wos (bF V 2) a 36))])
    refine Z_run C it_Xx_worthShare 3 (f2 := (48, [some (.ref (D.1 0)), some (.int (nI a)), some (.int (nI (wos (bF V 2) 0 36 + wos (bF V 2) 1 36)))], [.double (FP.i2d (nI (wos (bF V 2) 0 36 + wos (bF V 2) 1 36))), .double (FP.i2d (nI (wos (bF V 2) a 36)))])) rfl ?_
    refine Z_ddiv C it_Xx_worthShare rfl (fq_n (fun z9 => hc2z z9)) ?_
    exact Z_dret C q.e it_Xx_worthShare rfl (zRet_d (by unfold shq; rw [if_neg (fun z9 => hc2z (by rw [z9]; rfl))]) rfl) (by decide) (by decide)
  · have hc0 : (wos (bF V 2) 0 36 + wos (bF V 2) 1 36) = 0 := (nI_e0 (by omega)).mp (Classical.not_not.mp hc1)
    refine Z_run C it_Xx_worthShare 1 (f2 := (33, [some (.ref (D.1 0)), some (.int (nI a)), some (.int (nI (wos (bF V 2) 0 36 + wos (bF V 2) 1 36)))], [.double FP.dconst0])) rfl ?_
    exact Z_dret C q.e it_Xx_worthShare rfl (zRet_d (by unfold shq; rw [if_pos hc0]) rfl) (by decide) (by decide)
set_option maxRecDepth 20000 in
theorem ct_Xx_worthShare_x1 {E : zE} (hE : zEv E) {l : Launch} (hl : l.stackTraces = false) {D : zD} (hD : zDok E D) (V : Nat → Nat → Int32) (P : Nat → Nat → Value) (PH : aH) (a : Nat) (h32 : a < 4294967296) (ha : 2 ≤ a) (sz : Nat) : zM E l y_Xx_worthShare [.code y_Xx_worthShare c_Xx_worthShare 3 (some .double)] rm_Xx_worthShare [.ref (D.1 0), .int (nI a)] (HM D V P PH) sz (zThr X_IOOBE (HM D V P PH) sz) := by
  refine zM_of hE hl (by decide +kernel) [some (.ref (D.1 0)), some (.int (nI a)), none] ⟨rfl, rfl, Nat.le_of_ble_eq_true rfl⟩ ?_
  intro G C q htb
  refine Z_run C it_Xx_worthShare 1 (f2 := (1, [some (.ref (D.1 0)), some (.int (nI a)), none], [.int (nI a)])) rfl ?_
  exact Zr_thrS C it_Xx_worthShare rfl p_Xx_needSide ml_Xx_132 [.int (nI a)] (ct_Xx_needSide_x C.ev C.l a (by omega) (by omega) (HM D V P PH) _) rfl rfl ⟨by decide, by decide, by decide, by decide⟩ (Nat.le_of_ble_eq_true rfl) rfl q htb (⟨rfl, rfl, rfl⟩) (by decide) (by decide)
