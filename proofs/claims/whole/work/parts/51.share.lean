/-! ===== worthShare, on both sides; the class's play ===== -/
theorem fq_n {v w : Int32} (h : w ≠ 0) : vf_n64 (FP.ddiv (FP.i2d v) (FP.i2d w)) := by
  have hv : FP.Core.dIsNaN (FP.i2d v) = false := by
    rw [← Bool.not_eq_true, FP.Core.isNaN_bits]
    have := (FP.Core.fin_bits _).mp (FP.Core.i2d_fin v)
    intro h2
    exact absurd this (by have h3 : 9218868437227405312 < (FP.Core.i2d v).toNat % 2 ^ 63 := h2; omega)
  have h1 : FP.Core.dIsNaN (FP.ddiv (FP.i2d v) (FP.i2d w)) = false := FP.Core.ddiv_out hv (FP.Core.i2d_fin w) (fun hz => FP.Core.i2d_ne_zero h ((FP.Core.zero_bits2 _).mp hz))
  rw [← Bool.not_eq_true, FP.Core.isNaN_bits] at h1
  unfold vf_n64
  rw [UInt64.le_iff_toNat_le, UInt64.toNat_and]
  have e1 : (0x7fffffffffffffff : UInt64).toNat = 2 ^ 63 - 1 := by decide
  have e2 : (0x7ff0000000000000 : UInt64).toNat = 9218868437227405312 := by decide
  rw [e1, e2, Nat.and_two_pow_sub_one_eq_mod]
  omega
def shq (a b : Nat) : UInt64 := if b = 0 then FP.dconst0 else FP.ddiv (FP.i2d (nI a)) (FP.i2d (nI b))
theorem zRet_d {h h2 : aH} {sz : Nat} {v w : UInt64} (e : v = w) (e2 : h = h2) : zRet (some (.double w)) h2 sz (.inl (some (.double v))) h sz := ⟨by rw [e], e2, rfl⟩
theorem wos_le {F : Nat → Nat} {s : Nat} : wos F s 36 ≤ 35 * 36 := by
  unfold wos
  exact smp_le (fun k _ => by split; exact wr_le _; omega)
set_option maxRecDepth 20000 in
theorem ct_Xx_worthShare {E : zE} (hE : zEv E) {l : Launch} (hl : l.stackTraces = false) {D : zD} (hD : zDok E D) (V : Nat → Nat → Int32) (P : Nat → Nat → Value) (PH : aH) (hF : okF (bF V 2)) (a : Nat) (ha : a < 2) (sz : Nat) : zM E l y_Xx_worthShare [.code y_Xx_worthShare c_Xx_worthShare 3 (some .double)] rm_Xx_worthShare [.ref (D.1 0), .int (nI a)] (HM D V P PH) sz (zRet (some (.double (shq (wos (bF V 2) a 36) (wos (bF V 2) 0 36 + wos (bF V 2) 1 36)))) (HM D V P PH) sz) := by
  refine zM_of hE hl (by decide +kernel) [some (.ref (D.1 0)), some (.int (nI a)), none] ⟨rfl, rfl, Nat.le_of_ble_eq_true rfl⟩ ?_
  intro G C q htb
  have hw0 := wos_le (F := bF V 2) (s := 0)
  have hw1 := wos_le (F := bF V 2) (s := 1)
  refine Z_run C it_Xx_worthShare 1 (f2 := (1, [some (.ref (D.1 0)), some (.int (nI a)), none], [.int (nI a)])) rfl ?_
  refine Zr_callS C it_Xx_worthShare rfl p_Xx_needSide ml_Xx_132 [.int (nI a)] (ct_Xx_needSide C.ev C.l a (by omega) (HM D V P PH) _) rfl rfl ⟨by decide, by decide, by decide, by decide⟩ (Nat.le_of_ble_eq_true rfl) rfl ?_
  show Z E G (HM D V P PH) sz 1 6 (4, [some (.ref (D.1 0)), some (.int (nI a)), none], [])
  refine Z_run C it_Xx_worthShare 1 (f2 := (5, [some (.ref (D.1 0)), some (.int (nI a)), none], [.ref (D.1 0)])) rfl ?_
  refine Zm_get C it_Xx_worthShare hD rfl 0 wi_Xx (by decide) rfl rfl (j := 0) (by decide) fl_Xx_10 (v := .ref (D.1 1)) rfl ?_
  refine Zm_get C it_Xx_worthShare hD rfl 1 wi_Gm (by decide) rfl rfl (j := 0) (by decide) fl_Xx_49 (v := .ref (D.1 2)) rfl ?_
  refine Z_run C it_Xx_worthShare 1 (f2 := (12, [some (.ref (D.1 0)), some (.int (nI a)), none], [.int (nI 0), .ref (D.1 2)])) rfl ?_
  refine Zr_callV C it_Xx_worthShare hD rfl p_Bd_worthOfSide ml_Xx_216 2 (by decide) rfl rfl [.int (nI 0)] (ct_Bd_worthOfSide C.ev C.l hD _ _ _ 2 isB_2 hF 0 (by first | assumption | omega) _) rfl rfl ⟨by decide, by decide, by decide, by decide⟩ (Nat.le_of_ble_eq_true rfl) rfl ?_
  show Z E G (HM D V P PH) sz 1 6 (15, [some (.ref (D.1 0)), some (.int (nI a)), none], [.int (nI (wos (bF V 2) 0 36))])
  refine Z_run C it_Xx_worthShare 1 (f2 := (16, [some (.ref (D.1 0)), some (.int (nI a)), none], [.ref (D.1 0), .int (nI (wos (bF V 2) 0 36))])) rfl ?_
  refine Zm_get C it_Xx_worthShare hD rfl 0 wi_Xx (by decide) rfl rfl (j := 0) (by decide) fl_Xx_10 (v := .ref (D.1 1)) rfl ?_
  refine Zm_get C it_Xx_worthShare hD rfl 1 wi_Gm (by decide) rfl rfl (j := 0) (by decide) fl_Xx_49 (v := .ref (D.1 2)) rfl ?_
  refine Z_run C it_Xx_worthShare 1 (f2 := (23, [some (.ref (D.1 0)), some (.int (nI a)), none], [.int (nI 1), .ref (D.1 2), .int (nI (wos (bF V 2) 0 36))])) rfl ?_
  refine Zr_callV C it_Xx_worthShare hD rfl p_Bd_worthOfSide ml_Xx_216 2 (by decide) rfl rfl [.int (nI 1)] (ct_Bd_worthOfSide C.ev C.l hD _ _ _ 2 isB_2 hF 1 (by first | assumption | omega) _) rfl rfl ⟨by decide, by decide, by decide, by decide⟩ (Nat.le_of_ble_eq_true rfl) rfl ?_
  show Z E G (HM D V P PH) sz 1 6 (26, [some (.ref (D.1 0)), some (.int (nI a)), none], [.int (nI (wos (bF V 2) 1 36)), .int (nI (wos (bF V 2) 0 36))])
  refine Z_run C it_Xx_worthShare 1 (f2 := (27, [some (.ref (D.1 0)), some (.int (nI a)), none], [.int (nI (wos (bF V 2) 0 36) + nI (wos (bF V 2) 1 36))])) rfl ?_
  rw [nI_add (wos (bF V 2) 0 36) (wos (bF V 2) 1 36)]
  refine Z_run C it_Xx_worthShare 2 (f2 := (29, [some (.ref (D.1 0)), some (.int (nI a)), some (.int (nI (wos (bF V 2) 0 36 + wos (bF V 2) 1 36)))], [.int (nI (wos (bF V 2) 0 36 + wos (bF V 2) 1 36))])) rfl ?_
  refine Z_br C it_Xx_worthShare rfl rfl (fun hc1 => ?_) (fun hc1 => ?_)
  · have hc2z : ¬ nI (wos (bF V 2) 0 36 + wos (bF V 2) 1 36) = 0 := hc1
    refine Z_run C it_Xx_worthShare 1 (f2 := (35, [some (.ref (D.1 0)), some (.int (nI a)), some (.int (nI (wos (bF V 2) 0 36 + wos (bF V 2) 1 36)))], [.ref (D.1 0)])) rfl ?_
    refine Zm_get C it_Xx_worthShare hD rfl 0 wi_Xx (by decide) rfl rfl (j := 0) (by decide) fl_Xx_10 (v := .ref (D.1 1)) rfl ?_
    refine Zm_get C it_Xx_worthShare hD rfl 1 wi_Gm (by decide) rfl rfl (j := 0) (by decide) fl_Xx_49 (v := .ref (D.1 2)) rfl ?_
    refine Z_run C it_Xx_worthShare 1 (f2 := (42, [some (.ref (D.1 0)), some (.int (nI a)), some (.int (nI (wos (bF V 2) 0 36 + wos (bF V 2) 1 36)))], [.int (nI a), .ref (D.1 2)])) rfl ?_
    refine Zr_callV C it_Xx_worthShare hD rfl p_Bd_worthOfSide ml_Xx_216 2 (by decide) rfl rfl [.int (nI a)] (ct_Bd_worthOfSide C.ev C.l hD _ _ _ 2 isB_2 hF a (by first | assumption | omega) _) rfl rfl ⟨by decide, by decide, by decide, by decide⟩ (Nat.le_of_ble_eq_true rfl) rfl ?_
    show Z E G (HM D V P PH) sz 1 6 (45, [some (.ref (D.1 0)), some (.int (nI a)), some (.int (nI (wos (bF V 2) 0 36 + wos (bF V 2) 1 36)))], [.int (nI (wos (bF V 2) a 36))])
    refine Z_run C it_Xx_worthShare 3 (f2 := (48, [some (.ref (D.1 0)), some (.int (nI a)), some (.int (nI (wos (bF V 2) 0 36 + wos (bF V 2) 1 36)))], [.double (FP.i2d (nI (wos (bF V 2) 0 36 + wos (bF V 2) 1 36))), .double (FP.i2d (nI (wos (bF V 2) a 36)))])) rfl ?_
    refine Z_ddiv C it_Xx_worthShare rfl (fq_n (fun z9 => hc2z z9)) ?_
    exact Z_dret C q.e it_Xx_worthShare rfl (zRet_d (by unfold shq; rw [if_neg (fun z9 => hc2z (by rw [z9]; rfl))]) rfl) (by decide) (by decide)
  · have hc0 : (wos (bF V 2) 0 36 + wos (bF V 2) 1 36) = 0 := (nI_e0 (by omega)).mp (Classical.not_not.mp hc1)
    refine Z_run C it_Xx_worthShare 1 (f2 := (33, [some (.ref (D.1 0)), some (.int (nI a)), some (.int (nI (wos (bF V 2) 0 36 + wos (bF V 2) 1 36)))], [.double FP.dconst0])) rfl ?_
    exact Z_dret C q.e it_Xx_worthShare rfl (zRet_d (by unfold shq; rw [if_pos hc0]) rfl) (by decide) (by decide)
set_option maxRecDepth 20000 in
theorem ct_Xx_worthShare_x1 {E : zE} (hE : zEv E) {l : Launch} (hl : l.stackTraces = false) {D : zD} (hD : zDok E D) (V : Nat → Nat → Int32) (P : Nat → Nat → Value) (PH : aH) (a : Nat) (h32 : a < 4294967296) (ha : 2 ≤ a) (sz : Nat) : zM E l y_Xx_worthShare [.code y_Xx_worthShare c_Xx_worthShare 3 (some .double)] rm_Xx_worthShare [.ref (D.1 0), .int (nI a)] (HM D V P PH) sz (zThr X_IOOBE (HM D V P PH) sz) := by
  refine zM_of hE hl (by decide +kernel) [some (.ref (D.1 0)), some (.int (nI a)), none] ⟨rfl, rfl, Nat.le_of_ble_eq_true rfl⟩ ?_
  intro G C q htb
  refine Z_run C it_Xx_worthShare 1 (f2 := (1, [some (.ref (D.1 0)), some (.int (nI a)), none], [.int (nI a)])) rfl ?_
  exact Zr_thrS C it_Xx_worthShare rfl p_Xx_needSide ml_Xx_132 [.int (nI a)] (ct_Xx_needSide_x C.ev C.l a (by omega) (by omega) (HM D V P PH) _) rfl rfl ⟨by decide, by decide, by decide, by decide⟩ (Nat.le_of_ble_eq_true rfl) rfl q htb (⟨rfl, rfl, rfl⟩) (by decide) (by decide)
set_option maxRecDepth 20000 in
theorem ct_Mm_worthShare {E : zE} (hE : zEv E) {l : Launch} (hl : l.stackTraces = false) {D : zD} (hD : zDok E D) (V : Nat → Nat → Int32) (P : Nat → Nat → Value) (PH : aH) (F : Nat → Nat) (hF : okF F) (hz : ∀ k, k < 36 → V 38 k = nI (mo (F k))) (a : Nat) (ha : a < 2) (sz : Nat) : zM E l y_Mm_worthShare [.code y_Mm_worthShare c_Mm_worthShare 3 (some .double)] rm_Mm_worthShare [.ref (D.1 37), .int (nI a)] (HM D V P PH) sz (zRet (some (.double (shq (wos F a 36) (wos F 0 36 + wos F 1 36)))) (HM D (vset V 37 8 (nI 0)) P PH) sz) := by
  refine zM_of hE hl (by decide +kernel) [some (.ref (D.1 37)), some (.int (nI a)), none] ⟨rfl, rfl, Nat.le_of_ble_eq_true rfl⟩ ?_
  intro G C q htb
  have hw0 := wos_le (F := F) (s := 0)
  have hw1 := wos_le (F := F) (s := 1)
  refine Z_run C it_Mm_worthShare 2 (f2 := (2, [some (.ref (D.1 37)), some (.int (nI a)), none], [.int (nI a), .ref (D.1 37)])) rfl ?_
  refine Zr_callS C it_Mm_worthShare rfl p_Mm_isSide ml_Mm_91 [.int (nI a)] (ct_Mm_isSide_t C.ev C.l a (by omega) (HM D V P PH) _) rfl rfl ⟨by decide, by decide, by decide, by decide⟩ (Nat.le_of_ble_eq_true rfl) rfl ?_
  show Z E G (HM D V P PH) sz 0 0 (5, [some (.ref (D.1 37)), some (.int (nI a)), none], [.int (nI 1), .ref (D.1 37)])
  refine Zr_callV C it_Mm_worthShare hD rfl p_Mm_asks ml_Mm_40 37 (by decide) rfl rfl [.int (nI 1)] (ct_Mm_asks_t C.ev C.l hD V P _ _) rfl rfl ⟨by decide, by decide, by decide, by decide⟩ (Nat.le_of_ble_eq_true rfl) rfl ?_
  show Z E G (HM D (vset V 37 8 (nI 0)) P PH) sz 0 0 (8, [some (.ref (D.1 37)), some (.int (nI a)), none], [.int (nI 1)])
  refine Z_br C it_Mm_worthShare rfl rfl (fun hc1 => ?_) (fun hc1 => absurd (by decide) hc1)
  refine Z_run C it_Mm_worthShare 2 (f2 := (15, [some (.ref (D.1 37)), some (.int (nI a)), none], [.int (nI 0), .ref (D.1 37)])) rfl ?_
  refine Zr_callV C it_Mm_worthShare hD rfl p_Mm_all ml_Mm_155 37 (by decide) rfl rfl [.int (nI 0)] (ct_Mm_all_z C.ev C.l hD (vset V 37 8 (nI 0)) P _ F hF hz 0 (by first | assumption | omega) _) rfl rfl ⟨by decide, by decide, by decide, by decide⟩ (Nat.le_of_ble_eq_true rfl) rfl ?_
  show Z E G (HM D (vset V 37 8 (nI 0)) P PH) sz 0 0 (18, [some (.ref (D.1 37)), some (.int (nI a)), none], [.int (nI (wos F 0 36))])
  refine Z_run C it_Mm_worthShare 2 (f2 := (20, [some (.ref (D.1 37)), some (.int (nI a)), none], [.int (nI 1), .ref (D.1 37), .int (nI (wos F 0 36))])) rfl ?_
  refine Zr_callV C it_Mm_worthShare hD rfl p_Mm_all ml_Mm_155 37 (by decide) rfl rfl [.int (nI 1)] (ct_Mm_all_z C.ev C.l hD (vset V 37 8 (nI 0)) P _ F hF hz 1 (by first | assumption | omega) _) rfl rfl ⟨by decide, by decide, by decide, by decide⟩ (Nat.le_of_ble_eq_true rfl) rfl ?_
  show Z E G (HM D (vset V 37 8 (nI 0)) P PH) sz 0 0 (23, [some (.ref (D.1 37)), some (.int (nI a)), none], [.int (nI (wos F 1 36)), .int (nI (wos F 0 36))])
  refine Z_run C it_Mm_worthShare 1 (f2 := (24, [some (.ref (D.1 37)), some (.int (nI a)), none], [.int (nI (wos F 0 36) + nI (wos F 1 36))])) rfl ?_
  rw [nI_add (wos F 0 36) (wos F 1 36)]
  refine Z_run C it_Mm_worthShare 2 (f2 := (26, [some (.ref (D.1 37)), some (.int (nI a)), some (.int (nI (wos F 0 36 + wos F 1 36)))], [.int (nI (wos F 0 36 + wos F 1 36))])) rfl ?_
  refine Z_br C it_Mm_worthShare rfl rfl (fun hc2 => ?_) (fun hc2 => ?_)
  · have hc2z : ¬ nI (wos F 0 36 + wos F 1 36) = 0 := hc2
    refine Z_run C it_Mm_worthShare 2 (f2 := (35, [some (.ref (D.1 37)), some (.int (nI a)), some (.int (nI (wos F 0 36 + wos F 1 36)))], [.int (nI a), .ref (D.1 37)])) rfl ?_
    refine Zr_callV C it_Mm_worthShare hD rfl p_Mm_all ml_Mm_155 37 (by decide) rfl rfl [.int (nI a)] (ct_Mm_all_z C.ev C.l hD (vset V 37 8 (nI 0)) P _ F hF hz a (by first | assumption | omega) _) rfl rfl ⟨by decide, by decide, by decide, by decide⟩ (Nat.le_of_ble_eq_true rfl) rfl ?_
    show Z E G (HM D (vset V 37 8 (nI 0)) P PH) sz 0 0 (38, [some (.ref (D.1 37)), some (.int (nI a)), some (.int (nI (wos F 0 36 + wos F 1 36)))], [.int (nI (wos F a 36))])
    refine Z_run C it_Mm_worthShare 3 (f2 := (41, [some (.ref (D.1 37)), some (.int (nI a)), some (.int (nI (wos F 0 36 + wos F 1 36)))], [.double (FP.i2d (nI (wos F 0 36 + wos F 1 36))), .double (FP.i2d (nI (wos F a 36)))])) rfl ?_
    refine Z_ddiv C it_Mm_worthShare rfl (fq_n (fun z9 => hc2z z9)) ?_
    exact Z_dret C q.e it_Mm_worthShare rfl (zRet_d (by unfold shq; rw [if_neg (fun z9 => hc2z (by rw [z9]; rfl))]) (by first | rfl | (simp only [vset_2]))) (by decide) (by decide)
  · have hc0 : (wos F 0 36 + wos F 1 36) = 0 := (nI_e0 (by omega)).mp (Classical.not_not.mp hc2)
    refine Z_run C it_Mm_worthShare 2 (f2 := (42, [some (.ref (D.1 37)), some (.int (nI a)), some (.int (nI (wos F 0 36 + wos F 1 36)))], [.double FP.dconst0])) rfl ?_
    exact Z_dret C q.e it_Mm_worthShare rfl (zRet_d (by unfold shq; rw [if_pos hc0]) (by first | rfl | (simp only [vset_2]))) (by decide) (by decide)
set_option maxRecDepth 20000 in
theorem ct_Mm_worthShare_x1 {E : zE} (hE : zEv E) {l : Launch} (hl : l.stackTraces = false) {D : zD} (hD : zDok E D) (V : Nat → Nat → Int32) (P : Nat → Nat → Value) (PH : aH) (a : Nat) (h32 : a < 4294967296) (ha : 2 ≤ a) (sz : Nat) : zM E l y_Mm_worthShare [.code y_Mm_worthShare c_Mm_worthShare 3 (some .double)] rm_Mm_worthShare [.ref (D.1 37), .int (nI a)] (HM D V P PH) sz (zRet (some (.double FP.dconst0)) (HM D (vset V 37 8 (nI 1)) P PH) sz) := by
  refine zM_of hE hl (by decide +kernel) [some (.ref (D.1 37)), some (.int (nI a)), none] ⟨rfl, rfl, Nat.le_of_ble_eq_true rfl⟩ ?_
  intro G C q htb
  refine Z_run C it_Mm_worthShare 2 (f2 := (2, [some (.ref (D.1 37)), some (.int (nI a)), none], [.int (nI a), .ref (D.1 37)])) rfl ?_
  refine Zr_callS C it_Mm_worthShare rfl p_Mm_isSide ml_Mm_91 [.int (nI a)] (ct_Mm_isSide_f C.ev C.l a (by omega) (by omega) (HM D V P PH) _) rfl rfl ⟨by decide, by decide, by decide, by decide⟩ (Nat.le_of_ble_eq_true rfl) rfl ?_
  show Z E G (HM D V P PH) sz 0 0 (5, [some (.ref (D.1 37)), some (.int (nI a)), none], [.int (nI 0), .ref (D.1 37)])
  refine Zr_callV C it_Mm_worthShare hD rfl p_Mm_asks ml_Mm_40 37 (by decide) rfl rfl [.int (nI 0)] (ct_Mm_asks_f C.ev C.l hD V P _ _) rfl rfl ⟨by decide, by decide, by decide, by decide⟩ (Nat.le_of_ble_eq_true rfl) rfl ?_
  show Z E G (HM D (vset V 37 8 (nI 1)) P PH) sz 0 0 (8, [some (.ref (D.1 37)), some (.int (nI a)), none], [.int (nI 0)])
  refine Z_br C it_Mm_worthShare rfl rfl (fun hc1 => absurd hc1 (by decide)) (fun hc1 => ?_)
  refine Z_run C it_Mm_worthShare 1 (f2 := (12, [some (.ref (D.1 37)), some (.int (nI a)), none], [.double FP.dconst0])) rfl ?_
  exact Z_dret C q.e it_Mm_worthShare rfl (zRet_d (rfl) (by first | rfl | (simp only [vset_2]))) (by decide) (by decide)
/-- the class's memory behind a move -/
def mvC (V : Nat → Nat → Int32) (L : List zPos) (tn md : Nat) (ch : Option Nat) (a b : Nat) : Nat → Nat → Int32 := vset (mvV V a b tn md (ldr (bF V 2 b))) 1 5 (bI (ovr (if ldr (bF V 2 b) then some tn else ch) (n1t (1 - tn) (mvF (bF V 2) a b) L) (mvs (mvF (bF V 2) a b) (1 - tn) 36)))
def mvL (V : Nat → Nat → Int32) (L : List zPos) (tn a b : Nat) : List zPos := (1 - tn, pq4 (mvF (bF V 2) a b), n1t (1 - tn) (mvF (bF V 2) a b) L) :: L
/-- a position more -/
theorem chn_new {PH : aH} {v : Value} {L : List zPos} {q0 : Nat} {p : zPos} (hch : chn PH v L) (hp : zPok p) (hq : PH q0 = none) : chn (hset PH q0 (pcl v p.1 p.2.1 p.2.2)) (.ref q0) (p :: L) := ⟨q0, v, rfl, hset_s, hp, chn_set hq hch⟩
def zEpl (D : zD) (W : Nat → Nat → Int32) (Q : Nat → Nat → Value) (PH : aH) (L : List zPos) (x : Int32) : zO := fun o h2 sz2 => ∃ (P2 : Nat → Nat → Value) (PH2 : aH), o = .inl (some (.int x)) ∧ h2 = HM D W P2 PH2 ∧ chn PH2 (P2 1 7) L ∧ okP D PH2 ∧ okS D PH2 sz2 ∧ (∀ c, c ≠ 1 → P2 c = Q c) ∧ ∀ q c, PH q = some c → PH2 q = some c
set_option maxRecDepth 20000 in
set_option maxHeartbeats 1000000 in
theorem lp_Xx_play {E : zE} {G : zG} {O : zO} (C : zCx E G c_Xx_play 5 y_Xx_play.cls y_Xx_play.name (some .int) rm_Xx_play) (q : zEndX E G O rm_Xx_play.cells rm_Xx_play.slots)  {D : zD} (hD : zDok E D) {T : Nat → Nat} {n9 : Nat} {Q : Nat → Nat → Value} {PH0 : aH} {Vs : Nat → Nat → Nat → Int32} {Ls : Nat → List zPos} {tns mds : Nat → Nat} {ovs : Nat → Bool} {chs9 : Nat → Option Nat} {aa bb : Nat → Nat} {N M : Nat} (hS : ∀ k, k ≤ N → okF (bF (Vs k) 2) ∧ tns k < 2 ∧ Vs k 1 3 = nI (tns k) ∧ Vs k 1 4 = nI (mds k) ∧ Vs k 1 5 = bI (ovs k) ∧ Vs k 1 6 = oI (chs9 k) ∧ (∀ j, chs9 k = some j → j < 2) ∧ (∀ t F, n1t t F (Ls k) < 2 ^ 31) ∧ okT (Vs k) T ∧ Vs k 33 1 = nI n9) (hst : ∀ k, k < N → rsn (Ls k) (ovs k) (bF (Vs k) 2) (tns k) (aa k) (bb k) = 0 ∧ Vs (k + 1) = mvC (Vs k) (Ls k) (tns k) (mds k) (chs9 k) (aa k) (bb k) ∧ Ls (k + 1) = mvL (Vs k) (Ls k) (tns k) (aa k) (bb k)) (hen : N < M → rsn (Ls N) (ovs N) (bF (Vs N) 2) (tns N) (aa N) (bb N) ≠ 0) (hNM : N ≤ M) (hM12 : M ≤ 12) (htx : ∀ k, k < M → 49 ≤ T (5 * k + 1) ∧ 97 ≤ T (5 * k) ∧ 49 ≤ T (5 * k + 2 + 1) ∧ 97 ≤ T (5 * k + 2) ∧ sqa T (5 * k) = aa k ∧ sqa T (5 * k + 2) = bb k ∧ aa k < 36 ∧ bb k < 36) (hO : ∀ (P2 : Nat → Nat → Value) (PH2 : aH) (sz2 : Nat), chn PH2 (P2 1 7) (Ls N) → okP D PH2 → okS D PH2 sz2 → (∀ c, c ≠ 1 → P2 c = Q c) → (∀ q c, PH0 q = some c → PH2 q = some c) → O (.inl (some (.int (nI N)))) (HM D (Vs N) P2 PH2) sz2) : ∀ (j i : Nat) (P : Nat → Nat → Value) (PH : aH) (sz : Nat), N - i < j → i ≤ N → chn PH (P 1 7) (Ls i) → okP D PH → okS D PH sz → (∀ c, c ≠ 1 → P c = Q c) → (∀ q c, PH0 q = some c → PH q = some c) → Z E G (HM D (Vs i) P PH) sz (1 + i) (6 + 7 * i) (41, [some (.ref (D.1 0)), some (.int (nI M)), some (.int (nI i)), none, none], []) := by
  intro j
  induction j with
  | zero => intro i P PH sz h1 h2; omega
  | succ j ih =>
    intro i P PH sz h1 h2 hch hP hs hQ hsub
    obtain ⟨hF, htn, hT3, hMd, hO5, hCh, hcz, h31, hT, hn9⟩ := hS i h2
    obtain ⟨W, eW⟩ : ∃ f, f = Vs i := ⟨_, rfl⟩
    obtain ⟨L, eL⟩ : ∃ f, f = Ls i := ⟨_, rfl⟩
    rw [← eW] at hF hT3 hMd hO5 hCh hT hn9
    rw [← eL] at h31 hch
    rw [← eW]
    refine Z_run C it_Xx_play 2 (f2 := (43, [some (.ref (D.1 0)), some (.int (nI M)), some (.int (nI i)), none, none], [.int (nI M), .int (nI i)])) rfl ?_
    refine Z_br C it_Xx_play rfl rfl (fun hc1 => ?_) (fun hc1 => ?_)
    · have hge : M ≤ i := (nI_leI (a := M) (b := i) (by omega) (by omega)).mp hc1
      refine Z_run C it_Xx_play 1 (f2 := (98, [some (.ref (D.1 0)), some (.int (nI M)), some (.int (nI i)), none, none], [.int (nI M)])) rfl ?_
      exact Z_iret C q.e it_Xx_play rfl ((by have g : i = N := (by omega); have g2 : M = N := (by omega); rw [g2, eW]; subst g; rw [eL] at hch; exact hO P PH sz hch hP hs hQ hsub)) (by show 1 + i ≤ 13; omega) (by show 6 + 7 * i ≤ 90; omega)
    · have hge : ¬ M ≤ i := fun z9 => hc1 ((nI_leI (a := M) (b := i) (by omega) (by omega)).mpr z9)
      have hiM : i < M := by omega
      obtain ⟨x1, x2, x3, x4, e1, e2, ha, hb⟩ := htx i hiM
      refine Z_run C it_Xx_play 1 (f2 := (47, [some (.ref (D.1 0)), some (.int (nI M)), some (.int (nI i)), none, none], [.ref (D.1 0)])) rfl ?_
      refine Zm_get C it_Xx_play hD rfl 0 wi_Xx (by decide) rfl rfl (j := 2) (by decide) fl_Xx_26 (v := .ref (D.1 33)) rfl ?_
      refine Z_run C it_Xx_play 1 (f2 := (51, [some (.ref (D.1 0)), some (.int (nI M)), some (.int (nI i)), none, none], [.int (nI i), .ref (D.1 33)])) rfl ?_
      refine Zr_callV C it_Xx_play hD rfl p_Tx_firstSquareOf ml_Xx_100 33 (by decide) rfl rfl [.int (nI i)] (ct_Tx_firstSquareOf C.ev C.l hD W P _ T hT i (by omega) x1 x2 _) rfl rfl ⟨by decide, by decide, (by show 1 + i + 0 ≤ 13; omega), (by show 6 + 7 * i + 0 ≤ 90; omega)⟩ (Nat.le_of_ble_eq_true rfl) rfl ?_
      rw [e1]
      show Z E G (HM D W P PH) sz (1 + i) (6 + 7 * i) (54, [some (.ref (D.1 0)), some (.int (nI M)), some (.int (nI i)), none, none], [.int (nI (aa i))])
      refine Z_run C it_Xx_play 2 (f2 := (56, [some (.ref (D.1 0)), some (.int (nI M)), some (.int (nI i)), some (.int (nI (aa i))), none], [.ref (D.1 0)])) rfl ?_
      refine Zm_get C it_Xx_play hD rfl 0 wi_Xx (by decide) rfl rfl (j := 2) (by decide) fl_Xx_26 (v := .ref (D.1 33)) rfl ?_
      refine Z_run C it_Xx_play 1 (f2 := (60, [some (.ref (D.1 0)), some (.int (nI M)), some (.int (nI i)), some (.int (nI (aa i))), none], [.int (nI i), .ref (D.1 33)])) rfl ?_
      refine Zr_callV C it_Xx_play hD rfl p_Tx_secondSquareOf ml_Xx_103 33 (by decide) rfl rfl [.int (nI i)] (ct_Tx_secondSquareOf C.ev C.l hD W P _ T hT i (by omega) x3 x4 _) rfl rfl ⟨by decide, by decide, (by show 1 + i + 0 ≤ 13; omega), (by show 6 + 7 * i + 0 ≤ 90; omega)⟩ (Nat.le_of_ble_eq_true rfl) rfl ?_
      rw [e2]
      show Z E G (HM D W P PH) sz (1 + i) (6 + 7 * i) (63, [some (.ref (D.1 0)), some (.int (nI M)), some (.int (nI i)), some (.int (nI (aa i))), none], [.int (nI (bb i))])
      refine Z_run C it_Xx_play 2 (f2 := (66, [some (.ref (D.1 0)), some (.int (nI M)), some (.int (nI i)), some (.int (nI (aa i))), some (.int (nI (bb i)))], [.ref (D.1 0)])) rfl ?_
      refine Zm_get C it_Xx_play hD rfl 0 wi_Xx (by decide) rfl rfl (j := 0) (by decide) fl_Xx_10 (v := .ref (D.1 1)) rfl ?_
      refine Z_run C it_Xx_play 2 (f2 := (72, [some (.ref (D.1 0)), some (.int (nI M)), some (.int (nI i)), some (.int (nI (aa i))), some (.int (nI (bb i)))], [.int (nI (bb i)), .int (nI (aa i)), .ref (D.1 1)])) rfl ?_
      refine Zr_callV C it_Xx_play hD rfl p_Gm_reasonAgainst ml_Xx_80 1 (by decide) rfl rfl [.int (nI (aa i)), .int (nI (bb i))] (ct_Gm_reasonAgainst C.ev C.l hD W P _ hF L hch (tns i) htn hT3 (ovs i) hO5 (aa i) ha (bb i) hb _) rfl rfl ⟨by decide, by decide, (by show 1 + i + 0 ≤ 13; omega), (by show 6 + 7 * i + 0 ≤ 90; omega)⟩ (Nat.le_of_ble_eq_true rfl) rfl ?_
      show Z E G (HM D W P PH) sz (1 + i) (6 + 7 * i) (75, [some (.ref (D.1 0)), some (.int (nI M)), some (.int (nI i)), some (.int (nI (aa i))), some (.int (nI (bb i)))], [.int (nI (rsn L (ovs i) (bF W 2) (tns i) (aa i) (bb i)))])
      have hwl := rsn_le L (ovs i) (bF W 2) (tns i) (aa i) (bb i)
      refine Z_br C it_Xx_play rfl rfl (fun hc2 => ?_) (fun hc2 => ?_)
      · have hw0 : rsn L (ovs i) (bF W 2) (tns i) (aa i) (bb i) = 0 := (nI_e0 (by omega)).mp hc2
        have hiN : i < N := by
          by_cases g : i = N
          · exact absurd (by rw [eW, eL, g] at hw0; exact hw0) (hen (by omega))
          · omega
        refine Z_run C it_Xx_play 1 (f2 := (81, [some (.ref (D.1 0)), some (.int (nI M)), some (.int (nI i)), some (.int (nI (aa i))), some (.int (nI (bb i)))], [.ref (D.1 0)])) rfl ?_
        refine Zm_get C it_Xx_play hD rfl 0 wi_Xx (by decide) rfl rfl (j := 0) (by decide) fl_Xx_10 (v := .ref (D.1 1)) rfl ?_
        refine Z_run C it_Xx_play 2 (f2 := (87, [some (.ref (D.1 0)), some (.int (nI M)), some (.int (nI i)), some (.int (nI (aa i))), some (.int (nI (bb i)))], [.int (nI (bb i)), .int (nI (aa i)), .ref (D.1 1)])) rfl ?_
        refine Zr_newP C it_Xx_play hD rfl p_Gm_makeMove ml_Xx_86 1 (by decide) rfl rfl [.int (nI (aa i)), .int (nI (bb i))] (ct_Gm_makeMove C.ev C.l hD W P _ hF L hch (tns i) htn hT3 (mds i) hMd (chs9 i) hCh hcz h31 hP (aa i) ha (bb i) hb _ hs) rfl rfl ⟨by decide, by decide, (by show 1 + i + 1 ≤ 13; omega), (by show 6 + 7 * i + 7 ≤ 90; omega)⟩ (Nat.le_of_ble_eq_true rfl) rfl (fun q0 h1q h2q h3q => ?_)
        show Z E G (HM D (mvC W L (tns i) (mds i) (chs9 i) (aa i) (bb i)) (pset P 1 7 (.ref q0)) (hset PH q0 (pcl (P 1 7) (1 - tns i) (pq4 (mvF (bF W 2) (aa i) (bb i))) (n1t (1 - tns i) (mvF (bF W 2) (aa i) (bb i)) L)))) (q0 + 1) (1 + (i + 1)) (6 + 7 * (i + 1)) (90, [some (.ref (D.1 0)), some (.int (nI M)), some (.int (nI i)), some (.int (nI (aa i))), some (.int (nI (bb i)))], [.int (nI (wr (bF W 2 (bb i))))])
        refine Z_run C it_Xx_play 2 (f2 := (94, [some (.ref (D.1 0)), some (.int (nI M)), some (.int (nI i + nI 1)), some (.int (nI (aa i))), some (.int (nI (bb i)))], [])) rfl ?_
        rw [nI_add i 1]
        refine Z_run C it_Xx_play 1 (f2 := (41, [some (.ref (D.1 0)), some (.int (nI M)), some (.int (nI (i + 1))), some (.int (nI (aa i))), some (.int (nI (bb i)))], [])) rfl ?_
        refine Z_sub (ls2 := [some (.ref (D.1 0)), some (.int (nI M)), some (.int (nI (i + 1))), none, none]) (by simp [zsubl]) ?_
        have eV2 : (mvC W L (tns i) (mds i) (chs9 i) (aa i) (bb i)) = Vs (i + 1) := by rw [eW, eL]; exact (hst i hiN).2.1.symm
        rw [eV2]
        have eL2 : mvL W L (tns i) (aa i) (bb i) = Ls (i + 1) := by rw [eW, eL]; exact (hst i hiN).2.2.symm
        have hpk : zPok ((1 - tns i, pq4 (mvF (bF W 2) (aa i) (bb i)), n1t (1 - tns i) (mvF (bF W 2) (aa i) (bb i)) L) : zPos) := ⟨by show 1 - tns i < 2; omega, fun j hj => qtr_63 (okF_mv hF ha) (by omega) (by omega), h31 _ _⟩
        refine ih (i + 1) _ _ _ (by omega) (by omega) ?_ (okP_set hP h2q) (okS_set hs h1q) (fun c hc => by rw [pset_n hc]; exact hQ c hc) (fun q c hqc => hset_o h3q (hsub q c hqc))
        rw [← eL2]
        exact chn_new hch hpk h3q
      · have hw0 : ¬ rsn L (ovs i) (bF W 2) (tns i) (aa i) (bb i) = 0 := fun z9 => hc2 ((nI_e0 (by omega)).mpr z9)
        have hiN : i = N := by
          by_cases g : i < N
          · exact absurd (by rw [eW, eL]; exact (hst i g).1) hw0
          · omega
        refine Z_run C it_Xx_play 1 (f2 := (79, [some (.ref (D.1 0)), some (.int (nI M)), some (.int (nI i)), some (.int (nI (aa i))), some (.int (nI (bb i)))], [.int (nI i)])) rfl ?_
        exact Z_iret C q.e it_Xx_play rfl ((by rw [eW]; subst hiN; rw [eL] at hch; exact hO P PH sz hch hP hs hQ hsub)) (by show 1 + i ≤ 13; omega) (by show 6 + 7 * i ≤ 90; omega)
set_option maxRecDepth 20000 in
theorem ct_Xx_play {E : zE} (hE : zEv E) {l : Launch} (hl : l.stackTraces = false) {D : zD} (hD : zDok E D) (V : Nat → Nat → Int32) (P : Nat → Nat → Value) (PH : aH) (hF : okF (bF V 2)) (L : List zPos) (hch : chn PH (P 1 7) L) (gs : Nat → Nat) (hgs : isH D P gs) (n : Nat) (hn : V 6 1 = nI n) (h5n : n ≤ 5) (h5 : V 1 5 = 0 ∨ V 1 5 = 1) (h7 : P 1 7 = .null ∨ ∃ q, P 1 7 = .ref q) (W : Nat → Nat → Int32) (Q : Nat → Nat → Value) (hW : rmV V gs n = W) (hQ : rmP D P gs n = Q) (hWr : ∀ c, c < 6 ∨ 33 ≤ c → W c = V c) (hQr : ∀ c, c < 6 ∨ 33 ≤ c → Q c = P c) (T : Nat → Nat) (hT : okT V T) (n9 : Nat) (hn9 : V 33 1 = nI n9) (hn6 : n9 ≤ 60) (hl9 : lis T n9 = true) (hP : okP D PH) (Vs : Nat → Nat → Nat → Int32) (Ls : Nat → List zPos) (tns mds : Nat → Nat) (ovs : Nat → Bool) (chs9 : Nat → Option Nat) (aa bb : Nat → Nat) (N M : Nat) (hS : ∀ k, k ≤ N → okF (bF (Vs k) 2) ∧ tns k < 2 ∧ Vs k 1 3 = nI (tns k) ∧ Vs k 1 4 = nI (mds k) ∧ Vs k 1 5 = bI (ovs k) ∧ Vs k 1 6 = oI (chs9 k) ∧ (∀ j, chs9 k = some j → j < 2) ∧ (∀ t F, n1t t F (Ls k) < 2 ^ 31) ∧ okT (Vs k) T ∧ Vs k 33 1 = nI n9) (hst : ∀ k, k < N → rsn (Ls k) (ovs k) (bF (Vs k) 2) (tns k) (aa k) (bb k) = 0 ∧ Vs (k + 1) = mvC (Vs k) (Ls k) (tns k) (mds k) (chs9 k) (aa k) (bb k) ∧ Ls (k + 1) = mvL (Vs k) (Ls k) (tns k) (aa k) (bb k)) (hen : N < M → rsn (Ls N) (ovs N) (bF (Vs N) 2) (tns N) (aa N) (bb N) ≠ 0) (hNM : N ≤ M) (hM12 : M ≤ 12) (htx : ∀ k, k < M → 49 ≤ T (5 * k + 1) ∧ 97 ≤ T (5 * k) ∧ 49 ≤ T (5 * k + 2 + 1) ∧ 97 ≤ T (5 * k + 2) ∧ sqa T (5 * k) = aa k ∧ sqa T (5 * k + 2) = bb k ∧ aa k < 36 ∧ bb k < 36) (hM5 : (n9 + 1) / 5 = M) (hV0 : Vs 0 = W) (hL0 : Ls 0 = L) (sz : Nat) (hs : okS D PH sz) : zM E l y_Xx_play [.code y_Xx_play c_Xx_play 5 (some .int)] rm_Xx_play [.ref (D.1 0)] (HM D V P PH) sz (zEpl D (Vs N) Q PH (Ls N) (nI N)) := by
  refine zM_of hE hl (by decide +kernel) [some (.ref (D.1 0)), none, none, none, none] ⟨rfl, rfl, Nat.le_of_ble_eq_true rfl⟩ ?_
  intro G C q htb
  refine Z_run C it_Xx_play 1 (f2 := (1, [some (.ref (D.1 0)), none, none, none, none], [.ref (D.1 0)])) rfl ?_
  refine Zm_get C it_Xx_play hD rfl 0 wi_Xx (by decide) rfl rfl (j := 2) (by decide) fl_Xx_26 (v := .ref (D.1 33)) rfl ?_
  refine Zr_callV C it_Xx_play hD rfl p_Tx_isList ml_Xx_89 33 (by decide) rfl rfl [] (ct_Tx_isList C.ev C.l hD _ _ _ T hT n9 hn9 hn6 _) rfl rfl ⟨by decide, by decide, by decide, by decide⟩ (Nat.le_of_ble_eq_true rfl) rfl ?_
  show Z E G (HM D V P PH) sz 0 0 (7, [some (.ref (D.1 0)), none, none, none, none], [.int (bI (lis T n9))])
  refine Z_br C it_Xx_play rfl rfl (fun hc1 => ?_) (fun hc1 => ?_)
  · skip
    refine Z_run C it_Xx_play 1 (f2 := (21, [some (.ref (D.1 0)), none, none, none, none], [.ref (D.1 0)])) rfl ?_
    refine Zm_get C it_Xx_play hD rfl 0 wi_Xx (by decide) rfl rfl (j := 1) (by decide) fl_Xx_19 (v := .ref (D.1 6)) rfl ?_
    refine Z_run C it_Xx_play 1 (f2 := (25, [some (.ref (D.1 0)), none, none, none, none], [.ref (D.1 0), .ref (D.1 6)])) rfl ?_
    refine Zm_get C it_Xx_play hD rfl 0 wi_Xx (by decide) rfl rfl (j := 0) (by decide) fl_Xx_10 (v := .ref (D.1 1)) rfl ?_
    refine Zr_callV C it_Xx_play hD rfl p_Hs_remember ml_Xx_63 6 (by decide) rfl rfl [.ref (D.1 1)] (ct_Hs_remember C.ev C.l hD _ _ _ gs hgs n hn h5n h5 h7 _) rfl rfl ⟨by decide, by decide, by decide, by decide⟩ (Nat.le_of_ble_eq_true rfl) rfl ?_
    show Z E G (HM D (rmV V gs n) (rmP D P gs n) PH) sz 0 0 (31, [some (.ref (D.1 0)), none, none, none, none], [])
    rw [hW, hQ]
    have hFW : okF (bF W 2) := by rw [bF_W hWr]; exact hF
    show Z E G (HM D W Q PH) sz 0 0 (31, [some (.ref (D.1 0)), none, none, none, none], [])
    refine Z_run C it_Xx_play 1 (f2 := (32, [some (.ref (D.1 0)), none, none, none, none], [.ref (D.1 0)])) rfl ?_
    refine Zm_get C it_Xx_play hD rfl 0 wi_Xx (by decide) rfl rfl (j := 2) (by decide) fl_Xx_26 (v := .ref (D.1 33)) rfl ?_
    refine Zr_callV C it_Xx_play hD rfl p_Tx_movesListed ml_Xx_97 33 (by decide) rfl rfl [] (ct_Tx_movesListed C.ev C.l hD W _ _ n9 (by rw [hWr 33 (by omega)]; exact hn9) hn6 _) rfl rfl ⟨by decide, by decide, by decide, by decide⟩ (Nat.le_of_ble_eq_true rfl) rfl ?_
    show Z E G (HM D W Q PH) sz 0 0 (38, [some (.ref (D.1 0)), none, none, none, none], [.int (nI ((n9 + 1) / 5))])
    refine Z_run C it_Xx_play 3 (f2 := (41, [some (.ref (D.1 0)), some (.int (nI ((n9 + 1) / 5))), some (.int (nI 0)), none, none], [])) rfl ?_
    have e1 : nI ((n9 + 1) / 5) = nI M := by rw [hM5]
    rw [e1]
    refine Z_widen (k2 := 1 + 0) (n2 := 6 + 7 * 0) (by decide) (by decide) ?_
    have hchW : chn PH (Q 1 7) L := by rw [hQr 1 (by omega)]; exact hch
    rw [← hV0]
    exact lp_Xx_play C q hD (T := T) (n9 := n9) (Q := Q) (PH0 := PH) hS hst hen hNM hM12 htx (fun P2 PH2 sz2 g1 g2 g3 g4 g5 => ⟨P2, PH2, rfl, rfl, g1, g2, g3, g4, g5⟩) (N + 1) 0 Q PH sz (by omega) (by omega) (by rw [hL0]; exact hchW) hP hs (fun c hc => rfl) (fun q c hqc => hqc)
  · exact absurd (bI_0.mp (Classical.not_not.mp hc1)) (by rw [hl9]; decide)
set_option maxRecDepth 20000 in
theorem ct_Xx_play_x {E : zE} (hE : zEv E) {l : Launch} (hl : l.stackTraces = false) {D : zD} (hD : zDok E D) (V : Nat → Nat → Int32) (P : Nat → Nat → Value) (PH : aH) (T : Nat → Nat) (hT : okT V T) (n9 : Nat) (hn9 : V 33 1 = nI n9) (hn6 : n9 ≤ 60) (hl9 : lis T n9 = false) (sz : Nat) : zM E l y_Xx_play [.code y_Xx_play c_Xx_play 5 (some .int)] rm_Xx_play [.ref (D.1 0)] (HM D V P PH) sz (zThr X_IAE (HM D V P PH) sz) := by
  refine zM_of hE hl (by decide +kernel) [some (.ref (D.1 0)), none, none, none, none] ⟨rfl, rfl, Nat.le_of_ble_eq_true rfl⟩ ?_
  intro G C q htb
  refine Z_run C it_Xx_play 1 (f2 := (1, [some (.ref (D.1 0)), none, none, none, none], [.ref (D.1 0)])) rfl ?_
  refine Zm_get C it_Xx_play hD rfl 0 wi_Xx (by decide) rfl rfl (j := 2) (by decide) fl_Xx_26 (v := .ref (D.1 33)) rfl ?_
  refine Zr_callV C it_Xx_play hD rfl p_Tx_isList ml_Xx_89 33 (by decide) rfl rfl [] (ct_Tx_isList C.ev C.l hD _ _ _ T hT n9 hn9 hn6 _) rfl rfl ⟨by decide, by decide, by decide, by decide⟩ (Nat.le_of_ble_eq_true rfl) rfl ?_
  show Z E G (HM D V P PH) sz 0 0 (7, [some (.ref (D.1 0)), none, none, none, none], [.int (bI (lis T n9))])
  refine Z_br C it_Xx_play rfl rfl (fun hc1 => ?_) (fun hc1 => ?_)
  · exact absurd (bI_1.mp hc1) (by rw [hl9]; decide)
  · skip
    exact Z_throw C q htb it_Xx_play tw_Xx_94 rfl rfl rfl rfl rfl rfl ⟨by decide, Nat.le_of_ble_eq_true rfl, by decide, by decide⟩ (⟨rfl, rfl, rfl⟩) (by decide) (by decide)
