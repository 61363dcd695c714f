/-! ===== the model: pieces, checks; a piece p of the class is mo p there ===== -/
theorem nI_le0 {a : Nat} (h : a < 2 ^ 31) : nI a ≤ 0 ↔ a = 0 := by
  rw [← nI_0]
  rw [nI_leI h (by decide)]
  omega
theorem nI_gt0 {a : Nat} (h : a < 2 ^ 31) : 0 < nI a ↔ 0 < a := by
  rw [← nI_0]
  exact nI_ltI (by decide) h
def mo (p : Nat) : Nat := if p = 0 then 0 else p + 1
theorem mo_lt {p : Nat} (h : p < 128) : mo p < 129 := by unfold mo; split <;> omega
theorem mo_0 {p : Nat} : mo p = 0 ↔ p = 0 := by unfold mo; split <;> omega
def sdo (p : Nat) : Option Nat := if p = 0 then none else some (sd p)
theorem sdo_s : ∀ p, p < 128 → ∀ s, s < 2 → (oI (sdo p) = nI s ↔ (p != 0 && sd p == s) = true) := by decide +kernel
theorem sdo_hld {F : Nat → Nat} {k s : Nat} (h : F k < 128) (hs : s < 2) : oI (sdo (F k)) = nI s ↔ hld F k s = true := sdo_s (F k) h s hs
theorem sdo_n {F : Nat → Nat} {k s : Nat} (h : F k < 128) (hs : s < 2) : ¬ oI (sdo (F k)) = nI s ↔ hld F k s = false := by
  rw [sdo_hld h hs]
  simp
def lra (a v : Nat) : Nat := a ||| lrn a v
theorem in_c {a lo hi : Nat} (h32 : a < 4294967296) (hlo : lo < 2147483648) (hhi : hi < 2147483648) (h1 : ¬ nI a < nI lo) (h2 : ¬ nI hi < nI a) : lo ≤ a ∧ a ≤ hi := by
  by_cases h3 : a < 2147483648
  · refine ⟨?_, ?_⟩
    · by_cases h4 : lo ≤ a
      · exact h4
      · exact absurd ((nI_ltI (a := a) (b := lo) (by omega) (by omega)).mpr (by omega)) h1
    · by_cases h4 : a ≤ hi
      · exact h4
      · exact absurd ((nI_ltI (a := hi) (b := a) (by omega) (by omega)).mpr (by omega)) h2
  · exfalso
    refine h1 (Int32.lt_of_lt_of_le (nI_neg (a := a) (by omega) h32) ?_)
    rw [← nI_0]
    exact (nI_leI (by decide) (by omega)).mpr (Nat.zero_le _)
def thn (th : Nat) (b : Bool) (k : Nat) : Nat := if th = 0 then (if b then 0 else k) else th
theorem tm_1 : ∀ p, p < 128 → p ≠ 0 → (nI (mo p) - nI 1) / nI 64 = oI (sdo p) := by decide +kernel
set_option maxRecDepth 20000 in
theorem ct_Mm_sideOf {E : zE} (hE : zEv E) {l : Launch} (hl : l.stackTraces = false) (p : Nat) (hp : p < 128) (h : aH) (sz : Nat) : zM E l y_Mm_sideOf [.code y_Mm_sideOf c_Mm_sideOf 1 (some .int)] rm_Mm_sideOf [.int (nI (mo p))] h sz (zRet (some (.int (oI (sdo p)))) h sz) := by
  refine zM_of hE hl (by decide +kernel) [some (.int (nI (mo p)))] ⟨rfl, rfl, Nat.le_of_ble_eq_true rfl⟩ ?_
  intro G C q htb
  have hmp := mo_lt hp
  refine Z_run C it_Mm_sideOf 1 (f2 := (1, [some (.int (nI (mo p)))], [.int (nI (mo p))])) rfl ?_
  refine Z_br C it_Mm_sideOf rfl rfl (fun hc1 => ?_) (fun hc1 => ?_)
  · have hpn : p ≠ 0 := fun z9 => hc1 (by rw [z9]; rfl)
    refine Z_run C it_Mm_sideOf 5 (f2 := (14, [some (.int (nI (mo p)))], [.int ((nI (mo p) - nI 1) / nI 64)])) rfl ?_
    exact Z_iret C q.e it_Mm_sideOf rfl (zRet_i (tm_1 p hp hpn)) (by decide) (by decide)
  · have hp0 : p = 0 := mo_0.mp ((nI_e0 (by omega)).mp (Classical.not_not.mp hc1))
    refine Z_run C it_Mm_sideOf 2 (f2 := (14, [some (.int (nI (mo p)))], [.int ((-1))])) rfl ?_
    exact Z_iret C q.e it_Mm_sideOf rfl (zRet_i (by rw [hp0]; rfl)) (by decide) (by decide)
theorem tm_2 : ∀ p, p < 128 → p ≠ 0 → (nI (mo p) - nI 1) % nI 32 = nI (stp p) := by decide +kernel
set_option maxRecDepth 20000 in
theorem ct_Mm_stepsOf {E : zE} (hE : zEv E) {l : Launch} (hl : l.stackTraces = false) (p : Nat) (hp : p < 128) (hp0 : p ≠ 0) (h : aH) (sz : Nat) : zM E l y_Mm_stepsOf [.code y_Mm_stepsOf c_Mm_stepsOf 1 (some .int)] rm_Mm_stepsOf [.int (nI (mo p))] h sz (zRet (some (.int (nI (stp p)))) h sz) := by
  refine zM_of hE hl (by decide +kernel) [some (.int (nI (mo p)))] ⟨rfl, rfl, Nat.le_of_ble_eq_true rfl⟩ ?_
  intro G C q htb
  refine Z_run C it_Mm_stepsOf 5 (f2 := (6, [some (.int (nI (mo p)))], [.int ((nI (mo p) - nI 1) % nI 32)])) rfl ?_
  exact Z_iret C q.e it_Mm_stepsOf rfl (zRet_i (tm_2 p hp hp0)) (by decide) (by decide)
theorem tm_3 : ∀ s, s < 32 → ((((nI s &&& nI 1) + ((nI s >>> (nI 1 &&& 31)) &&& nI 1)) + (nI 3 * ((nI s >>> (nI 2 &&& 31)) &&& nI 1))) + (nI 5 * ((nI s >>> (nI 3 &&& 31)) &&& nI 1))) + (nI 3 * ((nI s >>> (nI 4 &&& 31)) &&& nI 1)) = nI (wst s) := by decide +kernel
set_option maxRecDepth 20000 in
theorem ct_Mm_stepsWorth {E : zE} (hE : zEv E) {l : Launch} (hl : l.stackTraces = false) (s : Nat) (hs : s < 32) (h : aH) (sz : Nat) : zM E l y_Mm_stepsWorth [.code y_Mm_stepsWorth c_Mm_stepsWorth 1 (some .int)] rm_Mm_stepsWorth [.int (nI s)] h sz (zRet (some (.int (nI (wst s)))) h sz) := by
  refine zM_of hE hl (by decide +kernel) [some (.int (nI s))] ⟨rfl, rfl, Nat.le_of_ble_eq_true rfl⟩ ?_
  intro G C q htb
  refine Z_run C it_Mm_stepsWorth 33 (f2 := (33, [some (.int (nI s))], [.int (((((nI s &&& nI 1) + ((nI s >>> (nI 1 &&& 31)) &&& nI 1)) + (nI 3 * ((nI s >>> (nI 2 &&& 31)) &&& nI 1))) + (nI 5 * ((nI s >>> (nI 3 &&& 31)) &&& nI 1))) + (nI 3 * ((nI s >>> (nI 4 &&& 31)) &&& nI 1)))])) rfl ?_
  exact Z_iret C q.e it_Mm_stepsWorth rfl (zRet_i (tm_3 s hs)) (by decide) (by decide)
theorem ldr_1 : ∀ p, p < 128 → p ≠ 0 → ((nI (mo p) - nI 1) / nI 32 % nI 2 = nI 1 ↔ ldr p = true) := by decide +kernel
theorem ldr_0 : ldr 0 = false := by decide
set_option maxRecDepth 20000 in
theorem ct_Mm_leads {E : zE} (hE : zEv E) {l : Launch} (hl : l.stackTraces = false) (p : Nat) (hp : p < 128) (h : aH) (sz : Nat) : zM E l y_Mm_leads [.code y_Mm_leads c_Mm_leads 1 (some .boolean)] rm_Mm_leads [.int (nI (mo p))] h sz (zRet (some (.int (bI (ldr p)))) h sz) := by
  refine zM_of hE hl (by decide +kernel) [some (.int (nI (mo p)))] ⟨rfl, rfl, Nat.le_of_ble_eq_true rfl⟩ ?_
  intro G C q htb
  have hmp := mo_lt hp
  refine Z_run C it_Mm_leads 1 (f2 := (1, [some (.int (nI (mo p)))], [.int (nI (mo p))])) rfl ?_
  refine Z_br C it_Mm_leads rfl rfl (fun hc1 => ?_) (fun hc1 => ?_)
  · have hl0 : ldr p = false := by rw [mo_0.mp ((nI_le0 (by omega)).mp hc1)]; rfl
    refine Z_run C it_Mm_leads 1 (f2 := (21, [some (.int (nI (mo p)))], [.int (nI 0)])) rfl ?_
    exact Z_zret C q.e it_Mm_leads rfl (Or.inl rfl) (zRet_i (bI_f hl0)) (by decide) (by decide)
  · have hpn : p ≠ 0 := fun z9 => hc1 ((nI_le0 (by omega)).mpr (mo_0.mpr z9))
    refine Z_run C it_Mm_leads 8 (f2 := (13, [some (.int (nI (mo p)))], [.int (nI 1), .int (((nI (mo p) - nI 1) / nI 32) % nI 2)])) rfl ?_
    refine Z_br C it_Mm_leads rfl rfl (fun hc2 => ?_) (fun hc2 => ?_)
    · have hl0 : ldr p = false := by rw [← Bool.not_eq_true]; exact fun z9 => hc2 ((ldr_1 p hp hpn).mpr z9)
      refine Z_run C it_Mm_leads 1 (f2 := (21, [some (.int (nI (mo p)))], [.int (nI 0)])) rfl ?_
      exact Z_zret C q.e it_Mm_leads rfl (Or.inl rfl) (zRet_i (bI_f hl0)) (by decide) (by decide)
    · have hl1 : ldr p = true := (ldr_1 p hp hpn).mp (Classical.not_not.mp hc2)
      refine Z_run C it_Mm_leads 2 (f2 := (21, [some (.int (nI (mo p)))], [.int (nI 1)])) rfl ?_
      exact Z_zret C q.e it_Mm_leads rfl (Or.inr rfl) (zRet_i (bI_t hl1)) (by decide) (by decide)
set_option maxRecDepth 20000 in
theorem ct_Mm_worthOf {E : zE} (hE : zEv E) {l : Launch} (hl : l.stackTraces = false) (p : Nat) (hp : p < 128) (h : aH) (sz : Nat) : zM E l y_Mm_worthOf [.code y_Mm_worthOf c_Mm_worthOf 1 (some .int)] rm_Mm_worthOf [.int (nI (mo p))] h sz (zRet (some (.int (nI (wr p)))) h sz) := by
  refine zM_of hE hl (by decide +kernel) [some (.int (nI (mo p)))] ⟨rfl, rfl, Nat.le_of_ble_eq_true rfl⟩ ?_
  intro G C q htb
  have hmp := mo_lt hp
  refine Z_run C it_Mm_worthOf 1 (f2 := (1, [some (.int (nI (mo p)))], [.int (nI (mo p))])) rfl ?_
  refine Z_br C it_Mm_worthOf rfl rfl (fun hc1 => ?_) (fun hc1 => ?_)
  · have hpn : p ≠ 0 := fun z9 => hc1 (by rw [z9]; rfl)
    refine Z_run C it_Mm_worthOf 1 (f2 := (9, [some (.int (nI (mo p)))], [.int (nI (mo p))])) rfl ?_
    refine Zr_callS C it_Mm_worthOf rfl p_Mm_stepsOf ml_Mm_48 [.int (nI (mo p))] (ct_Mm_stepsOf C.ev C.l p (by first | assumption | omega) (by first | assumption | omega) h _) rfl rfl ⟨by decide, by decide, by decide, by decide⟩ (Nat.le_of_ble_eq_true rfl) rfl ?_
    show Z E G h sz 0 0 (12, [some (.int (nI (mo p)))], [.int (nI (stp p))])
    refine Zr_callS C it_Mm_worthOf rfl p_Mm_stepsWorth ml_Mm_51 [.int (nI (stp p))] (ct_Mm_stepsWorth C.ev C.l (stp p) (by first | exact stp_lt _ | omega) h _) rfl rfl ⟨by decide, by decide, by decide, by decide⟩ (Nat.le_of_ble_eq_true rfl) rfl ?_
    show Z E G h sz 0 0 (15, [some (.int (nI (mo p)))], [.int (nI (wst (stp p)))])
    refine Z_run C it_Mm_worthOf 1 (f2 := (16, [some (.int (nI (mo p)))], [.int (nI (mo p)), .int (nI (wst (stp p)))])) rfl ?_
    refine Zr_callS C it_Mm_worthOf rfl p_Mm_leads ml_Mm_54 [.int (nI (mo p))] (ct_Mm_leads C.ev C.l p (by first | assumption | omega) h _) rfl rfl ⟨by decide, by decide, by decide, by decide⟩ (Nat.le_of_ble_eq_true rfl) rfl ?_
    show Z E G h sz 0 0 (19, [some (.int (nI (mo p)))], [.int (bI (ldr p)), .int (nI (wst (stp p)))])
    refine Z_br C it_Mm_worthOf rfl rfl (fun hc2 => ?_) (fun hc2 => ?_)
    · replace hc2 := bI_0.mp hc2
      refine Z_run C it_Mm_worthOf 2 (f2 := (29, [some (.int (nI (mo p)))], [.int (nI (wst (stp p)) + nI 0)])) rfl ?_
      rw [nI_add (wst (stp p)) 0]
      exact Z_iret C q.e it_Mm_worthOf rfl (zRet_i (by simp [wr, hc2])) (by decide) (by decide)
    · replace hc2 := bI_1.mp hc2
      refine Z_run C it_Mm_worthOf 3 (f2 := (29, [some (.int (nI (mo p)))], [.int (nI (wst (stp p)) + nI 10)])) rfl ?_
      rw [nI_add (wst (stp p)) 10]
      exact Z_iret C q.e it_Mm_worthOf rfl (zRet_i (by simp [wr, hc2])) (by decide) (by decide)
  · have hp0 : p = 0 := mo_0.mp ((nI_e0 (by omega)).mp (Classical.not_not.mp hc1))
    refine Z_run C it_Mm_worthOf 2 (f2 := (29, [some (.int (nI (mo p)))], [.int (nI 0)])) rfl ?_
    exact Z_iret C q.e it_Mm_worthOf rfl (zRet_i (by rw [hp0]; rfl)) (by decide) (by decide)
theorem lrn_1 : ∀ a, a < 128 → a ≠ 0 → ∀ v, v < 128 → v ≠ 0 → nI (mo a) - nI (stp a) + (nI (stp a) ||| nI (stp v)) = nI (mo (lra a v)) := by decide +kernel
theorem lra_0 : ∀ a, a < 128 → lra a 0 = a := by decide +kernel
set_option maxRecDepth 20000 in
theorem ct_Mm_learns {E : zE} (hE : zEv E) {l : Launch} (hl : l.stackTraces = false) (a : Nat) (ha : a < 128) (ha0 : a ≠ 0) (v : Nat) (hv : v < 128) (h : aH) (sz : Nat) : zM E l y_Mm_learns [.code y_Mm_learns c_Mm_learns 2 (some .int)] rm_Mm_learns [.int (nI (mo a)), .int (nI (mo v))] h sz (zRet (some (.int (nI (mo (lra a v))))) h sz) := by
  refine zM_of hE hl (by decide +kernel) [some (.int (nI (mo a))), some (.int (nI (mo v)))] ⟨rfl, rfl, Nat.le_of_ble_eq_true rfl⟩ ?_
  intro G C q htb
  have hmp := mo_lt hv
  have hma := mo_lt ha
  refine Z_run C it_Mm_learns 1 (f2 := (1, [some (.int (nI (mo a))), some (.int (nI (mo v)))], [.int (nI (mo v))])) rfl ?_
  refine Z_br C it_Mm_learns rfl rfl (fun hc1 => ?_) (fun hc1 => ?_)
  · have hpn : v ≠ 0 := fun z9 => hc1 (by rw [z9]; rfl)
    refine Z_run C it_Mm_learns 2 (f2 := (10, [some (.int (nI (mo a))), some (.int (nI (mo v)))], [.int (nI (mo a)), .int (nI (mo a))])) rfl ?_
    refine Zr_callS C it_Mm_learns rfl p_Mm_stepsOf ml_Mm_48 [.int (nI (mo a))] (ct_Mm_stepsOf C.ev C.l a (by first | assumption | omega) (by first | assumption | omega) h _) rfl rfl ⟨by decide, by decide, by decide, by decide⟩ (Nat.le_of_ble_eq_true rfl) rfl ?_
    show Z E G h sz 0 0 (13, [some (.int (nI (mo a))), some (.int (nI (mo v)))], [.int (nI (stp a)), .int (nI (mo a))])
    refine Z_run C it_Mm_learns 2 (f2 := (15, [some (.int (nI (mo a))), some (.int (nI (mo v)))], [.int (nI (mo a)), .int (nI (mo a) - nI (stp a))])) rfl ?_
    refine Zr_callS C it_Mm_learns rfl p_Mm_stepsOf ml_Mm_48 [.int (nI (mo a))] (ct_Mm_stepsOf C.ev C.l a (by first | assumption | omega) (by first | assumption | omega) h _) rfl rfl ⟨by decide, by decide, by decide, by decide⟩ (Nat.le_of_ble_eq_true rfl) rfl ?_
    show Z E G h sz 0 0 (18, [some (.int (nI (mo a))), some (.int (nI (mo v)))], [.int (nI (stp a)), .int (nI (mo a) - nI (stp a))])
    refine Z_run C it_Mm_learns 1 (f2 := (19, [some (.int (nI (mo a))), some (.int (nI (mo v)))], [.int (nI (mo v)), .int (nI (stp a)), .int (nI (mo a) - nI (stp a))])) rfl ?_
    refine Zr_callS C it_Mm_learns rfl p_Mm_stepsOf ml_Mm_48 [.int (nI (mo v))] (ct_Mm_stepsOf C.ev C.l v (by first | assumption | omega) (by first | assumption | omega) h _) rfl rfl ⟨by decide, by decide, by decide, by decide⟩ (Nat.le_of_ble_eq_true rfl) rfl ?_
    show Z E G h sz 0 0 (22, [some (.int (nI (mo a))), some (.int (nI (mo v)))], [.int (nI (stp v)), .int (nI (stp a)), .int (nI (mo a) - nI (stp a))])
    refine Z_run C it_Mm_learns 2 (f2 := (24, [some (.int (nI (mo a))), some (.int (nI (mo v)))], [.int ((nI (mo a) - nI (stp a)) + (nI (stp a) ||| nI (stp v)))])) rfl ?_
    exact Z_iret C q.e it_Mm_learns rfl (zRet_i (lrn_1 a ha ha0 v hv hpn)) (by decide) (by decide)
  · have hp0 : v = 0 := mo_0.mp ((nI_e0 (by omega)).mp (Classical.not_not.mp hc1))
    refine Z_run C it_Mm_learns 2 (f2 := (24, [some (.int (nI (mo a))), some (.int (nI (mo v)))], [.int (nI (mo a))])) rfl ?_
    exact Z_iret C q.e it_Mm_learns rfl (zRet_i (by rw [hp0, lra_0 a ha])) (by decide) (by decide)
set_option maxRecDepth 20000 in
theorem ct_Mm_in_t {E : zE} (hE : zEv E) {l : Launch} (hl : l.stackTraces = false) (a lo hi : Nat) (h1 : lo ≤ a) (h2 : a ≤ hi) (h3 : hi < 2147483648) (h : aH) (sz : Nat) : zM E l y_Mm_in [.code y_Mm_in c_Mm_in 3 (some .boolean)] rm_Mm_in [.int (nI a), .int (nI lo), .int (nI hi)] h sz (zRet (some (.int (nI 1))) h sz) := by
  refine zM_of hE hl (by decide +kernel) [some (.int (nI a)), some (.int (nI lo)), some (.int (nI hi))] ⟨rfl, rfl, Nat.le_of_ble_eq_true rfl⟩ ?_
  intro G C q htb
  refine Z_run C it_Mm_in 2 (f2 := (2, [some (.int (nI a)), some (.int (nI lo)), some (.int (nI hi))], [.int (nI lo), .int (nI a)])) rfl ?_
  refine Z_br C it_Mm_in rfl rfl (fun hc1 => ?_) (fun hc1 => ?_)
  · exact absurd ((nI_ltI (by omega) (by omega)).mp hc1) (by omega)
  · skip
    refine Z_run C it_Mm_in 2 (f2 := (7, [some (.int (nI a)), some (.int (nI lo)), some (.int (nI hi))], [.int (nI hi), .int (nI a)])) rfl ?_
    refine Z_br C it_Mm_in rfl rfl (fun hc2 => ?_) (fun hc2 => ?_)
    · exact absurd ((nI_ltI (by omega) (by omega)).mp hc2) (by omega)
    · skip
      refine Z_run C it_Mm_in 2 (f2 := (15, [some (.int (nI a)), some (.int (nI lo)), some (.int (nI hi))], [.int (nI 1)])) rfl ?_
      exact Z_zret C q.e it_Mm_in rfl (Or.inr rfl) (zRet_i rfl) (by decide) (by decide)
set_option maxRecDepth 20000 in
theorem ct_Mm_in_f {E : zE} (hE : zEv E) {l : Launch} (hl : l.stackTraces = false) (a lo hi : Nat) (h32 : a < 4294967296) (h1 : a < lo ∨ hi < a) (h3 : lo < 2147483648) (h4 : hi < 2147483648) (h : aH) (sz : Nat) : zM E l y_Mm_in [.code y_Mm_in c_Mm_in 3 (some .boolean)] rm_Mm_in [.int (nI a), .int (nI lo), .int (nI hi)] h sz (zRet (some (.int (nI 0))) h sz) := by
  refine zM_of hE hl (by decide +kernel) [some (.int (nI a)), some (.int (nI lo)), some (.int (nI hi))] ⟨rfl, rfl, Nat.le_of_ble_eq_true rfl⟩ ?_
  intro G C q htb
  refine Z_run C it_Mm_in 2 (f2 := (2, [some (.int (nI a)), some (.int (nI lo)), some (.int (nI hi))], [.int (nI lo), .int (nI a)])) rfl ?_
  refine Z_br C it_Mm_in rfl rfl (fun hc1 => ?_) (fun hc1 => ?_)
  · skip
    refine Z_run C it_Mm_in 1 (f2 := (15, [some (.int (nI a)), some (.int (nI lo)), some (.int (nI hi))], [.int (nI 0)])) rfl ?_
    exact Z_zret C q.e it_Mm_in rfl (Or.inl rfl) (zRet_i rfl) (by decide) (by decide)
  · skip
    refine Z_run C it_Mm_in 2 (f2 := (7, [some (.int (nI a)), some (.int (nI lo)), some (.int (nI hi))], [.int (nI hi), .int (nI a)])) rfl ?_
    refine Z_br C it_Mm_in rfl rfl (fun hc2 => ?_) (fun hc2 => ?_)
    · skip
      refine Z_run C it_Mm_in 1 (f2 := (15, [some (.int (nI a)), some (.int (nI lo)), some (.int (nI hi))], [.int (nI 0)])) rfl ?_
      exact Z_zret C q.e it_Mm_in rfl (Or.inl rfl) (zRet_i rfl) (by decide) (by decide)
    · exact absurd (in_c h32 (by omega) (by omega) hc1 hc2) (by omega)
set_option maxRecDepth 20000 in
theorem ct_Mm_isSide_t {E : zE} (hE : zEv E) {l : Launch} (hl : l.stackTraces = false) (a : Nat) (ha : a ≤ 1) (h : aH) (sz : Nat) : zM E l y_Mm_isSide [.code y_Mm_isSide c_Mm_isSide 1 (some .boolean)] rm_Mm_isSide [.int (nI a)] h sz (zRet (some (.int (nI 1))) h sz) := by
  refine zM_of hE hl (by decide +kernel) [some (.int (nI a))] ⟨rfl, rfl, Nat.le_of_ble_eq_true rfl⟩ ?_
  intro G C q htb
  refine Z_run C it_Mm_isSide 3 (f2 := (3, [some (.int (nI a))], [.int (nI 1), .int (nI 0), .int (nI a)])) rfl ?_
  refine Zr_callS C it_Mm_isSide rfl p_Mm_in ml_Mm_33 [.int (nI a), .int (nI 0), .int (nI 1)] (ct_Mm_in_t C.ev C.l a 0 1 (by omega) (by omega) (by omega) h _) rfl rfl ⟨by decide, by decide, by decide, by decide⟩ (Nat.le_of_ble_eq_true rfl) rfl ?_
  show Z E G h sz 0 0 (6, [some (.int (nI a))], [.int (nI 1)])
  exact Z_zret C q.e it_Mm_isSide rfl (Or.inr rfl) (zRet_i rfl) (by decide) (by decide)
set_option maxRecDepth 20000 in
theorem ct_Mm_isSide_f {E : zE} (hE : zEv E) {l : Launch} (hl : l.stackTraces = false) (a : Nat) (h32 : a < 4294967296) (ha : 1 < a) (h : aH) (sz : Nat) : zM E l y_Mm_isSide [.code y_Mm_isSide c_Mm_isSide 1 (some .boolean)] rm_Mm_isSide [.int (nI a)] h sz (zRet (some (.int (nI 0))) h sz) := by
  refine zM_of hE hl (by decide +kernel) [some (.int (nI a))] ⟨rfl, rfl, Nat.le_of_ble_eq_true rfl⟩ ?_
  intro G C q htb
  refine Z_run C it_Mm_isSide 3 (f2 := (3, [some (.int (nI a))], [.int (nI 1), .int (nI 0), .int (nI a)])) rfl ?_
  refine Zr_callS C it_Mm_isSide rfl p_Mm_in ml_Mm_33 [.int (nI a), .int (nI 0), .int (nI 1)] (ct_Mm_in_f C.ev C.l a 0 1 (by omega) (by omega) (by omega) (by omega) h _) rfl rfl ⟨by decide, by decide, by decide, by decide⟩ (Nat.le_of_ble_eq_true rfl) rfl ?_
  show Z E G h sz 0 0 (6, [some (.int (nI a))], [.int (nI 0)])
  exact Z_zret C q.e it_Mm_isSide rfl (Or.inl rfl) (zRet_i rfl) (by decide) (by decide)
set_option maxRecDepth 20000 in
theorem ct_Mm_isSquare_t {E : zE} (hE : zEv E) {l : Launch} (hl : l.stackTraces = false) (a : Nat) (ha : a ≤ 35) (h : aH) (sz : Nat) : zM E l y_Mm_isSquare [.code y_Mm_isSquare c_Mm_isSquare 1 (some .boolean)] rm_Mm_isSquare [.int (nI a)] h sz (zRet (some (.int (nI 1))) h sz) := by
  refine zM_of hE hl (by decide +kernel) [some (.int (nI a))] ⟨rfl, rfl, Nat.le_of_ble_eq_true rfl⟩ ?_
  intro G C q htb
  refine Z_run C it_Mm_isSquare 3 (f2 := (4, [some (.int (nI a))], [.int (nI 35), .int (nI 0), .int (nI a)])) rfl ?_
  refine Zr_callS C it_Mm_isSquare rfl p_Mm_in ml_Mm_33 [.int (nI a), .int (nI 0), .int (nI 35)] (ct_Mm_in_t C.ev C.l a 0 35 (by omega) (by omega) (by omega) h _) rfl rfl ⟨by decide, by decide, by decide, by decide⟩ (Nat.le_of_ble_eq_true rfl) rfl ?_
  show Z E G h sz 0 0 (7, [some (.int (nI a))], [.int (nI 1)])
  exact Z_zret C q.e it_Mm_isSquare rfl (Or.inr rfl) (zRet_i rfl) (by decide) (by decide)
set_option maxRecDepth 20000 in
theorem ct_Mm_isSquare_f {E : zE} (hE : zEv E) {l : Launch} (hl : l.stackTraces = false) (a : Nat) (h32 : a < 4294967296) (ha : 35 < a) (h : aH) (sz : Nat) : zM E l y_Mm_isSquare [.code y_Mm_isSquare c_Mm_isSquare 1 (some .boolean)] rm_Mm_isSquare [.int (nI a)] h sz (zRet (some (.int (nI 0))) h sz) := by
  refine zM_of hE hl (by decide +kernel) [some (.int (nI a))] ⟨rfl, rfl, Nat.le_of_ble_eq_true rfl⟩ ?_
  intro G C q htb
  refine Z_run C it_Mm_isSquare 3 (f2 := (4, [some (.int (nI a))], [.int (nI 35), .int (nI 0), .int (nI a)])) rfl ?_
  refine Zr_callS C it_Mm_isSquare rfl p_Mm_in ml_Mm_33 [.int (nI a), .int (nI 0), .int (nI 35)] (ct_Mm_in_f C.ev C.l a 0 35 (by omega) (by omega) (by omega) (by omega) h _) rfl rfl ⟨by decide, by decide, by decide, by decide⟩ (Nat.le_of_ble_eq_true rfl) rfl ?_
  show Z E G h sz 0 0 (7, [some (.int (nI a))], [.int (nI 0)])
  exact Z_zret C q.e it_Mm_isSquare rfl (Or.inl rfl) (zRet_i rfl) (by decide) (by decide)
set_option maxRecDepth 20000 in
theorem ct_Mm_asks_t {E : zE} (hE : zEv E) {l : Launch} (hl : l.stackTraces = false) {D : zD} (hD : zDok E D) (V : Nat → Nat → Int32) (P : Nat → Nat → Value) (PH : aH) (sz : Nat) : zM E l y_Mm_asks [.code y_Mm_asks c_Mm_asks 2 (some .boolean)] rm_Mm_asks [.ref (D.1 37), .int (nI 1)] (HM D V P PH) sz (zRet (some (.int (nI 1))) (HM D (vset V 37 8 (nI 0)) P PH) sz) := by
  refine zM_of hE hl (by decide +kernel) [some (.ref (D.1 37)), some (.int (nI 1))] ⟨rfl, rfl, Nat.le_of_ble_eq_true rfl⟩ ?_
  intro G C q htb
  refine Z_run C it_Mm_asks 2 (f2 := (2, [some (.ref (D.1 37)), some (.int (nI 1))], [.int (nI 1), .ref (D.1 37)])) rfl ?_
  refine Z_br C it_Mm_asks rfl rfl (fun hc1 => absurd hc1 (by decide)) (fun hc1 => ?_)
  refine Z_run C it_Mm_asks 2 (f2 := (10, [some (.ref (D.1 37)), some (.int (nI 1))], [.int (nI 0), .ref (D.1 37)])) rfl ?_
  refine Zm_put C it_Mm_asks hD rfl 37 wi_Mm t_Mm t_Mm_ok n_Mm (by first | decide | omega) rfl rfl (j := 8) (by decide) fl_Mm_29 rfl rfl rfl rfl ?_
  refine Z_run C it_Mm_asks 1 (f2 := (14, [some (.ref (D.1 37)), some (.int (nI 1))], [.int (nI 1)])) rfl ?_
  exact Z_zret C q.e it_Mm_asks rfl (Or.inr rfl) (zRet_iH rfl rfl) (by decide) (by decide)
set_option maxRecDepth 20000 in
theorem ct_Mm_asks_f {E : zE} (hE : zEv E) {l : Launch} (hl : l.stackTraces = false) {D : zD} (hD : zDok E D) (V : Nat → Nat → Int32) (P : Nat → Nat → Value) (PH : aH) (sz : Nat) : zM E l y_Mm_asks [.code y_Mm_asks c_Mm_asks 2 (some .boolean)] rm_Mm_asks [.ref (D.1 37), .int (nI 0)] (HM D V P PH) sz (zRet (some (.int (nI 0))) (HM D (vset V 37 8 (nI 1)) P PH) sz) := by
  refine zM_of hE hl (by decide +kernel) [some (.ref (D.1 37)), some (.int (nI 0))] ⟨rfl, rfl, Nat.le_of_ble_eq_true rfl⟩ ?_
  intro G C q htb
  refine Z_run C it_Mm_asks 2 (f2 := (2, [some (.ref (D.1 37)), some (.int (nI 0))], [.int (nI 0), .ref (D.1 37)])) rfl ?_
  refine Z_br C it_Mm_asks rfl rfl (fun hc1 => ?_) (fun hc1 => absurd (by decide) hc1)
  refine Z_run C it_Mm_asks 1 (f2 := (10, [some (.ref (D.1 37)), some (.int (nI 0))], [.int (nI 1), .ref (D.1 37)])) rfl ?_
  refine Zm_put C it_Mm_asks hD rfl 37 wi_Mm t_Mm t_Mm_ok n_Mm (by first | decide | omega) rfl rfl (j := 8) (by decide) fl_Mm_29 rfl rfl rfl rfl ?_
  refine Z_run C it_Mm_asks 1 (f2 := (14, [some (.ref (D.1 37)), some (.int (nI 0))], [.int (nI 0)])) rfl ?_
  exact Z_zret C q.e it_Mm_asks rfl (Or.inl rfl) (zRet_iH rfl rfl) (by decide) (by decide)
set_option maxRecDepth 20000 in
theorem ct_Mm_asksThen_k {E : zE} (hE : zEv E) {l : Launch} (hl : l.stackTraces = false) {D : zD} (hD : zDok E D) (V : Nat → Nat → Int32) (P : Nat → Nat → Value) (PH : aH) (t : Nat) (ht0 : 0 < t) (ht : t < 100) (xb : Int32) (c : Nat) (hv : V 37 8 = nI t) (sz : Nat) : zM E l y_Mm_asksThen [.code y_Mm_asksThen c_Mm_asksThen 3 (some .boolean)] rm_Mm_asksThen [.ref (D.1 37), .int xb, .int (nI c)] (HM D V P PH) sz (zRet (some (.int (nI 0))) (HM D (vset V 37 8 (nI t)) P PH) sz) := by
  refine zM_of hE hl (by decide +kernel) [some (.ref (D.1 37)), some (.int xb), some (.int (nI c))] ⟨rfl, rfl, Nat.le_of_ble_eq_true rfl⟩ ?_
  intro G C q htb
  refine Z_run C it_Mm_asksThen 2 (f2 := (2, [some (.ref (D.1 37)), some (.int xb), some (.int (nI c))], [.ref (D.1 37), .ref (D.1 37)])) rfl ?_
  refine Zm_get C it_Mm_asksThen hD rfl 37 wi_Mm (by decide) rfl rfl (j := 8) (by decide) fl_Mm_29 (v := .int (nI t)) (congrArg Value.int hv) ?_
  refine Z_br C it_Mm_asksThen rfl rfl (fun hc1 => ?_) (fun hc1 => ?_)
  · exact absurd ((nI_le0 (by omega)).mp hc1) (by omega)
  · skip
    refine Z_run C it_Mm_asksThen 1 (f2 := (9, [some (.ref (D.1 37)), some (.int xb), some (.int (nI c))], [.ref (D.1 37), .ref (D.1 37)])) rfl ?_
    refine Zm_get C it_Mm_asksThen hD rfl 37 wi_Mm (by decide) rfl rfl (j := 8) (by decide) fl_Mm_29 (v := .int (nI t)) (congrArg Value.int hv) ?_
    refine Z_run C it_Mm_asksThen 1 (f2 := (24, [some (.ref (D.1 37)), some (.int xb), some (.int (nI c))], [.int (nI t), .ref (D.1 37)])) rfl ?_
    refine Zm_put C it_Mm_asksThen hD rfl 37 wi_Mm t_Mm t_Mm_ok n_Mm (by first | decide | omega) rfl rfl (j := 8) (by decide) fl_Mm_29 rfl rfl rfl rfl ?_
    refine Z_run C it_Mm_asksThen 1 (f2 := (28, [some (.ref (D.1 37)), some (.int xb), some (.int (nI c))], [.ref (D.1 37)])) rfl ?_
    refine Zm_get C it_Mm_asksThen hD rfl 37 wi_Mm (by decide) rfl rfl (j := 8) (by decide) fl_Mm_29 (v := .int (nI t)) rfl ?_
    refine Z_br C it_Mm_asksThen rfl rfl (fun hc2 => ?_) (fun hc2 => ?_)
    · skip
      refine Z_run C it_Mm_asksThen 1 (f2 := (39, [some (.ref (D.1 37)), some (.int xb), some (.int (nI c))], [.int (nI 0)])) rfl ?_
      exact Z_zret C q.e it_Mm_asksThen rfl (Or.inl rfl) (zRet_iH rfl rfl) (by decide) (by decide)
    · exact absurd ((nI_e0 (by omega)).mp (Classical.not_not.mp hc2)) (by omega)
set_option maxRecDepth 20000 in
theorem ct_Mm_asksThen_t {E : zE} (hE : zEv E) {l : Launch} (hl : l.stackTraces = false) {D : zD} (hD : zDok E D) (V : Nat → Nat → Int32) (P : Nat → Nat → Value) (PH : aH) (c : Nat) (hv : V 37 8 = nI 0) (sz : Nat) : zM E l y_Mm_asksThen [.code y_Mm_asksThen c_Mm_asksThen 3 (some .boolean)] rm_Mm_asksThen [.ref (D.1 37), .int (nI 1), .int (nI c)] (HM D V P PH) sz (zRet (some (.int (nI 1))) (HM D (vset V 37 8 (nI 0)) P PH) sz) := by
  refine zM_of hE hl (by decide +kernel) [some (.ref (D.1 37)), some (.int (nI 1)), some (.int (nI c))] ⟨rfl, rfl, Nat.le_of_ble_eq_true rfl⟩ ?_
  intro G C q htb
  refine Z_run C it_Mm_asksThen 2 (f2 := (2, [some (.ref (D.1 37)), some (.int (nI 1)), some (.int (nI c))], [.ref (D.1 37), .ref (D.1 37)])) rfl ?_
  refine Zm_get C it_Mm_asksThen hD rfl 37 wi_Mm (by decide) rfl rfl (j := 8) (by decide) fl_Mm_29 (v := .int (nI 0)) (congrArg Value.int hv) ?_
  refine Z_br C it_Mm_asksThen rfl rfl (fun hc1 => ?_) (fun hc1 => absurd (by decide) hc1)
  refine Z_run C it_Mm_asksThen 1 (f2 := (16, [some (.ref (D.1 37)), some (.int (nI 1)), some (.int (nI c))], [.int (nI 1), .ref (D.1 37)])) rfl ?_
  refine Z_br C it_Mm_asksThen rfl rfl (fun hc2 => absurd hc2 (by decide)) (fun hc2 => ?_)
  refine Z_run C it_Mm_asksThen 2 (f2 := (24, [some (.ref (D.1 37)), some (.int (nI 1)), some (.int (nI c))], [.int (nI 0), .ref (D.1 37)])) rfl ?_
  refine Zm_put C it_Mm_asksThen hD rfl 37 wi_Mm t_Mm t_Mm_ok n_Mm (by first | decide | omega) rfl rfl (j := 8) (by decide) fl_Mm_29 rfl rfl rfl rfl ?_
  refine Z_run C it_Mm_asksThen 1 (f2 := (28, [some (.ref (D.1 37)), some (.int (nI 1)), some (.int (nI c))], [.ref (D.1 37)])) rfl ?_
  refine Zm_get C it_Mm_asksThen hD rfl 37 wi_Mm (by decide) rfl rfl (j := 8) (by decide) fl_Mm_29 (v := .int (nI 0)) rfl ?_
  refine Z_br C it_Mm_asksThen rfl rfl (fun hc3 => absurd hc3 (by decide)) (fun hc3 => ?_)
  refine Z_run C it_Mm_asksThen 2 (f2 := (39, [some (.ref (D.1 37)), some (.int (nI 1)), some (.int (nI c))], [.int (nI 1)])) rfl ?_
  exact Z_zret C q.e it_Mm_asksThen rfl (Or.inr rfl) (zRet_iH rfl rfl) (by decide) (by decide)
set_option maxRecDepth 20000 in
theorem ct_Mm_asksThen_f {E : zE} (hE : zEv E) {l : Launch} (hl : l.stackTraces = false) {D : zD} (hD : zDok E D) (V : Nat → Nat → Int32) (P : Nat → Nat → Value) (PH : aH) (c : Nat) (hc0 : 0 < c) (hc : c < 100) (hv : V 37 8 = nI 0) (sz : Nat) : zM E l y_Mm_asksThen [.code y_Mm_asksThen c_Mm_asksThen 3 (some .boolean)] rm_Mm_asksThen [.ref (D.1 37), .int (nI 0), .int (nI c)] (HM D V P PH) sz (zRet (some (.int (nI 0))) (HM D (vset V 37 8 (nI c)) P PH) sz) := by
  refine zM_of hE hl (by decide +kernel) [some (.ref (D.1 37)), some (.int (nI 0)), some (.int (nI c))] ⟨rfl, rfl, Nat.le_of_ble_eq_true rfl⟩ ?_
  intro G C q htb
  refine Z_run C it_Mm_asksThen 2 (f2 := (2, [some (.ref (D.1 37)), some (.int (nI 0)), some (.int (nI c))], [.ref (D.1 37), .ref (D.1 37)])) rfl ?_
  refine Zm_get C it_Mm_asksThen hD rfl 37 wi_Mm (by decide) rfl rfl (j := 8) (by decide) fl_Mm_29 (v := .int (nI 0)) (congrArg Value.int hv) ?_
  refine Z_br C it_Mm_asksThen rfl rfl (fun hc1 => ?_) (fun hc1 => absurd (by decide) hc1)
  refine Z_run C it_Mm_asksThen 1 (f2 := (16, [some (.ref (D.1 37)), some (.int (nI 0)), some (.int (nI c))], [.int (nI 0), .ref (D.1 37)])) rfl ?_
  refine Z_br C it_Mm_asksThen rfl rfl (fun hc2 => ?_) (fun hc2 => absurd (by decide) hc2)
  refine Z_run C it_Mm_asksThen 1 (f2 := (24, [some (.ref (D.1 37)), some (.int (nI 0)), some (.int (nI c))], [.int (nI c), .ref (D.1 37)])) rfl ?_
  refine Zm_put C it_Mm_asksThen hD rfl 37 wi_Mm t_Mm t_Mm_ok n_Mm (by first | decide | omega) rfl rfl (j := 8) (by decide) fl_Mm_29 rfl rfl rfl rfl ?_
  refine Z_run C it_Mm_asksThen 1 (f2 := (28, [some (.ref (D.1 37)), some (.int (nI 0)), some (.int (nI c))], [.ref (D.1 37)])) rfl ?_
  refine Zm_get C it_Mm_asksThen hD rfl 37 wi_Mm (by decide) rfl rfl (j := 8) (by decide) fl_Mm_29 (v := .int (nI c)) rfl ?_
  refine Z_br C it_Mm_asksThen rfl rfl (fun hc3 => ?_) (fun hc3 => ?_)
  · skip
    refine Z_run C it_Mm_asksThen 1 (f2 := (39, [some (.ref (D.1 37)), some (.int (nI 0)), some (.int (nI c))], [.int (nI 0)])) rfl ?_
    exact Z_zret C q.e it_Mm_asksThen rfl (Or.inl rfl) (zRet_iH rfl rfl) (by decide) (by decide)
  · exact absurd ((nI_e0 (by omega)).mp (Classical.not_not.mp hc3)) (by omega)
