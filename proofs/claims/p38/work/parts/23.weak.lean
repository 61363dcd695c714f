/-! ===== weakest ===== -/
def wkp (F : Nat → Nat) (s : Nat) : Nat → Nat × Option Nat
  | 0 => (0, none)
  | n + 1 => if hld F n s then (if (wkp F s n).1 < exN 16 F n then (exN 16 F n, some n) else wkp F s n) else wkp F s n
theorem wkp_f {F : Nat → Nat} {s n : Nat} (h : hld F n s = false) : wkp F s (n + 1) = wkp F s n := by simp [wkp, h]
theorem wkp_n {F : Nat → Nat} {s n : Nat} (h : hld F n s = true) (h2 : exN 16 F n ≤ (wkp F s n).1) : wkp F s (n + 1) = wkp F s n := by simp [wkp, h, show ¬ (wkp F s n).1 < exN 16 F n by omega]
theorem wkp_t {F : Nat → Nat} {s n : Nat} (h : hld F n s = true) (h2 : ¬ exN 16 F n ≤ (wkp F s n).1) : wkp F s (n + 1) = (exN 16 F n, some n) := by simp [wkp, h, show (wkp F s n).1 < exN 16 F n by omega]
theorem wkp_le {F : Nat → Nat} {s n : Nat} : (wkp F s n).1 ≤ 35 := by
  induction n with
  | zero => exact Nat.zero_le _
  | succ n ih =>
    unfold wkp
    split
    · split
      · exact exN_le 16 F n
      · exact ih
    · exact ih
theorem wkp_lt {F : Nat → Nat} {s n k : Nat} (h : (wkp F s n).2 = some k) : k < n := by
  induction n with
  | zero => cases h
  | succ n ih =>
    unfold wkp at h
    split at h
    · split at h
      · cases h; omega
      · have := ih h; omega
    · have := ih h; omega
set_option maxRecDepth 20000 in
theorem lp_Xx_weakest {E : zE} {G : zG} {O : zO} (C : zCx E G c_Xx_weakest 6 y_Xx_weakest.cls y_Xx_weakest.name (some .int) rm_Xx_weakest) (q : zEndX E G O rm_Xx_weakest.cells rm_Xx_weakest.slots) {D : zD} (hD : zDok E D) {V0 : Nat → Nat → Int32} {P : Nat → Nat → Value} {PH : aH} {sz : Nat} (hF : okF (bF V0 2)) {s : Nat} (hs : s < 2) (kk : ∀ V2 : Nat → Nat → Int32, (∀ c, c ≠ 36 → V2 c = V0 c) → Z E G (HM D V2 P PH) sz 1 6 (60, [some (.ref (D.1 0)), some (.int (nI s)), some (.int (nI (wkp (bF V0 2) s 36).1)), some (.int (oI (wkp (bF V0 2) s 36).2)), some (.int (nI 36)), none], [])) : ∀ (j i : Nat) (V : Nat → Nat → Int32), (∀ c, c ≠ 36 → V c = V0 c) → 36 - i < j → i ≤ 36 → Z E G (HM D V P PH) sz 1 6 (11, [some (.ref (D.1 0)), some (.int (nI s)), some (.int (nI (wkp (bF V0 2) s i).1)), some (.int (oI (wkp (bF V0 2) s i).2)), some (.int (nI i)), none], []) := by
  intro j
  induction j with
  | zero => intro i V hV h1 h2; omega
  | succ j ih =>
    intro i V hV h1 h2
    have hb : bF V 2 = bF V0 2 := by funext k; unfold bF; rw [hV 3 (by decide)]
    have hF2 : okF (bF V 2) := by rw [hb]; exact hF
    have hw9 := wkp_le (F := bF V0 2) (s := s) (n := i)
    refine Z_run C it_Xx_weakest 2 (f2 := (15, [some (.ref (D.1 0)), some (.int (nI s)), some (.int (nI (wkp (bF V0 2) s i).1)), some (.int (oI (wkp (bF V0 2) s i).2)), some (.int (nI i)), none], [.int (nI 36), .int (nI i)])) rfl ?_
    refine Z_br C it_Xx_weakest rfl rfl (fun hc1 => ?_) (fun hc1 => ?_)
    · replace hc1 := (nI_leI (a := 36) (b := i) (by omega) (by omega)).mp hc1
      have h36 : i = 36 := by omega
      subst h36
      exact kk V hV
    · replace hc1 : ¬ _ := fun z9 => hc1 ((nI_leI (a := 36) (b := i) (by omega) (by omega)).mpr z9)
      refine Z_run C it_Xx_weakest 1 (f2 := (19, [some (.ref (D.1 0)), some (.int (nI s)), some (.int (nI (wkp (bF V0 2) s i).1)), some (.int (oI (wkp (bF V0 2) s i).2)), some (.int (nI i)), none], [.ref (D.1 0)])) rfl ?_
      refine Zm_get C it_Xx_weakest hD rfl 0 wi_Xx (by decide) rfl rfl (j := 0) (by decide) fl_Xx_10 (v := .ref (D.1 1)) rfl ?_
      refine Zm_get C it_Xx_weakest hD rfl 1 wi_Gm (by decide) rfl rfl (j := 0) (by decide) fl_Xx_49 (v := .ref (D.1 2)) rfl ?_
      refine Z_run C it_Xx_weakest 2 (f2 := (28, [some (.ref (D.1 0)), some (.int (nI s)), some (.int (nI (wkp (bF V0 2) s i).1)), some (.int (oI (wkp (bF V0 2) s i).2)), some (.int (nI i)), none], [.int (nI s), .int (nI i), .ref (D.1 2)])) rfl ?_
      refine Zr_callV C it_Xx_weakest hD rfl p_Bd_holds ml_Xx_192 2 (by decide) rfl rfl [.int (nI i), .int (nI s)] (ct_Bd_holds C.ev C.l hD _ _ _ 2 isB_2 hF2 i (by first | assumption | omega) s (by first | assumption | omega) _) rfl rfl ⟨by decide, by decide, by decide, by decide⟩ (Nat.le_of_ble_eq_true rfl) rfl ?_
      show Z E G (HM D V P PH) sz 1 6 (31, [some (.ref (D.1 0)), some (.int (nI s)), some (.int (nI (wkp (bF V0 2) s i).1)), some (.int (oI (wkp (bF V0 2) s i).2)), some (.int (nI i)), none], [.int (bI (hld (bF V 2) i s))])
      refine Z_br C it_Xx_weakest rfl rfl (fun hc2 => ?_) (fun hc2 => ?_)
      · replace hc2 := bI_0.mp hc2; have e9 : wkp (bF V0 2) s (i + 1) = wkp (bF V0 2) s i := wkp_f (by rw [← hb]; exact hc2)
        refine Z_run C it_Xx_weakest 1 (f2 := (57, [some (.ref (D.1 0)), some (.int (nI s)), some (.int (nI (wkp (bF V0 2) s i).1)), some (.int (oI (wkp (bF V0 2) s i).2)), some (.int (nI i + nI 1)), none], [])) rfl ?_
        rw [nI_add i 1]
        refine Z_run C it_Xx_weakest 1 (f2 := (11, [some (.ref (D.1 0)), some (.int (nI s)), some (.int (nI (wkp (bF V0 2) s i).1)), some (.int (oI (wkp (bF V0 2) s i).2)), some (.int (nI (i + 1))), none], [])) rfl ?_
        have hI := ih (i + 1) V hV (by omega) (by omega)
        rw [e9] at hI
        refine Z_sub (ls2 := [some (.ref (D.1 0)), some (.int (nI s)), some (.int (nI (wkp (bF V0 2) s i).1)), some (.int (oI (wkp (bF V0 2) s i).2)), some (.int (nI (i + 1))), none]) (by simp [zsubl]) ?_
        exact hI
      · replace hc2 := bI_1.mp hc2
        refine Z_run C it_Xx_weakest 2 (f2 := (37, [some (.ref (D.1 0)), some (.int (nI s)), some (.int (nI (wkp (bF V0 2) s i).1)), some (.int (oI (wkp (bF V0 2) s i).2)), some (.int (nI i)), none], [.int (nI i), .ref (D.1 0)])) rfl ?_
        refine Zr_exV C it_Xx_weakest hD rfl p_Xx_exchangeTried ml_Xx_189 0 (by decide) rfl rfl [.int (nI i)] (ct_Xx_exchangeTried C.ev C.l hD V P PH hF2 i (by omega) _) rfl rfl ⟨by decide, by decide, by decide, by decide⟩ (Nat.le_of_ble_eq_true rfl) rfl (fun V2 hV2 => ?_)
        show Z E G (HM D V2 P PH) sz 1 6 (40, [some (.ref (D.1 0)), some (.int (nI s)), some (.int (nI (wkp (bF V0 2) s i).1)), some (.int (oI (wkp (bF V0 2) s i).2)), some (.int (nI i)), none], [.int (nI (exN 16 (bF V 2) i))])
        have hx9 := exN_le 16 (bF V 2) i
        refine Z_run C it_Xx_weakest 3 (f2 := (45, [some (.ref (D.1 0)), some (.int (nI s)), some (.int (nI (wkp (bF V0 2) s i).1)), some (.int (oI (wkp (bF V0 2) s i).2)), some (.int (nI i)), some (.int (nI (exN 16 (bF V 2) i)))], [.int (nI (wkp (bF V0 2) s i).1), .int (nI (exN 16 (bF V 2) i))])) rfl ?_
        refine Z_br C it_Xx_weakest rfl rfl (fun hc3 => ?_) (fun hc3 => ?_)
        · replace hc3 := (nI_leI (a := exN 16 (bF V 2) i) (b := (wkp (bF V0 2) s i).1) (by omega) (by omega)).mp hc3; have e9 : wkp (bF V0 2) s (i + 1) = wkp (bF V0 2) s i := wkp_n (by rw [← hb]; exact hc2) (by have z := hc3; rw [hb] at z; exact z)
          refine Z_run C it_Xx_weakest 1 (f2 := (57, [some (.ref (D.1 0)), some (.int (nI s)), some (.int (nI (wkp (bF V0 2) s i).1)), some (.int (oI (wkp (bF V0 2) s i).2)), some (.int (nI i + nI 1)), some (.int (nI (exN 16 (bF V 2) i)))], [])) rfl ?_
          rw [nI_add i 1]
          refine Z_run C it_Xx_weakest 1 (f2 := (11, [some (.ref (D.1 0)), some (.int (nI s)), some (.int (nI (wkp (bF V0 2) s i).1)), some (.int (oI (wkp (bF V0 2) s i).2)), some (.int (nI (i + 1))), some (.int (nI (exN 16 (bF V 2) i)))], [])) rfl ?_
          have hI := ih (i + 1) V2 (fun c hc => by rw [hV2 c hc, hV c hc]) (by omega) (by omega)
          rw [e9] at hI
          refine Z_sub (ls2 := [some (.ref (D.1 0)), some (.int (nI s)), some (.int (nI (wkp (bF V0 2) s i).1)), some (.int (oI (wkp (bF V0 2) s i).2)), some (.int (nI (i + 1))), none]) (by simp [zsubl]) ?_
          exact hI
        · have e9 : wkp (bF V0 2) s (i + 1) = (exN 16 (bF V 2) i, some i) := by (rw [hb]; exact wkp_t (by rw [← hb]; exact hc2) (by rw [← hb]; exact fun z => hc3 ((nI_leI (a := exN 16 (bF V 2) i) (b := (wkp (bF V0 2) s i).1) (by omega) (by omega)).mpr (by rw [hb] at *; exact z))))
          refine Z_run C it_Xx_weakest 5 (f2 := (57, [some (.ref (D.1 0)), some (.int (nI s)), some (.int (nI (exN 16 (bF V 2) i))), some (.int (nI i)), some (.int (nI i + nI 1)), some (.int (nI (exN 16 (bF V 2) i)))], [])) rfl ?_
          rw [nI_add i 1]
          refine Z_run C it_Xx_weakest 1 (f2 := (11, [some (.ref (D.1 0)), some (.int (nI s)), some (.int (nI (exN 16 (bF V 2) i))), some (.int (nI i)), some (.int (nI (i + 1))), some (.int (nI (exN 16 (bF V 2) i)))], [])) rfl ?_
          have hI := ih (i + 1) V2 (fun c hc => by rw [hV2 c hc, hV c hc]) (by omega) (by omega)
          rw [e9] at hI
          refine Z_sub (ls2 := [some (.ref (D.1 0)), some (.int (nI s)), some (.int (nI (exN 16 (bF V 2) i))), some (.int (nI i)), some (.int (nI (i + 1))), none]) (by simp [zsubl]) ?_
          exact hI
set_option maxRecDepth 20000 in
theorem ct_Xx_weakest {E : zE} (hE : zEv E) {l : Launch} (hl : l.stackTraces = false) {D : zD} (hD : zDok E D) (V : Nat → Nat → Int32) (P : Nat → Nat → Value) (PH : aH) (hF : okF (bF V 2)) (s : Nat) (hs : s < 2) (k : Nat) (hw : (wkp (bF V 2) s 36).2 = some k) (sz : Nat) : zM E l y_Xx_weakest [.code y_Xx_weakest c_Xx_weakest 6 (some .int)] rm_Xx_weakest [.ref (D.1 0), .int (nI s)] (HM D V P PH) sz (zEx D V P PH sz k) := by
  refine zM_of hE hl (by decide +kernel) [some (.ref (D.1 0)), some (.int (nI s)), none, none, none, none] ⟨rfl, rfl, Nat.le_of_ble_eq_true rfl⟩ ?_
  intro G C q htb
  refine Z_run C it_Xx_weakest 1 (f2 := (1, [some (.ref (D.1 0)), some (.int (nI s)), none, none, none, none], [.int (nI s)])) rfl ?_
  refine Zr_callS C it_Xx_weakest rfl p_Xx_needSide ml_Xx_132 [.int (nI s)] (ct_Xx_needSide C.ev C.l s (by omega) (HM D V P PH) _) rfl rfl ⟨by decide, by decide, by decide, by decide⟩ (Nat.le_of_ble_eq_true rfl) rfl ?_
  show Z E G (HM D V P PH) sz 1 6 (4, [some (.ref (D.1 0)), some (.int (nI s)), none, none, none, none], [])
  refine Z_run C it_Xx_weakest 6 (f2 := (11, [some (.ref (D.1 0)), some (.int (nI s)), some (.int (nI 0)), some (.int ((-1))), some (.int (nI 0)), none], [])) rfl ?_
  refine lp_Xx_weakest C q hD hF hs (fun V2 hV2 => ?_) 37 0 V (fun c hc => rfl) (by omega) (by omega)
  have e1 : oI (wkp (bF V 2) s 36).2 = nI k := by rw [hw]; rfl
  rw [e1]
  refine Z_run C it_Xx_weakest 2 (f2 := (62, [some (.ref (D.1 0)), some (.int (nI s)), some (.int (nI (wkp (bF V 2) s 36).1)), some (.int (nI k)), some (.int (nI 36)), none], [.int ((-1)), .int (nI k)])) rfl ?_
  refine Z_br C it_Xx_weakest rfl rfl (fun hc1 => ?_) (fun hc1 => ?_)
  · skip
    refine Z_run C it_Xx_weakest 1 (f2 := (76, [some (.ref (D.1 0)), some (.int (nI s)), some (.int (nI (wkp (bF V 2) s 36).1)), some (.int (nI k)), some (.int (nI 36)), none], [.int (nI k)])) rfl ?_
    exact Z_iret C q.e it_Xx_weakest rfl (⟨rfl, rfl, _, rfl, hV2⟩) (by decide) (by decide)
  · exact absurd (Classical.not_not.mp hc1) (nI_m1 (by have := wkp_lt hw; omega))
set_option maxRecDepth 20000 in
theorem ct_Xx_weakest_x1 {E : zE} (hE : zEv E) {l : Launch} (hl : l.stackTraces = false) {D : zD} (hD : zDok E D) (V : Nat → Nat → Int32) (P : Nat → Nat → Value) (PH : aH) (a : Nat) (h32 : a < 4294967296) (ha : 2 ≤ a) (sz : Nat) : zM E l y_Xx_weakest [.code y_Xx_weakest c_Xx_weakest 6 (some .int)] rm_Xx_weakest [.ref (D.1 0), .int (nI a)] (HM D V P PH) sz (zThr X_IOOBE (HM D V P PH) sz) := by
  refine zM_of hE hl (by decide +kernel) [some (.ref (D.1 0)), some (.int (nI a)), none, none, none, none] ⟨rfl, rfl, Nat.le_of_ble_eq_true rfl⟩ ?_
  intro G C q htb
  refine Z_run C it_Xx_weakest 1 (f2 := (1, [some (.ref (D.1 0)), some (.int (nI a)), none, none, none, none], [.int (nI a)])) rfl ?_
  exact Zr_thrS C it_Xx_weakest rfl p_Xx_needSide ml_Xx_132 [.int (nI a)] (ct_Xx_needSide_x C.ev C.l a (by omega) (by omega) (HM D V P PH) _) rfl rfl ⟨by decide, by decide, by decide, by decide⟩ (Nat.le_of_ble_eq_true rfl) rfl q htb (⟨rfl, rfl, rfl⟩) (by decide) (by decide)
