/-! ===== BrackenGambit: pieces asked for, exchanges ===== -/
theorem vcx_al {D : zD} {V : Nat → Nat → Int32} {P : Nat → Nat → Value} {b c : Nat} (hb : isB b) : ∀ i, zin i → vcx V (b + 1) (c + 1) i = vcp V (b + 1) (c + 1) 36 i ∨ cAl (mk D i (vcp V (b + 1) (c + 1) 36 i) (P i)) (mk D i (vcx V (b + 1) (c + 1) i) (P i)) := by
  intro i hi
  by_cases h : i = b + 1
  · subst h
    right
    rw [hb.2.1, hb.2.1]
    refine ⟨rfl, rfl, Nat.le_of_ble_eq_true rfl, fun k hk => ?_⟩
    have hk8 : k < 36 := hk
    refine congrArg Value.int ?_
    rw [vcx_s, vcp_in hk8]
  · left
    rw [vcx_n h, vcp_n h]
theorem bF_vcx {V : Nat → Nat → Int32} : bF (vcx V 36 3) 35 = bF V 2 := by
  funext k
  unfold bF
  rw [show (35 : Nat) + 1 = 36 from rfl, vcx_s]
set_option maxRecDepth 20000 in
theorem ct_Xx_neededPiece {E : zE} (hE : zEv E) {l : Launch} (hl : l.stackTraces = false) {D : zD} (hD : zDok E D) (V : Nat → Nat → Int32) (P : Nat → Nat → Value) (PH : aH) (hF : okF (bF V 2)) (a : Nat) (ha : a < 36) (hne : bF V 2 a ≠ 0) (sz : Nat) : zM E l y_Xx_neededPiece [.code y_Xx_neededPiece c_Xx_neededPiece 2 (some .int)] rm_Xx_neededPiece [.ref (D.1 0), .int (nI a)] (HM D V P PH) sz (zRet (some (.int (nI (bF V 2 a)))) (HM D V P PH) sz) := by
  refine zM_of hE hl (by decide +kernel) [some (.ref (D.1 0)), some (.int (nI a))] ⟨rfl, rfl, Nat.le_of_ble_eq_true rfl⟩ ?_
  intro G C q htb
  have hFa := hF a ha
  refine Z_run C it_Xx_neededPiece 1 (f2 := (1, [some (.ref (D.1 0)), some (.int (nI a))], [.int (nI a)])) rfl ?_
  refine Zr_callS C it_Xx_neededPiece rfl p_Xx_needSquare ml_Xx_41 [.int (nI a)] (ct_Xx_needSquare C.ev C.l a (by omega) (HM D V P PH) _) rfl rfl ⟨by decide, by decide, by decide, by decide⟩ (Nat.le_of_ble_eq_true rfl) rfl ?_
  show Z E G (HM D V P PH) sz 1 6 (4, [some (.ref (D.1 0)), some (.int (nI a))], [])
  refine Z_run C it_Xx_neededPiece 1 (f2 := (5, [some (.ref (D.1 0)), some (.int (nI a))], [.ref (D.1 0)])) rfl ?_
  refine Zm_get C it_Xx_neededPiece hD rfl 0 wi_Xx (by decide) rfl rfl (j := 0) (by decide) fl_Xx_10 (v := .ref (D.1 1)) rfl ?_
  refine Zm_get C it_Xx_neededPiece hD rfl 1 wi_Gm (by decide) rfl rfl (j := 0) (by decide) fl_Xx_49 (v := .ref (D.1 2)) rfl ?_
  refine Z_run C it_Xx_neededPiece 1 (f2 := (12, [some (.ref (D.1 0)), some (.int (nI a))], [.int (nI a), .ref (D.1 2)])) rfl ?_
  refine Zr_callV C it_Xx_neededPiece hD rfl p_Bd_isEmpty ml_Xx_52 2 (by decide) rfl rfl [.int (nI a)] (ct_Bd_isEmpty C.ev C.l hD _ _ _ 2 isB_2 hF a (by first | assumption | omega) _) rfl rfl ⟨by decide, by decide, by decide, by decide⟩ (Nat.le_of_ble_eq_true rfl) rfl ?_
  show Z E G (HM D V P PH) sz 1 6 (15, [some (.ref (D.1 0)), some (.int (nI a))], [.int (bI (bF V 2 a == 0))])
  refine Z_br C it_Xx_neededPiece rfl rfl (fun hc1 => ?_) (fun hc1 => ?_)
  · skip
    refine Z_run C it_Xx_neededPiece 1 (f2 := (29, [some (.ref (D.1 0)), some (.int (nI a))], [.ref (D.1 0)])) rfl ?_
    refine Zm_get C it_Xx_neededPiece hD rfl 0 wi_Xx (by decide) rfl rfl (j := 0) (by decide) fl_Xx_10 (v := .ref (D.1 1)) rfl ?_
    refine Zm_get C it_Xx_neededPiece hD rfl 1 wi_Gm (by decide) rfl rfl (j := 0) (by decide) fl_Xx_49 (v := .ref (D.1 2)) rfl ?_
    refine Z_run C it_Xx_neededPiece 1 (f2 := (36, [some (.ref (D.1 0)), some (.int (nI a))], [.int (nI a), .ref (D.1 2)])) rfl ?_
    refine Zr_callV C it_Xx_neededPiece hD rfl p_Bd_pieceOn ml_Xx_244 2 (by decide) rfl rfl [.int (nI a)] (ct_Bd_pieceOn C.ev C.l hD _ _ _ 2 isB_2 a (by first | assumption | omega) _) rfl rfl ⟨by decide, by decide, by decide, by decide⟩ (Nat.le_of_ble_eq_true rfl) rfl ?_
    show Z E G (HM D V P PH) sz 1 6 (39, [some (.ref (D.1 0)), some (.int (nI a))], [.int (nI (bF V 2 a))])
    exact Z_iret C q.e it_Xx_neededPiece rfl (zRet_i rfl) (by decide) (by decide)
  · exact absurd (bI_1.mp hc1) (by simp [hne])
set_option maxRecDepth 20000 in
theorem ct_Xx_neededPiece_x1 {E : zE} (hE : zEv E) {l : Launch} (hl : l.stackTraces = false) {D : zD} (hD : zDok E D) (V : Nat → Nat → Int32) (P : Nat → Nat → Value) (PH : aH) (a : Nat) (h32 : a < 4294967296) (ha : 36 ≤ a) (sz : Nat) : zM E l y_Xx_neededPiece [.code y_Xx_neededPiece c_Xx_neededPiece 2 (some .int)] rm_Xx_neededPiece [.ref (D.1 0), .int (nI a)] (HM D V P PH) sz (zThr X_IOOBE (HM D V P PH) sz) := by
  refine zM_of hE hl (by decide +kernel) [some (.ref (D.1 0)), some (.int (nI a))] ⟨rfl, rfl, Nat.le_of_ble_eq_true rfl⟩ ?_
  intro G C q htb
  refine Z_run C it_Xx_neededPiece 1 (f2 := (1, [some (.ref (D.1 0)), some (.int (nI a))], [.int (nI a)])) rfl ?_
  exact Zr_thrS C it_Xx_neededPiece rfl p_Xx_needSquare ml_Xx_41 [.int (nI a)] (ct_Xx_needSquare_x C.ev C.l a (by omega) (by omega) (HM D V P PH) _) rfl rfl ⟨by decide, by decide, by decide, by decide⟩ (Nat.le_of_ble_eq_true rfl) rfl q htb (⟨rfl, rfl, rfl⟩) (by decide) (by decide)
set_option maxRecDepth 20000 in
theorem ct_Xx_sideAt {E : zE} (hE : zEv E) {l : Launch} (hl : l.stackTraces = false) {D : zD} (hD : zDok E D) (V : Nat → Nat → Int32) (P : Nat → Nat → Value) (PH : aH) (hF : okF (bF V 2)) (a : Nat) (ha : a < 36) (hne : bF V 2 a ≠ 0) (sz : Nat) : zM E l y_Xx_sideAt [.code y_Xx_sideAt c_Xx_sideAt 2 (some .int)] rm_Xx_sideAt [.ref (D.1 0), .int (nI a)] (HM D V P PH) sz (zRet (some (.int (nI (sd (bF V 2 a))))) (HM D V P PH) sz) := by
  refine zM_of hE hl (by decide +kernel) [some (.ref (D.1 0)), some (.int (nI a))] ⟨rfl, rfl, Nat.le_of_ble_eq_true rfl⟩ ?_
  intro G C q htb
  have hFa := hF a ha
  refine Z_run C it_Xx_sideAt 2 (f2 := (2, [some (.ref (D.1 0)), some (.int (nI a))], [.int (nI a), .ref (D.1 0)])) rfl ?_
  refine Zr_callV C it_Xx_sideAt hD rfl p_Xx_neededPiece ml_Xx_138 0 (by decide) rfl rfl [.int (nI a)] (ct_Xx_neededPiece C.ev C.l hD _ _ _ hF a (by omega) hne _) rfl rfl ⟨by decide, by decide, by decide, by decide⟩ (Nat.le_of_ble_eq_true rfl) rfl ?_
  show Z E G (HM D V P PH) sz 2 12 (5, [some (.ref (D.1 0)), some (.int (nI a))], [.int (nI (bF V 2 a))])
  refine Zr_callS C it_Xx_sideAt rfl p_Pc_sideOf ml_Xx_141 [.int (nI (bF V 2 a))] (ct_Pc_sideOf C.ev C.l (bF V 2 a) (by first | assumption | omega | exact hF _ (by omega)) _ _) rfl rfl ⟨by decide, by decide, by decide, by decide⟩ (Nat.le_of_ble_eq_true rfl) rfl ?_
  show Z E G (HM D V P PH) sz 2 12 (8, [some (.ref (D.1 0)), some (.int (nI a))], [.int (nI (sd (bF V 2 a)))])
  exact Z_iret C q.e it_Xx_sideAt rfl (zRet_i rfl) (by decide) (by decide)
set_option maxRecDepth 20000 in
theorem ct_Xx_sideAt_x1 {E : zE} (hE : zEv E) {l : Launch} (hl : l.stackTraces = false) {D : zD} (hD : zDok E D) (V : Nat → Nat → Int32) (P : Nat → Nat → Value) (PH : aH) (a : Nat) (h32 : a < 4294967296) (ha : 36 ≤ a) (sz : Nat) : zM E l y_Xx_sideAt [.code y_Xx_sideAt c_Xx_sideAt 2 (some .int)] rm_Xx_sideAt [.ref (D.1 0), .int (nI a)] (HM D V P PH) sz (zThr X_IOOBE (HM D V P PH) sz) := by
  refine zM_of hE hl (by decide +kernel) [some (.ref (D.1 0)), some (.int (nI a))] ⟨rfl, rfl, Nat.le_of_ble_eq_true rfl⟩ ?_
  intro G C q htb
  refine Z_run C it_Xx_sideAt 2 (f2 := (2, [some (.ref (D.1 0)), some (.int (nI a))], [.int (nI a), .ref (D.1 0)])) rfl ?_
  exact Zr_thrV C it_Xx_sideAt hD rfl p_Xx_neededPiece ml_Xx_138 0 (by decide) rfl rfl [.int (nI a)] (ct_Xx_neededPiece_x1 C.ev C.l hD _ _ _ a h32 ha _) rfl rfl ⟨by decide, by decide, by decide, by decide⟩ (Nat.le_of_ble_eq_true rfl) rfl q htb (⟨rfl, rfl, rfl⟩) (by decide) (by decide)
set_option maxRecDepth 20000 in
theorem ct_Xx_stepsAt {E : zE} (hE : zEv E) {l : Launch} (hl : l.stackTraces = false) {D : zD} (hD : zDok E D) (V : Nat → Nat → Int32) (P : Nat → Nat → Value) (PH : aH) (hF : okF (bF V 2)) (a : Nat) (ha : a < 36) (hne : bF V 2 a ≠ 0) (sz : Nat) : zM E l y_Xx_stepsAt [.code y_Xx_stepsAt c_Xx_stepsAt 2 (some .int)] rm_Xx_stepsAt [.ref (D.1 0), .int (nI a)] (HM D V P PH) sz (zRet (some (.int (nI (stp (bF V 2 a))))) (HM D V P PH) sz) := by
  refine zM_of hE hl (by decide +kernel) [some (.ref (D.1 0)), some (.int (nI a))] ⟨rfl, rfl, Nat.le_of_ble_eq_true rfl⟩ ?_
  intro G C q htb
  have hFa := hF a ha
  refine Z_run C it_Xx_stepsAt 2 (f2 := (2, [some (.ref (D.1 0)), some (.int (nI a))], [.int (nI a), .ref (D.1 0)])) rfl ?_
  refine Zr_callV C it_Xx_stepsAt hD rfl p_Xx_neededPiece ml_Xx_138 0 (by decide) rfl rfl [.int (nI a)] (ct_Xx_neededPiece C.ev C.l hD _ _ _ hF a (by omega) hne _) rfl rfl ⟨by decide, by decide, by decide, by decide⟩ (Nat.le_of_ble_eq_true rfl) rfl ?_
  show Z E G (HM D V P PH) sz 2 12 (5, [some (.ref (D.1 0)), some (.int (nI a))], [.int (nI (bF V 2 a))])
  refine Zr_callS C it_Xx_stepsAt rfl p_Pc_stepsOf ml_Xx_146 [.int (nI (bF V 2 a))] (ct_Pc_stepsOf C.ev C.l (bF V 2 a) (by first | assumption | omega | exact hF _ (by omega)) _ _) rfl rfl ⟨by decide, by decide, by decide, by decide⟩ (Nat.le_of_ble_eq_true rfl) rfl ?_
  show Z E G (HM D V P PH) sz 2 12 (8, [some (.ref (D.1 0)), some (.int (nI a))], [.int (nI (stp (bF V 2 a)))])
  exact Z_iret C q.e it_Xx_stepsAt rfl (zRet_i rfl) (by decide) (by decide)
set_option maxRecDepth 20000 in
theorem ct_Xx_stepsAt_x1 {E : zE} (hE : zEv E) {l : Launch} (hl : l.stackTraces = false) {D : zD} (hD : zDok E D) (V : Nat → Nat → Int32) (P : Nat → Nat → Value) (PH : aH) (a : Nat) (h32 : a < 4294967296) (ha : 36 ≤ a) (sz : Nat) : zM E l y_Xx_stepsAt [.code y_Xx_stepsAt c_Xx_stepsAt 2 (some .int)] rm_Xx_stepsAt [.ref (D.1 0), .int (nI a)] (HM D V P PH) sz (zThr X_IOOBE (HM D V P PH) sz) := by
  refine zM_of hE hl (by decide +kernel) [some (.ref (D.1 0)), some (.int (nI a))] ⟨rfl, rfl, Nat.le_of_ble_eq_true rfl⟩ ?_
  intro G C q htb
  refine Z_run C it_Xx_stepsAt 2 (f2 := (2, [some (.ref (D.1 0)), some (.int (nI a))], [.int (nI a), .ref (D.1 0)])) rfl ?_
  exact Zr_thrV C it_Xx_stepsAt hD rfl p_Xx_neededPiece ml_Xx_138 0 (by decide) rfl rfl [.int (nI a)] (ct_Xx_neededPiece_x1 C.ev C.l hD _ _ _ a h32 ha _) rfl rfl ⟨by decide, by decide, by decide, by decide⟩ (Nat.le_of_ble_eq_true rfl) rfl q htb (⟨rfl, rfl, rfl⟩) (by decide) (by decide)
set_option maxRecDepth 20000 in
theorem ct_Xx_worthAt {E : zE} (hE : zEv E) {l : Launch} (hl : l.stackTraces = false) {D : zD} (hD : zDok E D) (V : Nat → Nat → Int32) (P : Nat → Nat → Value) (PH : aH) (hF : okF (bF V 2)) (a : Nat) (ha : a < 36) (hne : bF V 2 a ≠ 0) (sz : Nat) : zM E l y_Xx_worthAt [.code y_Xx_worthAt c_Xx_worthAt 2 (some .int)] rm_Xx_worthAt [.ref (D.1 0), .int (nI a)] (HM D V P PH) sz (zRet (some (.int (nI (wr (bF V 2 a))))) (HM D V P PH) sz) := by
  refine zM_of hE hl (by decide +kernel) [some (.ref (D.1 0)), some (.int (nI a))] ⟨rfl, rfl, Nat.le_of_ble_eq_true rfl⟩ ?_
  intro G C q htb
  have hFa := hF a ha
  refine Z_run C it_Xx_worthAt 2 (f2 := (2, [some (.ref (D.1 0)), some (.int (nI a))], [.int (nI a), .ref (D.1 0)])) rfl ?_
  refine Zr_callV C it_Xx_worthAt hD rfl p_Xx_neededPiece ml_Xx_138 0 (by decide) rfl rfl [.int (nI a)] (ct_Xx_neededPiece C.ev C.l hD _ _ _ hF a (by omega) hne _) rfl rfl ⟨by decide, by decide, by decide, by decide⟩ (Nat.le_of_ble_eq_true rfl) rfl ?_
  show Z E G (HM D V P PH) sz 2 12 (5, [some (.ref (D.1 0)), some (.int (nI a))], [.int (nI (bF V 2 a))])
  refine Zr_callS C it_Xx_worthAt rfl p_Pc_worthOf ml_Xx_149 [.int (nI (bF V 2 a))] (ct_Pc_worthOf C.ev C.l hD _ _ _ (bF V 2 a) (by first | assumption | omega | exact hF _ (by omega)) _) rfl rfl ⟨by decide, by decide, by decide, by decide⟩ (Nat.le_of_ble_eq_true rfl) rfl ?_
  show Z E G (HM D V P PH) sz 2 12 (8, [some (.ref (D.1 0)), some (.int (nI a))], [.int (nI (wr (bF V 2 a)))])
  exact Z_iret C q.e it_Xx_worthAt rfl (zRet_i rfl) (by decide) (by decide)
set_option maxRecDepth 20000 in
theorem ct_Xx_worthAt_x1 {E : zE} (hE : zEv E) {l : Launch} (hl : l.stackTraces = false) {D : zD} (hD : zDok E D) (V : Nat → Nat → Int32) (P : Nat → Nat → Value) (PH : aH) (a : Nat) (h32 : a < 4294967296) (ha : 36 ≤ a) (sz : Nat) : zM E l y_Xx_worthAt [.code y_Xx_worthAt c_Xx_worthAt 2 (some .int)] rm_Xx_worthAt [.ref (D.1 0), .int (nI a)] (HM D V P PH) sz (zThr X_IOOBE (HM D V P PH) sz) := by
  refine zM_of hE hl (by decide +kernel) [some (.ref (D.1 0)), some (.int (nI a))] ⟨rfl, rfl, Nat.le_of_ble_eq_true rfl⟩ ?_
  intro G C q htb
  refine Z_run C it_Xx_worthAt 2 (f2 := (2, [some (.ref (D.1 0)), some (.int (nI a))], [.int (nI a), .ref (D.1 0)])) rfl ?_
  exact Zr_thrV C it_Xx_worthAt hD rfl p_Xx_neededPiece ml_Xx_138 0 (by decide) rfl rfl [.int (nI a)] (ct_Xx_neededPiece_x1 C.ev C.l hD _ _ _ a h32 ha _) rfl rfl ⟨by decide, by decide, by decide, by decide⟩ (Nat.le_of_ble_eq_true rfl) rfl q htb (⟨rfl, rfl, rfl⟩) (by decide) (by decide)
set_option maxRecDepth 20000 in
theorem ct_Xx_reach {E : zE} (hE : zEv E) {l : Launch} (hl : l.stackTraces = false) {D : zD} (hD : zDok E D) (V : Nat → Nat → Int32) (P : Nat → Nat → Value) (PH : aH) (hF : okF (bF V 2)) (a : Nat) (ha : a < 36) (hne : bF V 2 a ≠ 0) (sz : Nat) : zM E l y_Xx_reach [.code y_Xx_reach c_Xx_reach 2 (some .long)] rm_Xx_reach [.ref (D.1 0), .int (nI a)] (HM D V P PH) sz (zRet (some (.long (lN (gfa (bF V 2) a (sd (bF V 2 a)))))) (HM D V P PH) sz) := by
  refine zM_of hE hl (by decide +kernel) [some (.ref (D.1 0)), some (.int (nI a))] ⟨rfl, rfl, Nat.le_of_ble_eq_true rfl⟩ ?_
  intro G C q htb
  have hFa := hF a ha
  refine Z_run C it_Xx_reach 2 (f2 := (2, [some (.ref (D.1 0)), some (.int (nI a))], [.int (nI a), .ref (D.1 0)])) rfl ?_
  refine Zr_callV C it_Xx_reach hD rfl p_Xx_neededPiece ml_Xx_138 0 (by decide) rfl rfl [.int (nI a)] (ct_Xx_neededPiece C.ev C.l hD _ _ _ hF a (by omega) hne _) rfl rfl ⟨by decide, by decide, by decide, by decide⟩ (Nat.le_of_ble_eq_true rfl) rfl ?_
  show Z E G (HM D V P PH) sz 2 12 (5, [some (.ref (D.1 0)), some (.int (nI a))], [.int (nI (bF V 2 a))])
  refine Z_run C it_Xx_reach 2 (f2 := (7, [some (.ref (D.1 0)), some (.int (nI a))], [.ref (D.1 0)])) rfl ?_
  refine Zm_get C it_Xx_reach hD rfl 0 wi_Xx (by decide) rfl rfl (j := 0) (by decide) fl_Xx_10 (v := .ref (D.1 1)) rfl ?_
  refine Zm_get C it_Xx_reach hD rfl 1 wi_Gm (by decide) rfl rfl (j := 0) (by decide) fl_Xx_49 (v := .ref (D.1 2)) rfl ?_
  refine Z_run C it_Xx_reach 1 (f2 := (14, [some (.ref (D.1 0)), some (.int (nI a))], [.int (nI a), .ref (D.1 2)])) rfl ?_
  refine Zr_callV C it_Xx_reach hD rfl p_Bd_reachFrom ml_Xx_173 2 (by decide) rfl rfl [.int (nI a)] (ct_Bd_reachFrom C.ev C.l hD _ _ _ 2 isB_2 hF a (by first | assumption | omega) _) rfl rfl ⟨by decide, by decide, by decide, by decide⟩ (Nat.le_of_ble_eq_true rfl) rfl ?_
  show Z E G (HM D V P PH) sz 2 12 (17, [some (.ref (D.1 0)), some (.int (nI a))], [.long (lN (gfa (bF V 2) a (sd (bF V 2 a))))])
  exact Z_lret C q.e it_Xx_reach rfl (zRet_l rfl) (by decide) (by decide)
set_option maxRecDepth 20000 in
theorem ct_Xx_reach_x1 {E : zE} (hE : zEv E) {l : Launch} (hl : l.stackTraces = false) {D : zD} (hD : zDok E D) (V : Nat → Nat → Int32) (P : Nat → Nat → Value) (PH : aH) (a : Nat) (h32 : a < 4294967296) (ha : 36 ≤ a) (sz : Nat) : zM E l y_Xx_reach [.code y_Xx_reach c_Xx_reach 2 (some .long)] rm_Xx_reach [.ref (D.1 0), .int (nI a)] (HM D V P PH) sz (zThr X_IOOBE (HM D V P PH) sz) := by
  refine zM_of hE hl (by decide +kernel) [some (.ref (D.1 0)), some (.int (nI a))] ⟨rfl, rfl, Nat.le_of_ble_eq_true rfl⟩ ?_
  intro G C q htb
  refine Z_run C it_Xx_reach 2 (f2 := (2, [some (.ref (D.1 0)), some (.int (nI a))], [.int (nI a), .ref (D.1 0)])) rfl ?_
  exact Zr_thrV C it_Xx_reach hD rfl p_Xx_neededPiece ml_Xx_138 0 (by decide) rfl rfl [.int (nI a)] (ct_Xx_neededPiece_x1 C.ev C.l hD _ _ _ a h32 ha _) rfl rfl ⟨by decide, by decide, by decide, by decide⟩ (Nat.le_of_ble_eq_true rfl) rfl q htb (⟨rfl, rfl, rfl⟩) (by decide) (by decide)
set_option maxRecDepth 20000 in
theorem ct_Xx_exchange_x1 {E : zE} (hE : zEv E) {l : Launch} (hl : l.stackTraces = false) {D : zD} (hD : zDok E D) (V : Nat → Nat → Int32) (P : Nat → Nat → Value) (PH : aH) (a : Nat) (h32 : a < 4294967296) (ha : 36 ≤ a) (sz : Nat) : zM E l y_Xx_exchange [.code y_Xx_exchange c_Xx_exchange 2 (some .int)] rm_Xx_exchange [.ref (D.1 0), .int (nI a)] (HM D V P PH) sz (zThr X_IOOBE (HM D V P PH) sz) := by
  refine zM_of hE hl (by decide +kernel) [some (.ref (D.1 0)), some (.int (nI a))] ⟨rfl, rfl, Nat.le_of_ble_eq_true rfl⟩ ?_
  intro G C q htb
  refine Z_run C it_Xx_exchange 2 (f2 := (2, [some (.ref (D.1 0)), some (.int (nI a))], [.int (nI a), .ref (D.1 0)])) rfl ?_
  exact Zr_thrV C it_Xx_exchange hD rfl p_Xx_neededPiece ml_Xx_138 0 (by decide) rfl rfl [.int (nI a)] (ct_Xx_neededPiece_x1 C.ev C.l hD _ _ _ a h32 ha _) rfl rfl ⟨by decide, by decide, by decide, by decide⟩ (Nat.le_of_ble_eq_true rfl) rfl q htb (⟨rfl, rfl, rfl⟩) (by decide) (by decide)


set_option maxRecDepth 20000 in
theorem ct_Xx_winner {E : zE} (hE : zEv E) {l : Launch} (hl : l.stackTraces = false) {D : zD} (hD : zDok E D) (V : Nat → Nat → Int32) (P : Nat → Nat → Value) (PH : aH) (k : Nat) (hk : k < 2) (hCh : V 1 6 = nI k) (sz : Nat) : zM E l y_Xx_winner [.code y_Xx_winner c_Xx_winner 1 (some .int)] rm_Xx_winner [.ref (D.1 0)] (HM D V P PH) sz (zRet (some (.int (nI k))) (HM D V P PH) sz) := by
  refine zM_of hE hl (by decide +kernel) [some (.ref (D.1 0))] ⟨rfl, rfl, Nat.le_of_ble_eq_true rfl⟩ ?_
  intro G C q htb
  refine Z_run C it_Xx_winner 1 (f2 := (1, [some (.ref (D.1 0))], [.ref (D.1 0)])) rfl ?_
  refine Zm_get C it_Xx_winner hD rfl 0 wi_Xx (by decide) rfl rfl (j := 0) (by decide) fl_Xx_10 (v := .ref (D.1 1)) rfl ?_
  refine Zm_get C it_Xx_winner hD rfl 1 wi_Gm (by decide) rfl rfl (j := 6) (by decide) fl_Xx_205 (v := .int (nI k)) (congrArg Value.int hCh) ?_
  refine Z_run C it_Xx_winner 1 (f2 := (8, [some (.ref (D.1 0))], [.int ((-1)), .int (nI k)])) rfl ?_
  refine Z_br C it_Xx_winner rfl rfl (fun hc1 => ?_) (fun hc1 => ?_)
  · skip
    refine Z_run C it_Xx_winner 1 (f2 := (22, [some (.ref (D.1 0))], [.ref (D.1 0)])) rfl ?_
    refine Zm_get C it_Xx_winner hD rfl 0 wi_Xx (by decide) rfl rfl (j := 0) (by decide) fl_Xx_10 (v := .ref (D.1 1)) rfl ?_
    refine Zm_get C it_Xx_winner hD rfl 1 wi_Gm (by decide) rfl rfl (j := 6) (by decide) fl_Xx_205 (v := .int (nI k)) (congrArg Value.int hCh) ?_
    exact Z_iret C q.e it_Xx_winner rfl (zRet_i rfl) (by decide) (by decide)
  · exact absurd (Classical.not_not.mp hc1) (nI_m1 (by omega))


set_option maxRecDepth 20000 in
theorem ct_Xx_exchangeTried {E : zE} (hE : zEv E) {l : Launch} (hl : l.stackTraces = false) {D : zD} (hD : zDok E D) (V : Nat → Nat → Int32) (P : Nat → Nat → Value) (PH : aH) (hF : okF (bF V 2)) (a : Nat) (ha : a < 36) (sz : Nat) : zM E l y_Xx_exchangeTried [.code y_Xx_exchangeTried c_Xx_exchangeTried 2 (some .int)] rm_Xx_exchangeTried [.ref (D.1 0), .int (nI a)] (HM D V P PH) sz (zEx D V P PH sz (exN 16 (bF V 2) a)) := by
  refine zM_of hE hl (by decide +kernel) [some (.ref (D.1 0)), some (.int (nI a))] ⟨rfl, rfl, Nat.le_of_ble_eq_true rfl⟩ ?_
  intro G C q htb
  refine Z_run C it_Xx_exchangeTried 1 (f2 := (1, [some (.ref (D.1 0)), some (.int (nI a))], [.ref (D.1 0)])) rfl ?_
  refine Zm_get C it_Xx_exchangeTried hD rfl 0 wi_Xx (by decide) rfl rfl (j := 3) (by decide) fl_Xx_33 (v := .ref (D.1 35)) rfl ?_
  refine Z_run C it_Xx_exchangeTried 1 (f2 := (5, [some (.ref (D.1 0)), some (.int (nI a))], [.ref (D.1 0), .ref (D.1 35)])) rfl ?_
  refine Zm_get C it_Xx_exchangeTried hD rfl 0 wi_Xx (by decide) rfl rfl (j := 0) (by decide) fl_Xx_10 (v := .ref (D.1 1)) rfl ?_
  refine Zm_get C it_Xx_exchangeTried hD rfl 1 wi_Gm (by decide) rfl rfl (j := 0) (by decide) fl_Xx_49 (v := .ref (D.1 2)) rfl ?_
  refine Zr_callV C it_Xx_exchangeTried hD rfl p_Bd_copy ml_Xx_247 35 (by decide) rfl rfl [.ref (D.1 2)] (ct_Bd_copy C.ev C.l hD _ _ _ 35 isB_35 2 isB_2 _) rfl rfl ⟨by decide, by decide, by decide, by decide⟩ (Nat.le_of_ble_eq_true rfl) rfl ?_
  show Z E G (HM D (vcp V 36 3 36) P PH) sz 0 0 (14, [some (.ref (D.1 0)), some (.int (nI a))], [])
  refine Zm_ext (V2 := vcx V 36 3) (vcx_al (b := 35) (c := 2) isB_35) ?_
  refine Z_run C it_Xx_exchangeTried 1 (f2 := (15, [some (.ref (D.1 0)), some (.int (nI a))], [.ref (D.1 0)])) rfl ?_
  refine Zm_get C it_Xx_exchangeTried hD rfl 0 wi_Xx (by decide) rfl rfl (j := 3) (by decide) fl_Xx_33 (v := .ref (D.1 35)) rfl ?_
  refine Z_run C it_Xx_exchangeTried 2 (f2 := (20, [some (.ref (D.1 0)), some (.int (nI a))], [.int (nI 0), .int (nI a), .ref (D.1 35)])) rfl ?_
  have hF2 : okF (bF (vcx V 36 3) 35) := by rw [bF_vcx]; exact hF
  have hX := ct_Xx_exchangeOn P PH sz hD 16 (by omega) C.ev C.l (vcx V 36 3) hF2 a ha
  refine Zr_exS C it_Xx_exchangeTried rfl p_Xx_exchangeOn ml_Xx_251 [.ref (D.1 35), .int (nI a), .int (nI 0)] hX rfl rfl ⟨by decide, by decide, by decide, by decide⟩ (Nat.le_of_ble_eq_true rfl) rfl (fun V2 hV2 => ?_)
  show Z E G (HM D V2 P PH) sz 0 0 (23, [some (.ref (D.1 0)), some (.int (nI a))], [.int (nI (exN 16 (bF (vcx V 36 3) 35) a))])
  exact Z_iret C q.e it_Xx_exchangeTried rfl (⟨by rw [bF_vcx], rfl, _, rfl, fun c hc => by rw [hV2 c hc, vcx_n hc]⟩) (by decide) (by decide)
set_option maxRecDepth 20000 in
theorem ct_Xx_exchange {E : zE} (hE : zEv E) {l : Launch} (hl : l.stackTraces = false) {D : zD} (hD : zDok E D) (V : Nat → Nat → Int32) (P : Nat → Nat → Value) (PH : aH) (hF : okF (bF V 2)) (a : Nat) (ha : a < 36) (hne : bF V 2 a ≠ 0) (sz : Nat) : zM E l y_Xx_exchange [.code y_Xx_exchange c_Xx_exchange 2 (some .int)] rm_Xx_exchange [.ref (D.1 0), .int (nI a)] (HM D V P PH) sz (zEx D V P PH sz (exN 16 (bF V 2) a)) := by
  refine zM_of hE hl (by decide +kernel) [some (.ref (D.1 0)), some (.int (nI a))] ⟨rfl, rfl, Nat.le_of_ble_eq_true rfl⟩ ?_
  intro G C q htb
  have hFa := hF a ha
  refine Z_run C it_Xx_exchange 2 (f2 := (2, [some (.ref (D.1 0)), some (.int (nI a))], [.int (nI a), .ref (D.1 0)])) rfl ?_
  refine Zr_callV C it_Xx_exchange hD rfl p_Xx_neededPiece ml_Xx_138 0 (by decide) rfl rfl [.int (nI a)] (ct_Xx_neededPiece C.ev C.l hD _ _ _ hF a (by omega) hne _) rfl rfl ⟨by decide, by decide, by decide, by decide⟩ (Nat.le_of_ble_eq_true rfl) rfl ?_
  show Z E G (HM D V P PH) sz 2 12 (5, [some (.ref (D.1 0)), some (.int (nI a))], [.int (nI (bF V 2 a))])
  refine Z_run C it_Xx_exchange 3 (f2 := (8, [some (.ref (D.1 0)), some (.int (nI a))], [.int (nI a), .ref (D.1 0)])) rfl ?_
  refine Zr_exV C it_Xx_exchange hD rfl p_Xx_exchangeTried ml_Xx_189 0 (by decide) rfl rfl [.int (nI a)] (ct_Xx_exchangeTried C.ev C.l hD V P PH hF a ha _) rfl rfl ⟨by decide, by decide, by decide, by decide⟩ (Nat.le_of_ble_eq_true rfl) rfl (fun V2 hV2 => ?_)
  show Z E G (HM D V2 P PH) sz 2 12 (11, [some (.ref (D.1 0)), some (.int (nI a))], [.int (nI (exN 16 (bF V 2) a))])
  exact Z_iret C q.e it_Xx_exchange rfl (⟨rfl, rfl, _, rfl, hV2⟩) (by decide) (by decide)
