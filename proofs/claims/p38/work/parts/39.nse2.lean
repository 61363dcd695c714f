/-! ===== BrackenGambit: what throws NoSuchElementException ===== -/
def c_nse : ByteArray := ⟨#[0x2a, 0x2b, 0xb7, 0x00, 0x0d, 0xb1]⟩
theorem zxb : zx_bytes 13 c_nse := ⟨by decide +kernel, by decide +kernel, by decide +kernel, by decide +kernel⟩
/-- an exception; the trial board may have changed -/
def zThE (X : String) (D : zD) (V : Nat → Nat → Int32) (P : Nat → Nat → Value) (PH : aH) (sz : Nat) : zO := fun o h2 sz2 => o = .inr X ∧ sz2 = sz ∧ ∃ V2, h2 = HM D V2 P PH ∧ ∀ c, c ≠ 36 → V2 c = V c
theorem tx_Xx_242 : zx_tw R_Xx 155 242 159 X_NSE "the square is empty" 13 c_nse ["java/lang/RuntimeException", "java/lang/Exception"] = true := by decide +kernel
theorem tx_Xx_196 : zx_tw R_Xx 155 196 159 X_NSE "no exchange is worth more than 0" 13 c_nse ["java/lang/RuntimeException", "java/lang/Exception"] = true := by decide +kernel
theorem tx_Xx_208 : zx_tw R_Xx 155 208 159 X_NSE "nobody has won" 13 c_nse ["java/lang/RuntimeException", "java/lang/Exception"] = true := by decide +kernel
set_option maxRecDepth 20000 in
theorem ct_Xx_neededPiece_x2 {E : zE} (hE : zEv E) {l : Launch} (hl : l.stackTraces = false) {D : zD} (hD : zDok E D) (V : Nat → Nat → Int32) (P : Nat → Nat → Value) (PH : aH) (hF : okF (bF V 2)) (a : Nat) (ha : a < 36) (hne : bF V 2 a = 0) (sz : Nat) : zM E l y_Xx_neededPiece [.code y_Xx_neededPiece c_Xx_neededPiece 2 (some .int)] rm_Xx_neededPiece [.ref (D.1 0), .int (nI a)] (HM D V P PH) sz (zThr X_NSE (HM D V P PH) sz) := by
  refine zM_of hE hl (by decide +kernel) [some (.ref (D.1 0)), some (.int (nI a))] ⟨rfl, rfl, Nat.le_of_ble_eq_true rfl⟩ ?_
  intro G C q htb
  refine Z_run C it_Xx_neededPiece 1 (f2 := (1, [some (.ref (D.1 0)), some (.int (nI a))], [.int (nI a)])) rfl ?_
  refine Zr_callS C it_Xx_neededPiece rfl p_Xx_needSquare ml_Xx_41 [.int (nI a)] (ct_Xx_needSquare C.ev C.l a (by omega) (HM D V P PH) _) rfl rfl ⟨by decide, by decide, by decide, by decide⟩ (Nat.le_of_ble_eq_true rfl) rfl ?_
  show Z E G (HM D V P PH) sz 1 6 (4, [some (.ref (D.1 0)), some (.int (nI a))], [])
  refine Z_run C it_Xx_neededPiece 1 (f2 := (5, [some (.ref (D.1 0)), some (.int (nI a))], [.ref (D.1 0)])) rfl ?_
  refine Zm_get C it_Xx_neededPiece hD rfl 0 wi_Xx (by decide) rfl rfl (j := 0) (by decide) fl_Xx_10 (v := .ref (D.1 1)) rfl ?_
  refine Zm_get C it_Xx_neededPiece hD rfl 1 wi_Gm (by decide) rfl rfl (j := 0) (by decide) fl_Xx_49 (v := .ref (D.1 2)) rfl ?_
  refine Z_run C it_Xx_neededPiece 1 (f2 := (12, [some (.ref (D.1 0)), some (.int (nI a))], [.int (nI a), .ref (D.1 2)])) rfl ?_
  refine Zr_callV C it_Xx_neededPiece hD rfl p_Bd_isEmpty ml_Xx_52 2 (by decide) rfl rfl [.int (nI a)] (ct_Bd_isEmpty C.ev C.l hD _ _ _ 2 isB_2 hF a (by first | assumption | omega) _) rfl rfl ⟨by decide, by decide, by decide, by decide⟩ (Nat.le_of_ble_eq_true rfl) rfl ?_
  show Z E G (HM D V P PH) sz 1 6 (15, [some (.ref (D.1 0)), some (.int (nI a))], [.int (bI (bF V 2 a == 0))])
  refine Z_br C it_Xx_neededPiece rfl rfl (fun hc1 => ?_) (fun hc1 => ?_)
  · exact absurd (bI_0.mp hc1) (by simp [hne])
  · skip
    exact Z_throwX C q htb it_Xx_neededPiece zxb tx_Xx_242 rfl rfl rfl rfl rfl rfl ⟨by decide, Nat.le_of_ble_eq_true rfl, by decide, by decide⟩ (⟨rfl, rfl, rfl⟩) (by decide) (by decide)
set_option maxRecDepth 20000 in
theorem ct_Xx_sideAt_x2 {E : zE} (hE : zEv E) {l : Launch} (hl : l.stackTraces = false) {D : zD} (hD : zDok E D) (V : Nat → Nat → Int32) (P : Nat → Nat → Value) (PH : aH) (hF : okF (bF V 2)) (a : Nat) (ha : a < 36) (hne : bF V 2 a = 0) (sz : Nat) : zM E l y_Xx_sideAt [.code y_Xx_sideAt c_Xx_sideAt 2 (some .int)] rm_Xx_sideAt [.ref (D.1 0), .int (nI a)] (HM D V P PH) sz (zThr X_NSE (HM D V P PH) sz) := by
  refine zM_of hE hl (by decide +kernel) [some (.ref (D.1 0)), some (.int (nI a))] ⟨rfl, rfl, Nat.le_of_ble_eq_true rfl⟩ ?_
  intro G C q htb
  refine Z_run C it_Xx_sideAt 2 (f2 := (2, [some (.ref (D.1 0)), some (.int (nI a))], [.int (nI a), .ref (D.1 0)])) rfl ?_
  exact Zr_thrV C it_Xx_sideAt hD rfl p_Xx_neededPiece ml_Xx_138 0 (by decide) rfl rfl [.int (nI a)] (ct_Xx_neededPiece_x2 C.ev C.l hD _ _ _ hF a ha hne _) rfl rfl ⟨by decide, by decide, by decide, by decide⟩ (Nat.le_of_ble_eq_true rfl) rfl q htb (⟨rfl, rfl, rfl⟩) (by decide) (by decide)
set_option maxRecDepth 20000 in
theorem ct_Xx_stepsAt_x2 {E : zE} (hE : zEv E) {l : Launch} (hl : l.stackTraces = false) {D : zD} (hD : zDok E D) (V : Nat → Nat → Int32) (P : Nat → Nat → Value) (PH : aH) (hF : okF (bF V 2)) (a : Nat) (ha : a < 36) (hne : bF V 2 a = 0) (sz : Nat) : zM E l y_Xx_stepsAt [.code y_Xx_stepsAt c_Xx_stepsAt 2 (some .int)] rm_Xx_stepsAt [.ref (D.1 0), .int (nI a)] (HM D V P PH) sz (zThr X_NSE (HM D V P PH) sz) := by
  refine zM_of hE hl (by decide +kernel) [some (.ref (D.1 0)), some (.int (nI a))] ⟨rfl, rfl, Nat.le_of_ble_eq_true rfl⟩ ?_
  intro G C q htb
  refine Z_run C it_Xx_stepsAt 2 (f2 := (2, [some (.ref (D.1 0)), some (.int (nI a))], [.int (nI a), .ref (D.1 0)])) rfl ?_
  exact Zr_thrV C it_Xx_stepsAt hD rfl p_Xx_neededPiece ml_Xx_138 0 (by decide) rfl rfl [.int (nI a)] (ct_Xx_neededPiece_x2 C.ev C.l hD _ _ _ hF a ha hne _) rfl rfl ⟨by decide, by decide, by decide, by decide⟩ (Nat.le_of_ble_eq_true rfl) rfl q htb (⟨rfl, rfl, rfl⟩) (by decide) (by decide)
set_option maxRecDepth 20000 in
theorem ct_Xx_worthAt_x2 {E : zE} (hE : zEv E) {l : Launch} (hl : l.stackTraces = false) {D : zD} (hD : zDok E D) (V : Nat → Nat → Int32) (P : Nat → Nat → Value) (PH : aH) (hF : okF (bF V 2)) (a : Nat) (ha : a < 36) (hne : bF V 2 a = 0) (sz : Nat) : zM E l y_Xx_worthAt [.code y_Xx_worthAt c_Xx_worthAt 2 (some .int)] rm_Xx_worthAt [.ref (D.1 0), .int (nI a)] (HM D V P PH) sz (zThr X_NSE (HM D V P PH) sz) := by
  refine zM_of hE hl (by decide +kernel) [some (.ref (D.1 0)), some (.int (nI a))] ⟨rfl, rfl, Nat.le_of_ble_eq_true rfl⟩ ?_
  intro G C q htb
  refine Z_run C it_Xx_worthAt 2 (f2 := (2, [some (.ref (D.1 0)), some (.int (nI a))], [.int (nI a), .ref (D.1 0)])) rfl ?_
  exact Zr_thrV C it_Xx_worthAt hD rfl p_Xx_neededPiece ml_Xx_138 0 (by decide) rfl rfl [.int (nI a)] (ct_Xx_neededPiece_x2 C.ev C.l hD _ _ _ hF a ha hne _) rfl rfl ⟨by decide, by decide, by decide, by decide⟩ (Nat.le_of_ble_eq_true rfl) rfl q htb (⟨rfl, rfl, rfl⟩) (by decide) (by decide)
set_option maxRecDepth 20000 in
theorem ct_Xx_reach_x2 {E : zE} (hE : zEv E) {l : Launch} (hl : l.stackTraces = false) {D : zD} (hD : zDok E D) (V : Nat → Nat → Int32) (P : Nat → Nat → Value) (PH : aH) (hF : okF (bF V 2)) (a : Nat) (ha : a < 36) (hne : bF V 2 a = 0) (sz : Nat) : zM E l y_Xx_reach [.code y_Xx_reach c_Xx_reach 2 (some .long)] rm_Xx_reach [.ref (D.1 0), .int (nI a)] (HM D V P PH) sz (zThr X_NSE (HM D V P PH) sz) := by
  refine zM_of hE hl (by decide +kernel) [some (.ref (D.1 0)), some (.int (nI a))] ⟨rfl, rfl, Nat.le_of_ble_eq_true rfl⟩ ?_
  intro G C q htb
  refine Z_run C it_Xx_reach 2 (f2 := (2, [some (.ref (D.1 0)), some (.int (nI a))], [.int (nI a), .ref (D.1 0)])) rfl ?_
  exact Zr_thrV C it_Xx_reach hD rfl p_Xx_neededPiece ml_Xx_138 0 (by decide) rfl rfl [.int (nI a)] (ct_Xx_neededPiece_x2 C.ev C.l hD _ _ _ hF a ha hne _) rfl rfl ⟨by decide, by decide, by decide, by decide⟩ (Nat.le_of_ble_eq_true rfl) rfl q htb (⟨rfl, rfl, rfl⟩) (by decide) (by decide)
set_option maxRecDepth 20000 in
theorem ct_Xx_exchange_x2 {E : zE} (hE : zEv E) {l : Launch} (hl : l.stackTraces = false) {D : zD} (hD : zDok E D) (V : Nat → Nat → Int32) (P : Nat → Nat → Value) (PH : aH) (hF : okF (bF V 2)) (a : Nat) (ha : a < 36) (hne : bF V 2 a = 0) (sz : Nat) : zM E l y_Xx_exchange [.code y_Xx_exchange c_Xx_exchange 2 (some .int)] rm_Xx_exchange [.ref (D.1 0), .int (nI a)] (HM D V P PH) sz (zThr X_NSE (HM D V P PH) sz) := by
  refine zM_of hE hl (by decide +kernel) [some (.ref (D.1 0)), some (.int (nI a))] ⟨rfl, rfl, Nat.le_of_ble_eq_true rfl⟩ ?_
  intro G C q htb
  refine Z_run C it_Xx_exchange 2 (f2 := (2, [some (.ref (D.1 0)), some (.int (nI a))], [.int (nI a), .ref (D.1 0)])) rfl ?_
  exact Zr_thrV C it_Xx_exchange hD rfl p_Xx_neededPiece ml_Xx_138 0 (by decide) rfl rfl [.int (nI a)] (ct_Xx_neededPiece_x2 C.ev C.l hD _ _ _ hF a ha hne _) rfl rfl ⟨by decide, by decide, by decide, by decide⟩ (Nat.le_of_ble_eq_true rfl) rfl q htb (⟨rfl, rfl, rfl⟩) (by decide) (by decide)

set_option maxRecDepth 20000 in
theorem ct_Xx_winner_x {E : zE} (hE : zEv E) {l : Launch} (hl : l.stackTraces = false) {D : zD} (hD : zDok E D) (V : Nat → Nat → Int32) (P : Nat → Nat → Value) (PH : aH) (hCh : V 1 6 = -1) (sz : Nat) : zM E l y_Xx_winner [.code y_Xx_winner c_Xx_winner 1 (some .int)] rm_Xx_winner [.ref (D.1 0)] (HM D V P PH) sz (zThr X_NSE (HM D V P PH) sz) := by
  refine zM_of hE hl (by decide +kernel) [some (.ref (D.1 0))] ⟨rfl, rfl, Nat.le_of_ble_eq_true rfl⟩ ?_
  intro G C q htb
  refine Z_run C it_Xx_winner 1 (f2 := (1, [some (.ref (D.1 0))], [.ref (D.1 0)])) rfl ?_
  refine Zm_get C it_Xx_winner hD rfl 0 wi_Xx (by decide) rfl rfl (j := 0) (by decide) fl_Xx_10 (v := .ref (D.1 1)) rfl ?_
  refine Zm_get C it_Xx_winner hD rfl 1 wi_Gm (by decide) rfl rfl (j := 6) (by decide) fl_Xx_205 (v := .int ((-1))) (congrArg Value.int hCh) ?_
  refine Z_run C it_Xx_winner 1 (f2 := (8, [some (.ref (D.1 0))], [.int ((-1)), .int ((-1))])) rfl ?_
  refine Z_br C it_Xx_winner rfl rfl (fun hc1 => ?_) (fun hc1 => ?_)
  · exact absurd rfl hc1
  · skip
    exact Z_throwX C q htb it_Xx_winner zxb tx_Xx_208 rfl rfl rfl rfl rfl rfl ⟨by decide, Nat.le_of_ble_eq_true rfl, by decide, by decide⟩ (⟨rfl, rfl, rfl⟩) (by decide) (by decide)
set_option maxRecDepth 20000 in
theorem ct_Xx_weakest_x2 {E : zE} (hE : zEv E) {l : Launch} (hl : l.stackTraces = false) {D : zD} (hD : zDok E D) (V : Nat → Nat → Int32) (P : Nat → Nat → Value) (PH : aH) (hF : okF (bF V 2)) (s : Nat) (hs : s < 2) (hw : (wkp (bF V 2) s 36).2 = none) (sz : Nat) : zM E l y_Xx_weakest [.code y_Xx_weakest c_Xx_weakest 6 (some .int)] rm_Xx_weakest [.ref (D.1 0), .int (nI s)] (HM D V P PH) sz (zThE X_NSE D V P PH sz) := by
  refine zM_of hE hl (by decide +kernel) [some (.ref (D.1 0)), some (.int (nI s)), none, none, none, none] ⟨rfl, rfl, Nat.le_of_ble_eq_true rfl⟩ ?_
  intro G C q htb
  refine Z_run C it_Xx_weakest 1 (f2 := (1, [some (.ref (D.1 0)), some (.int (nI s)), none, none, none, none], [.int (nI s)])) rfl ?_
  refine Zr_callS C it_Xx_weakest rfl p_Xx_needSide ml_Xx_132 [.int (nI s)] (ct_Xx_needSide C.ev C.l s (by omega) (HM D V P PH) _) rfl rfl ⟨by decide, by decide, by decide, by decide⟩ (Nat.le_of_ble_eq_true rfl) rfl ?_
  show Z E G (HM D V P PH) sz 1 6 (4, [some (.ref (D.1 0)), some (.int (nI s)), none, none, none, none], [])
  refine Z_run C it_Xx_weakest 6 (f2 := (11, [some (.ref (D.1 0)), some (.int (nI s)), some (.int (nI 0)), some (.int ((-1))), some (.int (nI 0)), none], [])) rfl ?_
  refine lp_Xx_weakest C q hD hF hs (fun V2 hV2 => ?_) 37 0 V (fun c hc => rfl) (by omega) (by omega)
  refine Z_run C it_Xx_weakest 2 (f2 := (62, [some (.ref (D.1 0)), some (.int (nI s)), some (.int (nI (wkp (bF V 2) s 36).1)), some (.int (oI (wkp (bF V 2) s 36).2)), some (.int (nI 36)), none], [.int ((-1)), .int (oI (wkp (bF V 2) s 36).2)])) rfl ?_
  refine Z_br C it_Xx_weakest rfl rfl (fun hc1 => ?_) (fun hc1 => ?_)
  · exact absurd (show oI (wkp (bF V 2) s 36).2 = -1 by rw [hw]; rfl) hc1
  · skip
    exact Z_throwX C q htb it_Xx_weakest zxb tx_Xx_196 rfl rfl rfl rfl rfl rfl ⟨by decide, Nat.le_of_ble_eq_true rfl, by decide, by decide⟩ (⟨rfl, rfl, _, rfl, hV2⟩) (by decide) (by decide)
