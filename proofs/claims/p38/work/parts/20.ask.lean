/-! ===== BrackenGambit: the queries ===== -/
set_option maxRecDepth 20000 in
theorem ct_Xx_toMove {E : zE} (hE : zEv E) {l : Launch} (hl : l.stackTraces = false) {D : zD} (hD : zDok E D) (V : Nat → Nat → Int32) (P : Nat → Nat → Value) (PH : aH)   (sz : Nat) : zM E l y_Xx_toMove [.code y_Xx_toMove c_Xx_toMove 1 (some .int)] rm_Xx_toMove [.ref (D.1 0)] (HM D V P PH) sz (zRet (some (.int (V 1 3))) (HM D V P PH) sz) := by
  refine zM_of hE hl (by decide +kernel) [some (.ref (D.1 0))] ⟨rfl, rfl, Nat.le_of_ble_eq_true rfl⟩ ?_
  intro G C q htb
  refine Z_run C it_Xx_toMove 1 (f2 := (1, [some (.ref (D.1 0))], [.ref (D.1 0)])) rfl ?_
  refine Zm_get C it_Xx_toMove hD rfl 0 wi_Xx (by decide) rfl rfl (j := 0) (by decide) fl_Xx_10 (v := .ref (D.1 1)) rfl ?_
  refine Zm_get C it_Xx_toMove hD rfl 1 wi_Gm (by decide) rfl rfl (j := 3) (by decide) fl_Xx_198 (v := .int (V 1 3)) rfl ?_
  exact Z_iret C q.e it_Xx_toMove rfl (zRet_i rfl) (by decide) (by decide)
set_option maxRecDepth 20000 in
theorem ct_Xx_isOver {E : zE} (hE : zEv E) {l : Launch} (hl : l.stackTraces = false) {D : zD} (hD : zDok E D) (V : Nat → Nat → Int32) (P : Nat → Nat → Value) (PH : aH) (ov : Bool) (hO5 : V 1 5 = bI ov)  (sz : Nat) : zM E l y_Xx_isOver [.code y_Xx_isOver c_Xx_isOver 1 (some .boolean)] rm_Xx_isOver [.ref (D.1 0)] (HM D V P PH) sz (zRet (some (.int (bI ov))) (HM D V P PH) sz) := by
  refine zM_of hE hl (by decide +kernel) [some (.ref (D.1 0))] ⟨rfl, rfl, Nat.le_of_ble_eq_true rfl⟩ ?_
  intro G C q htb
  refine Z_run C it_Xx_isOver 1 (f2 := (1, [some (.ref (D.1 0))], [.ref (D.1 0)])) rfl ?_
  refine Zm_get C it_Xx_isOver hD rfl 0 wi_Xx (by decide) rfl rfl (j := 0) (by decide) fl_Xx_10 (v := .ref (D.1 1)) rfl ?_
  refine Zm_get C it_Xx_isOver hD rfl 1 wi_Gm (by decide) rfl rfl (j := 5) (by decide) fl_Xx_201 (v := .int (bI ov)) (congrArg Value.int hO5) ?_
  exact Z_zret C q.e it_Xx_isOver rfl bI_v (zRet_i rfl) (by decide) (by decide)
set_option maxRecDepth 20000 in
theorem ct_Xx_repetitions {E : zE} (hE : zEv E) {l : Launch} (hl : l.stackTraces = false) {D : zD} (hD : zDok E D) (V : Nat → Nat → Int32) (P : Nat → Nat → Value) (PH : aH) (hP : okP D PH) (L : List zPos) (hch : chn PH (P 1 7) L)  (sz : Nat) : zM E l y_Xx_repetitions [.code y_Xx_repetitions c_Xx_repetitions 1 (some .int)] rm_Xx_repetitions [.ref (D.1 0)] (HM D V P PH) sz (zRet (some (.int (nI (tmz L)))) (HM D V P PH) sz) := by
  refine zM_of hE hl (by decide +kernel) [some (.ref (D.1 0))] ⟨rfl, rfl, Nat.le_of_ble_eq_true rfl⟩ ?_
  intro G C q htb
  refine Z_run C it_Xx_repetitions 1 (f2 := (1, [some (.ref (D.1 0))], [.ref (D.1 0)])) rfl ?_
  refine Zm_get C it_Xx_repetitions hD rfl 0 wi_Xx (by decide) rfl rfl (j := 0) (by decide) fl_Xx_10 (v := .ref (D.1 1)) rfl ?_
  refine Zr_callV C it_Xx_repetitions hD rfl p_Gm_timesOfBoard ml_Xx_210 1 (by decide) rfl rfl [] (ct_Gm_timesOfBoard C.ev C.l hD _ _ _ hP L hch _) rfl rfl ⟨by decide, by decide, by decide, by decide⟩ (Nat.le_of_ble_eq_true rfl) rfl ?_
  show Z E G (HM D V P PH) sz 0 0 (7, [some (.ref (D.1 0))], [.int (nI (tmz L))])
  exact Z_iret C q.e it_Xx_repetitions rfl (zRet_i rfl) (by decide) (by decide)
set_option maxRecDepth 20000 in
theorem ct_Xx_movesMade {E : zE} (hE : zEv E) {l : Launch} (hl : l.stackTraces = false) {D : zD} (hD : zDok E D) (V : Nat → Nat → Int32) (P : Nat → Nat → Value) (PH : aH)   (sz : Nat) : zM E l y_Xx_movesMade [.code y_Xx_movesMade c_Xx_movesMade 1 (some .int)] rm_Xx_movesMade [.ref (D.1 0)] (HM D V P PH) sz (zRet (some (.int (V 1 4))) (HM D V P PH) sz) := by
  refine zM_of hE hl (by decide +kernel) [some (.ref (D.1 0))] ⟨rfl, rfl, Nat.le_of_ble_eq_true rfl⟩ ?_
  intro G C q htb
  refine Z_run C it_Xx_movesMade 1 (f2 := (1, [some (.ref (D.1 0))], [.ref (D.1 0)])) rfl ?_
  refine Zm_get C it_Xx_movesMade hD rfl 0 wi_Xx (by decide) rfl rfl (j := 0) (by decide) fl_Xx_10 (v := .ref (D.1 1)) rfl ?_
  refine Zm_get C it_Xx_movesMade hD rfl 1 wi_Gm (by decide) rfl rfl (j := 4) (by decide) fl_Xx_213 (v := .int (V 1 4)) rfl ?_
  exact Z_iret C q.e it_Xx_movesMade rfl (zRet_i rfl) (by decide) (by decide)
set_option maxRecDepth 20000 in
theorem ct_Xx_pieces {E : zE} (hE : zEv E) {l : Launch} (hl : l.stackTraces = false) {D : zD} (hD : zDok E D) (V : Nat → Nat → Int32) (P : Nat → Nat → Value) (PH : aH) (hF : okF (bF V 2)) (a : Nat) (ha : a < 2) (sz : Nat) : zM E l y_Xx_pieces [.code y_Xx_pieces c_Xx_pieces 2 (some .int)] rm_Xx_pieces [.ref (D.1 0), .int (nI a)] (HM D V P PH) sz (zRet (some (.int (nI (popc (sqs (bF V 2) a))))) (HM D V P PH) sz) := by
  refine zM_of hE hl (by decide +kernel) [some (.ref (D.1 0)), some (.int (nI a))] ⟨rfl, rfl, Nat.le_of_ble_eq_true rfl⟩ ?_
  intro G C q htb
  refine Z_run C it_Xx_pieces 1 (f2 := (1, [some (.ref (D.1 0)), some (.int (nI a))], [.int (nI a)])) rfl ?_
  refine Zr_callS C it_Xx_pieces rfl p_Xx_needSide ml_Xx_132 [.int (nI a)] (ct_Xx_needSide C.ev C.l a (by omega) (HM D V P PH) _) rfl rfl ⟨by decide, by decide, by decide, by decide⟩ (Nat.le_of_ble_eq_true rfl) rfl ?_
  show Z E G (HM D V P PH) sz 1 6 (4, [some (.ref (D.1 0)), some (.int (nI a))], [])
  refine Z_run C it_Xx_pieces 1 (f2 := (5, [some (.ref (D.1 0)), some (.int (nI a))], [.ref (D.1 0)])) rfl ?_
  refine Zm_get C it_Xx_pieces hD rfl 0 wi_Xx (by decide) rfl rfl (j := 0) (by decide) fl_Xx_10 (v := .ref (D.1 1)) rfl ?_
  refine Zm_get C it_Xx_pieces hD rfl 1 wi_Gm (by decide) rfl rfl (j := 0) (by decide) fl_Xx_49 (v := .ref (D.1 2)) rfl ?_
  refine Z_run C it_Xx_pieces 1 (f2 := (12, [some (.ref (D.1 0)), some (.int (nI a))], [.int (nI a), .ref (D.1 2)])) rfl ?_
  refine Zr_callV C it_Xx_pieces hD rfl p_Bd_countOf ml_Xx_135 2 (by decide) rfl rfl [.int (nI a)] (ct_Bd_countOf C.ev C.l hD _ _ _ 2 isB_2 hF a (by first | assumption | omega) _) rfl rfl ⟨by decide, by decide, by decide, by decide⟩ (Nat.le_of_ble_eq_true rfl) rfl ?_
  show Z E G (HM D V P PH) sz 1 6 (15, [some (.ref (D.1 0)), some (.int (nI a))], [.int (nI (popc (sqs (bF V 2) a)))])
  exact Z_iret C q.e it_Xx_pieces rfl (zRet_i rfl) (by decide) (by decide)
set_option maxRecDepth 20000 in
theorem ct_Xx_pieces_x1 {E : zE} (hE : zEv E) {l : Launch} (hl : l.stackTraces = false) {D : zD} (hD : zDok E D) (V : Nat → Nat → Int32) (P : Nat → Nat → Value) (PH : aH) (a : Nat) (h32 : a < 4294967296) (ha : 2 ≤ a)  (sz : Nat) : zM E l y_Xx_pieces [.code y_Xx_pieces c_Xx_pieces 2 (some .int)] rm_Xx_pieces [.ref (D.1 0), .int (nI a)] (HM D V P PH) sz (zThr X_IOOBE (HM D V P PH) sz) := by
  refine zM_of hE hl (by decide +kernel) [some (.ref (D.1 0)), some (.int (nI a))] ⟨rfl, rfl, Nat.le_of_ble_eq_true rfl⟩ ?_
  intro G C q htb
  refine Z_run C it_Xx_pieces 1 (f2 := (1, [some (.ref (D.1 0)), some (.int (nI a))], [.int (nI a)])) rfl ?_
  exact Zr_thrS C it_Xx_pieces rfl p_Xx_needSide ml_Xx_132 [.int (nI a)] (ct_Xx_needSide_x C.ev C.l a (by omega) (by omega) (HM D V P PH) _) rfl rfl ⟨by decide, by decide, by decide, by decide⟩ (Nat.le_of_ble_eq_true rfl) rfl q htb (⟨rfl, rfl, rfl⟩) (by decide) (by decide)
set_option maxRecDepth 20000 in
theorem ct_Xx_moveCount {E : zE} (hE : zEv E) {l : Launch} (hl : l.stackTraces = false) {D : zD} (hD : zDok E D) (V : Nat → Nat → Int32) (P : Nat → Nat → Value) (PH : aH) (hF : okF (bF V 2)) (a : Nat) (ha : a < 2) (sz : Nat) : zM E l y_Xx_moveCount [.code y_Xx_moveCount c_Xx_moveCount 2 (some .int)] rm_Xx_moveCount [.ref (D.1 0), .int (nI a)] (HM D V P PH) sz (zRet (some (.int (nI (mvs (bF V 2) a 36)))) (HM D V P PH) sz) := by
  refine zM_of hE hl (by decide +kernel) [some (.ref (D.1 0)), some (.int (nI a))] ⟨rfl, rfl, Nat.le_of_ble_eq_true rfl⟩ ?_
  intro G C q htb
  refine Z_run C it_Xx_moveCount 1 (f2 := (1, [some (.ref (D.1 0)), some (.int (nI a))], [.int (nI a)])) rfl ?_
  refine Zr_callS C it_Xx_moveCount rfl p_Xx_needSide ml_Xx_132 [.int (nI a)] (ct_Xx_needSide C.ev C.l a (by omega) (HM D V P PH) _) rfl rfl ⟨by decide, by decide, by decide, by decide⟩ (Nat.le_of_ble_eq_true rfl) rfl ?_
  show Z E G (HM D V P PH) sz 1 6 (4, [some (.ref (D.1 0)), some (.int (nI a))], [])
  refine Z_run C it_Xx_moveCount 1 (f2 := (5, [some (.ref (D.1 0)), some (.int (nI a))], [.ref (D.1 0)])) rfl ?_
  refine Zm_get C it_Xx_moveCount hD rfl 0 wi_Xx (by decide) rfl rfl (j := 0) (by decide) fl_Xx_10 (v := .ref (D.1 1)) rfl ?_
  refine Zm_get C it_Xx_moveCount hD rfl 1 wi_Gm (by decide) rfl rfl (j := 0) (by decide) fl_Xx_49 (v := .ref (D.1 2)) rfl ?_
  refine Z_run C it_Xx_moveCount 1 (f2 := (12, [some (.ref (D.1 0)), some (.int (nI a))], [.int (nI a), .ref (D.1 2)])) rfl ?_
  refine Zr_callV C it_Xx_moveCount hD rfl p_Bd_movesOf ml_Xx_177 2 (by decide) rfl rfl [.int (nI a)] (ct_Bd_movesOf C.ev C.l hD _ _ _ 2 isB_2 hF a (by first | assumption | omega) _) rfl rfl ⟨by decide, by decide, by decide, by decide⟩ (Nat.le_of_ble_eq_true rfl) rfl ?_
  show Z E G (HM D V P PH) sz 1 6 (15, [some (.ref (D.1 0)), some (.int (nI a))], [.int (nI (mvs (bF V 2) a 36))])
  exact Z_iret C q.e it_Xx_moveCount rfl (zRet_i rfl) (by decide) (by decide)
set_option maxRecDepth 20000 in
theorem ct_Xx_moveCount_x1 {E : zE} (hE : zEv E) {l : Launch} (hl : l.stackTraces = false) {D : zD} (hD : zDok E D) (V : Nat → Nat → Int32) (P : Nat → Nat → Value) (PH : aH) (a : Nat) (h32 : a < 4294967296) (ha : 2 ≤ a)  (sz : Nat) : zM E l y_Xx_moveCount [.code y_Xx_moveCount c_Xx_moveCount 2 (some .int)] rm_Xx_moveCount [.ref (D.1 0), .int (nI a)] (HM D V P PH) sz (zThr X_IOOBE (HM D V P PH) sz) := by
  refine zM_of hE hl (by decide +kernel) [some (.ref (D.1 0)), some (.int (nI a))] ⟨rfl, rfl, Nat.le_of_ble_eq_true rfl⟩ ?_
  intro G C q htb
  refine Z_run C it_Xx_moveCount 1 (f2 := (1, [some (.ref (D.1 0)), some (.int (nI a))], [.int (nI a)])) rfl ?_
  exact Zr_thrS C it_Xx_moveCount rfl p_Xx_needSide ml_Xx_132 [.int (nI a)] (ct_Xx_needSide_x C.ev C.l a (by omega) (by omega) (HM D V P PH) _) rfl rfl ⟨by decide, by decide, by decide, by decide⟩ (Nat.le_of_ble_eq_true rfl) rfl q htb (⟨rfl, rfl, rfl⟩) (by decide) (by decide)
set_option maxRecDepth 20000 in
theorem ct_Xx_guards {E : zE} (hE : zEv E) {l : Launch} (hl : l.stackTraces = false) {D : zD} (hD : zDok E D) (V : Nat → Nat → Int32) (P : Nat → Nat → Value) (PH : aH) (hF : okF (bF V 2)) (a : Nat) (ha : a < 2) (b : Nat) (hb : b < 36) (sz : Nat) : zM E l y_Xx_guards [.code y_Xx_guards c_Xx_guards 3 (some .int)] rm_Xx_guards [.ref (D.1 0), .int (nI a), .int (nI b)] (HM D V P PH) sz (zRet (some (.int (nI (cga (bF V 2) a b 36)))) (HM D V P PH) sz) := by
  refine zM_of hE hl (by decide +kernel) [some (.ref (D.1 0)), some (.int (nI a)), some (.int (nI b))] ⟨rfl, rfl, Nat.le_of_ble_eq_true rfl⟩ ?_
  intro G C q htb
  refine Z_run C it_Xx_guards 1 (f2 := (1, [some (.ref (D.1 0)), some (.int (nI a)), some (.int (nI b))], [.int (nI a)])) rfl ?_
  refine Zr_callS C it_Xx_guards rfl p_Xx_needSide ml_Xx_132 [.int (nI a)] (ct_Xx_needSide C.ev C.l a (by omega) (HM D V P PH) _) rfl rfl ⟨by decide, by decide, by decide, by decide⟩ (Nat.le_of_ble_eq_true rfl) rfl ?_
  show Z E G (HM D V P PH) sz 1 6 (4, [some (.ref (D.1 0)), some (.int (nI a)), some (.int (nI b))], [])
  refine Z_run C it_Xx_guards 1 (f2 := (5, [some (.ref (D.1 0)), some (.int (nI a)), some (.int (nI b))], [.int (nI b)])) rfl ?_
  refine Zr_callS C it_Xx_guards rfl p_Xx_needSquare ml_Xx_41 [.int (nI b)] (ct_Xx_needSquare C.ev C.l b (by omega) (HM D V P PH) _) rfl rfl ⟨by decide, by decide, by decide, by decide⟩ (Nat.le_of_ble_eq_true rfl) rfl ?_
  show Z E G (HM D V P PH) sz 2 12 (8, [some (.ref (D.1 0)), some (.int (nI a)), some (.int (nI b))], [])
  refine Z_run C it_Xx_guards 1 (f2 := (9, [some (.ref (D.1 0)), some (.int (nI a)), some (.int (nI b))], [.ref (D.1 0)])) rfl ?_
  refine Zm_get C it_Xx_guards hD rfl 0 wi_Xx (by decide) rfl rfl (j := 0) (by decide) fl_Xx_10 (v := .ref (D.1 1)) rfl ?_
  refine Zm_get C it_Xx_guards hD rfl 1 wi_Gm (by decide) rfl rfl (j := 0) (by decide) fl_Xx_49 (v := .ref (D.1 2)) rfl ?_
  refine Z_run C it_Xx_guards 2 (f2 := (17, [some (.ref (D.1 0)), some (.int (nI a)), some (.int (nI b))], [.int (nI b), .int (nI a), .ref (D.1 2)])) rfl ?_
  refine Zr_callV C it_Xx_guards hD rfl p_Bd_countGuardsAlong ml_Xx_180 2 (by decide) rfl rfl [.int (nI a), .int (nI b)] (ct_Bd_countGuardsAlong C.ev C.l hD _ _ _ 2 isB_2 hF a (by first | assumption | omega) b (by first | assumption | omega) _) rfl rfl ⟨by decide, by decide, by decide, by decide⟩ (Nat.le_of_ble_eq_true rfl) rfl ?_
  show Z E G (HM D V P PH) sz 2 12 (20, [some (.ref (D.1 0)), some (.int (nI a)), some (.int (nI b))], [.int (nI (cga (bF V 2) a b 36))])
  exact Z_iret C q.e it_Xx_guards rfl (zRet_i rfl) (by decide) (by decide)
set_option maxRecDepth 20000 in
theorem ct_Xx_guards_x1 {E : zE} (hE : zEv E) {l : Launch} (hl : l.stackTraces = false) {D : zD} (hD : zDok E D) (V : Nat → Nat → Int32) (P : Nat → Nat → Value) (PH : aH) (a : Nat) (h32 : a < 4294967296) (ha : 2 ≤ a) (xb : Int32) (sz : Nat) : zM E l y_Xx_guards [.code y_Xx_guards c_Xx_guards 3 (some .int)] rm_Xx_guards [.ref (D.1 0), .int (nI a), .int xb] (HM D V P PH) sz (zThr X_IOOBE (HM D V P PH) sz) := by
  refine zM_of hE hl (by decide +kernel) [some (.ref (D.1 0)), some (.int (nI a)), some (.int xb)] ⟨rfl, rfl, Nat.le_of_ble_eq_true rfl⟩ ?_
  intro G C q htb
  refine Z_run C it_Xx_guards 1 (f2 := (1, [some (.ref (D.1 0)), some (.int (nI a)), some (.int xb)], [.int (nI a)])) rfl ?_
  exact Zr_thrS C it_Xx_guards rfl p_Xx_needSide ml_Xx_132 [.int (nI a)] (ct_Xx_needSide_x C.ev C.l a (by omega) (by omega) (HM D V P PH) _) rfl rfl ⟨by decide, by decide, by decide, by decide⟩ (Nat.le_of_ble_eq_true rfl) rfl q htb (⟨rfl, rfl, rfl⟩) (by decide) (by decide)
set_option maxRecDepth 20000 in
theorem ct_Xx_guards_x2 {E : zE} (hE : zEv E) {l : Launch} (hl : l.stackTraces = false) {D : zD} (hD : zDok E D) (V : Nat → Nat → Int32) (P : Nat → Nat → Value) (PH : aH) (a : Nat) (ha : a < 2) (b : Nat) (h32 : b < 4294967296) (hb : 36 ≤ b)  (sz : Nat) : zM E l y_Xx_guards [.code y_Xx_guards c_Xx_guards 3 (some .int)] rm_Xx_guards [.ref (D.1 0), .int (nI a), .int (nI b)] (HM D V P PH) sz (zThr X_IOOBE (HM D V P PH) sz) := by
  refine zM_of hE hl (by decide +kernel) [some (.ref (D.1 0)), some (.int (nI a)), some (.int (nI b))] ⟨rfl, rfl, Nat.le_of_ble_eq_true rfl⟩ ?_
  intro G C q htb
  refine Z_run C it_Xx_guards 1 (f2 := (1, [some (.ref (D.1 0)), some (.int (nI a)), some (.int (nI b))], [.int (nI a)])) rfl ?_
  refine Zr_callS C it_Xx_guards rfl p_Xx_needSide ml_Xx_132 [.int (nI a)] (ct_Xx_needSide C.ev C.l a (by omega) (HM D V P PH) _) rfl rfl ⟨by decide, by decide, by decide, by decide⟩ (Nat.le_of_ble_eq_true rfl) rfl ?_
  show Z E G (HM D V P PH) sz 1 6 (4, [some (.ref (D.1 0)), some (.int (nI a)), some (.int (nI b))], [])
  refine Z_run C it_Xx_guards 1 (f2 := (5, [some (.ref (D.1 0)), some (.int (nI a)), some (.int (nI b))], [.int (nI b)])) rfl ?_
  exact Zr_thrS C it_Xx_guards rfl p_Xx_needSquare ml_Xx_41 [.int (nI b)] (ct_Xx_needSquare_x C.ev C.l b (by omega) (by omega) (HM D V P PH) _) rfl rfl ⟨by decide, by decide, by decide, by decide⟩ (Nat.le_of_ble_eq_true rfl) rfl q htb (⟨rfl, rfl, rfl⟩) (by decide) (by decide)
set_option maxRecDepth 20000 in
theorem ct_Xx_guardsByLooking {E : zE} (hE : zEv E) {l : Launch} (hl : l.stackTraces = false) {D : zD} (hD : zDok E D) (V : Nat → Nat → Int32) (P : Nat → Nat → Value) (PH : aH) (hF : okF (bF V 2)) (a : Nat) (ha : a < 2) (b : Nat) (hb : b < 36) (sz : Nat) : zM E l y_Xx_guardsByLooking [.code y_Xx_guardsByLooking c_Xx_guardsByLooking 3 (some .int)] rm_Xx_guardsByLooking [.ref (D.1 0), .int (nI a), .int (nI b)] (HM D V P PH) sz (zRet (some (.int (nI (popc (gsf (bF V 2) a b))))) (HM D V P PH) sz) := by
  refine zM_of hE hl (by decide +kernel) [some (.ref (D.1 0)), some (.int (nI a)), some (.int (nI b))] ⟨rfl, rfl, Nat.le_of_ble_eq_true rfl⟩ ?_
  intro G C q htb
  refine Z_run C it_Xx_guardsByLooking 1 (f2 := (1, [some (.ref (D.1 0)), some (.int (nI a)), some (.int (nI b))], [.int (nI a)])) rfl ?_
  refine Zr_callS C it_Xx_guardsByLooking rfl p_Xx_needSide ml_Xx_132 [.int (nI a)] (ct_Xx_needSide C.ev C.l a (by omega) (HM D V P PH) _) rfl rfl ⟨by decide, by decide, by decide, by decide⟩ (Nat.le_of_ble_eq_true rfl) rfl ?_
  show Z E G (HM D V P PH) sz 1 6 (4, [some (.ref (D.1 0)), some (.int (nI a)), some (.int (nI b))], [])
  refine Z_run C it_Xx_guardsByLooking 1 (f2 := (5, [some (.ref (D.1 0)), some (.int (nI a)), some (.int (nI b))], [.int (nI b)])) rfl ?_
  refine Zr_callS C it_Xx_guardsByLooking rfl p_Xx_needSquare ml_Xx_41 [.int (nI b)] (ct_Xx_needSquare C.ev C.l b (by omega) (HM D V P PH) _) rfl rfl ⟨by decide, by decide, by decide, by decide⟩ (Nat.le_of_ble_eq_true rfl) rfl ?_
  show Z E G (HM D V P PH) sz 2 12 (8, [some (.ref (D.1 0)), some (.int (nI a)), some (.int (nI b))], [])
  refine Z_run C it_Xx_guardsByLooking 1 (f2 := (9, [some (.ref (D.1 0)), some (.int (nI a)), some (.int (nI b))], [.ref (D.1 0)])) rfl ?_
  refine Zm_get C it_Xx_guardsByLooking hD rfl 0 wi_Xx (by decide) rfl rfl (j := 0) (by decide) fl_Xx_10 (v := .ref (D.1 1)) rfl ?_
  refine Zm_get C it_Xx_guardsByLooking hD rfl 1 wi_Gm (by decide) rfl rfl (j := 0) (by decide) fl_Xx_49 (v := .ref (D.1 2)) rfl ?_
  refine Z_run C it_Xx_guardsByLooking 2 (f2 := (17, [some (.ref (D.1 0)), some (.int (nI a)), some (.int (nI b))], [.int (nI b), .int (nI a), .ref (D.1 2)])) rfl ?_
  refine Zr_callV C it_Xx_guardsByLooking hD rfl p_Bd_guardsSeenFrom ml_Xx_183 2 (by decide) rfl rfl [.int (nI a), .int (nI b)] (ct_Bd_guardsSeenFrom C.ev C.l hD _ _ _ 2 isB_2 hF a (by first | assumption | omega) b (by first | assumption | omega) _) rfl rfl ⟨by decide, by decide, by decide, by decide⟩ (Nat.le_of_ble_eq_true rfl) rfl ?_
  show Z E G (HM D V P PH) sz 2 12 (20, [some (.ref (D.1 0)), some (.int (nI a)), some (.int (nI b))], [.long (lN (gsf (bF V 2) a b))])
  refine Zr_callS C it_Xx_guardsByLooking rfl p_Jl_bitCount ml_Xx_167 [.long (lN (gsf (bF V 2) a b))] (ct_Jl_bitCount C.ev C.l ((gsf (bF V 2) a b)) (by first | assumption | exact sqs_lt _ _ | exact knw_lt _ _ _ | exact gfa_lt _ _ _ | exact gsf_lt _ _ _) _ _) rfl rfl ⟨by decide, by decide, by decide, by decide⟩ (Nat.le_of_ble_eq_true rfl) rfl ?_
  show Z E G (HM D V P PH) sz 2 12 (23, [some (.ref (D.1 0)), some (.int (nI a)), some (.int (nI b))], [.int (nI (popc ((gsf (bF V 2) a b))))])
  exact Z_iret C q.e it_Xx_guardsByLooking rfl (zRet_i rfl) (by decide) (by decide)
set_option maxRecDepth 20000 in
theorem ct_Xx_guardsByLooking_x1 {E : zE} (hE : zEv E) {l : Launch} (hl : l.stackTraces = false) {D : zD} (hD : zDok E D) (V : Nat → Nat → Int32) (P : Nat → Nat → Value) (PH : aH) (a : Nat) (h32 : a < 4294967296) (ha : 2 ≤ a) (xb : Int32) (sz : Nat) : zM E l y_Xx_guardsByLooking [.code y_Xx_guardsByLooking c_Xx_guardsByLooking 3 (some .int)] rm_Xx_guardsByLooking [.ref (D.1 0), .int (nI a), .int xb] (HM D V P PH) sz (zThr X_IOOBE (HM D V P PH) sz) := by
  refine zM_of hE hl (by decide +kernel) [some (.ref (D.1 0)), some (.int (nI a)), some (.int xb)] ⟨rfl, rfl, Nat.le_of_ble_eq_true rfl⟩ ?_
  intro G C q htb
  refine Z_run C it_Xx_guardsByLooking 1 (f2 := (1, [some (.ref (D.1 0)), some (.int (nI a)), some (.int xb)], [.int (nI a)])) rfl ?_
  exact Zr_thrS C it_Xx_guardsByLooking rfl p_Xx_needSide ml_Xx_132 [.int (nI a)] (ct_Xx_needSide_x C.ev C.l a (by omega) (by omega) (HM D V P PH) _) rfl rfl ⟨by decide, by decide, by decide, by decide⟩ (Nat.le_of_ble_eq_true rfl) rfl q htb (⟨rfl, rfl, rfl⟩) (by decide) (by decide)
set_option maxRecDepth 20000 in
theorem ct_Xx_guardsByLooking_x2 {E : zE} (hE : zEv E) {l : Launch} (hl : l.stackTraces = false) {D : zD} (hD : zDok E D) (V : Nat → Nat → Int32) (P : Nat → Nat → Value) (PH : aH) (a : Nat) (ha : a < 2) (b : Nat) (h32 : b < 4294967296) (hb : 36 ≤ b)  (sz : Nat) : zM E l y_Xx_guardsByLooking [.code y_Xx_guardsByLooking c_Xx_guardsByLooking 3 (some .int)] rm_Xx_guardsByLooking [.ref (D.1 0), .int (nI a), .int (nI b)] (HM D V P PH) sz (zThr X_IOOBE (HM D V P PH) sz) := by
  refine zM_of hE hl (by decide +kernel) [some (.ref (D.1 0)), some (.int (nI a)), some (.int (nI b))] ⟨rfl, rfl, Nat.le_of_ble_eq_true rfl⟩ ?_
  intro G C q htb
  refine Z_run C it_Xx_guardsByLooking 1 (f2 := (1, [some (.ref (D.1 0)), some (.int (nI a)), some (.int (nI b))], [.int (nI a)])) rfl ?_
  refine Zr_callS C it_Xx_guardsByLooking rfl p_Xx_needSide ml_Xx_132 [.int (nI a)] (ct_Xx_needSide C.ev C.l a (by omega) (HM D V P PH) _) rfl rfl ⟨by decide, by decide, by decide, by decide⟩ (Nat.le_of_ble_eq_true rfl) rfl ?_
  show Z E G (HM D V P PH) sz 1 6 (4, [some (.ref (D.1 0)), some (.int (nI a)), some (.int (nI b))], [])
  refine Z_run C it_Xx_guardsByLooking 1 (f2 := (5, [some (.ref (D.1 0)), some (.int (nI a)), some (.int (nI b))], [.int (nI b)])) rfl ?_
  exact Zr_thrS C it_Xx_guardsByLooking rfl p_Xx_needSquare ml_Xx_41 [.int (nI b)] (ct_Xx_needSquare_x C.ev C.l b (by omega) (by omega) (HM D V P PH) _) rfl rfl ⟨by decide, by decide, by decide, by decide⟩ (Nat.le_of_ble_eq_true rfl) rfl q htb (⟨rfl, rfl, rfl⟩) (by decide) (by decide)
set_option maxRecDepth 20000 in
theorem ct_Xx_guarded {E : zE} (hE : zEv E) {l : Launch} (hl : l.stackTraces = false) {D : zD} (hD : zDok E D) (V : Nat → Nat → Int32) (P : Nat → Nat → Value) (PH : aH) (hF : okF (bF V 2)) (a : Nat) (ha : a < 2) (sz : Nat) : zM E l y_Xx_guarded [.code y_Xx_guarded c_Xx_guarded 2 (some .long)] rm_Xx_guarded [.ref (D.1 0), .int (nI a)] (HM D V P PH) sz (zRet (some (.long (lN (gby (bF V 2) a 36)))) (HM D V P PH) sz) := by
  refine zM_of hE hl (by decide +kernel) [some (.ref (D.1 0)), some (.int (nI a))] ⟨rfl, rfl, Nat.le_of_ble_eq_true rfl⟩ ?_
  intro G C q htb
  refine Z_run C it_Xx_guarded 1 (f2 := (1, [some (.ref (D.1 0)), some (.int (nI a))], [.int (nI a)])) rfl ?_
  refine Zr_callS C it_Xx_guarded rfl p_Xx_needSide ml_Xx_132 [.int (nI a)] (ct_Xx_needSide C.ev C.l a (by omega) (HM D V P PH) _) rfl rfl ⟨by decide, by decide, by decide, by decide⟩ (Nat.le_of_ble_eq_true rfl) rfl ?_
  show Z E G (HM D V P PH) sz 1 6 (4, [some (.ref (D.1 0)), some (.int (nI a))], [])
  refine Z_run C it_Xx_guarded 1 (f2 := (5, [some (.ref (D.1 0)), some (.int (nI a))], [.ref (D.1 0)])) rfl ?_
  refine Zm_get C it_Xx_guarded hD rfl 0 wi_Xx (by decide) rfl rfl (j := 0) (by decide) fl_Xx_10 (v := .ref (D.1 1)) rfl ?_
  refine Zm_get C it_Xx_guarded hD rfl 1 wi_Gm (by decide) rfl rfl (j := 0) (by decide) fl_Xx_49 (v := .ref (D.1 2)) rfl ?_
  refine Z_run C it_Xx_guarded 1 (f2 := (12, [some (.ref (D.1 0)), some (.int (nI a))], [.int (nI a), .ref (D.1 2)])) rfl ?_
  refine Zr_callV C it_Xx_guarded hD rfl p_Bd_guardedBy ml_Xx_186 2 (by decide) rfl rfl [.int (nI a)] (ct_Bd_guardedBy C.ev C.l hD _ _ _ 2 isB_2 hF a (by first | assumption | omega) _) rfl rfl ⟨by decide, by decide, by decide, by decide⟩ (Nat.le_of_ble_eq_true rfl) rfl ?_
  show Z E G (HM D V P PH) sz 1 6 (15, [some (.ref (D.1 0)), some (.int (nI a))], [.long (lN (gby (bF V 2) a 36))])
  exact Z_lret C q.e it_Xx_guarded rfl (zRet_l rfl) (by decide) (by decide)
set_option maxRecDepth 20000 in
theorem ct_Xx_guarded_x1 {E : zE} (hE : zEv E) {l : Launch} (hl : l.stackTraces = false) {D : zD} (hD : zDok E D) (V : Nat → Nat → Int32) (P : Nat → Nat → Value) (PH : aH) (a : Nat) (h32 : a < 4294967296) (ha : 2 ≤ a)  (sz : Nat) : zM E l y_Xx_guarded [.code y_Xx_guarded c_Xx_guarded 2 (some .long)] rm_Xx_guarded [.ref (D.1 0), .int (nI a)] (HM D V P PH) sz (zThr X_IOOBE (HM D V P PH) sz) := by
  refine zM_of hE hl (by decide +kernel) [some (.ref (D.1 0)), some (.int (nI a))] ⟨rfl, rfl, Nat.le_of_ble_eq_true rfl⟩ ?_
  intro G C q htb
  refine Z_run C it_Xx_guarded 1 (f2 := (1, [some (.ref (D.1 0)), some (.int (nI a))], [.int (nI a)])) rfl ?_
  exact Zr_thrS C it_Xx_guarded rfl p_Xx_needSide ml_Xx_132 [.int (nI a)] (ct_Xx_needSide_x C.ev C.l a (by omega) (by omega) (HM D V P PH) _) rfl rfl ⟨by decide, by decide, by decide, by decide⟩ (Nat.le_of_ble_eq_true rfl) rfl q htb (⟨rfl, rfl, rfl⟩) (by decide) (by decide)
set_option maxRecDepth 20000 in
theorem ct_Xx_knowing {E : zE} (hE : zEv E) {l : Launch} (hl : l.stackTraces = false) {D : zD} (hD : zDok E D) (V : Nat → Nat → Int32) (P : Nat → Nat → Value) (PH : aH) (hF : okF (bF V 2)) (a : Nat) (ha : a < 2) (b : Nat) (hb : b < 5) (sz : Nat) : zM E l y_Xx_knowing [.code y_Xx_knowing c_Xx_knowing 3 (some .int)] rm_Xx_knowing [.ref (D.1 0), .int (nI a), .int (nI b)] (HM D V P PH) sz (zRet (some (.int (nI (popc (knw (bF V 2) a b))))) (HM D V P PH) sz) := by
  refine zM_of hE hl (by decide +kernel) [some (.ref (D.1 0)), some (.int (nI a)), some (.int (nI b))] ⟨rfl, rfl, Nat.le_of_ble_eq_true rfl⟩ ?_
  intro G C q htb
  refine Z_run C it_Xx_knowing 1 (f2 := (1, [some (.ref (D.1 0)), some (.int (nI a)), some (.int (nI b))], [.int (nI a)])) rfl ?_
  refine Zr_callS C it_Xx_knowing rfl p_Xx_needSide ml_Xx_132 [.int (nI a)] (ct_Xx_needSide C.ev C.l a (by omega) (HM D V P PH) _) rfl rfl ⟨by decide, by decide, by decide, by decide⟩ (Nat.le_of_ble_eq_true rfl) rfl ?_
  show Z E G (HM D V P PH) sz 1 6 (4, [some (.ref (D.1 0)), some (.int (nI a)), some (.int (nI b))], [])
  refine Z_run C it_Xx_knowing 1 (f2 := (5, [some (.ref (D.1 0)), some (.int (nI a)), some (.int (nI b))], [.int (nI b)])) rfl ?_
  refine Zr_callS C it_Xx_knowing rfl p_Xx_needKind ml_Xx_160 [.int (nI b)] (ct_Xx_needKind C.ev C.l b (by omega) (HM D V P PH) _) rfl rfl ⟨by decide, by decide, by decide, by decide⟩ (Nat.le_of_ble_eq_true rfl) rfl ?_
  show Z E G (HM D V P PH) sz 2 12 (8, [some (.ref (D.1 0)), some (.int (nI a)), some (.int (nI b))], [])
  refine Z_run C it_Xx_knowing 1 (f2 := (9, [some (.ref (D.1 0)), some (.int (nI a)), some (.int (nI b))], [.ref (D.1 0)])) rfl ?_
  refine Zm_get C it_Xx_knowing hD rfl 0 wi_Xx (by decide) rfl rfl (j := 0) (by decide) fl_Xx_10 (v := .ref (D.1 1)) rfl ?_
  refine Zm_get C it_Xx_knowing hD rfl 1 wi_Gm (by decide) rfl rfl (j := 0) (by decide) fl_Xx_49 (v := .ref (D.1 2)) rfl ?_
  refine Z_run C it_Xx_knowing 2 (f2 := (17, [some (.ref (D.1 0)), some (.int (nI a)), some (.int (nI b))], [.int (nI b), .int (nI a), .ref (D.1 2)])) rfl ?_
  refine Zr_callV C it_Xx_knowing hD rfl p_Bd_knowers ml_Xx_163 2 (by decide) rfl rfl [.int (nI a), .int (nI b)] (ct_Bd_knowers C.ev C.l hD _ _ _ 2 isB_2 hF a (by first | assumption | omega) b (by first | assumption | omega) _) rfl rfl ⟨by decide, by decide, by decide, by decide⟩ (Nat.le_of_ble_eq_true rfl) rfl ?_
  show Z E G (HM D V P PH) sz 2 12 (20, [some (.ref (D.1 0)), some (.int (nI a)), some (.int (nI b))], [.long (lN (knw (bF V 2) a b))])
  refine Zr_callS C it_Xx_knowing rfl p_Jl_bitCount ml_Xx_167 [.long (lN (knw (bF V 2) a b))] (ct_Jl_bitCount C.ev C.l ((knw (bF V 2) a b)) (by first | assumption | exact sqs_lt _ _ | exact knw_lt _ _ _ | exact gfa_lt _ _ _ | exact gsf_lt _ _ _) _ _) rfl rfl ⟨by decide, by decide, by decide, by decide⟩ (Nat.le_of_ble_eq_true rfl) rfl ?_
  show Z E G (HM D V P PH) sz 2 12 (23, [some (.ref (D.1 0)), some (.int (nI a)), some (.int (nI b))], [.int (nI (popc ((knw (bF V 2) a b))))])
  exact Z_iret C q.e it_Xx_knowing rfl (zRet_i rfl) (by decide) (by decide)
set_option maxRecDepth 20000 in
theorem ct_Xx_knowing_x1 {E : zE} (hE : zEv E) {l : Launch} (hl : l.stackTraces = false) {D : zD} (hD : zDok E D) (V : Nat → Nat → Int32) (P : Nat → Nat → Value) (PH : aH) (a : Nat) (h32 : a < 4294967296) (ha : 2 ≤ a) (xb : Int32) (sz : Nat) : zM E l y_Xx_knowing [.code y_Xx_knowing c_Xx_knowing 3 (some .int)] rm_Xx_knowing [.ref (D.1 0), .int (nI a), .int xb] (HM D V P PH) sz (zThr X_IOOBE (HM D V P PH) sz) := by
  refine zM_of hE hl (by decide +kernel) [some (.ref (D.1 0)), some (.int (nI a)), some (.int xb)] ⟨rfl, rfl, Nat.le_of_ble_eq_true rfl⟩ ?_
  intro G C q htb
  refine Z_run C it_Xx_knowing 1 (f2 := (1, [some (.ref (D.1 0)), some (.int (nI a)), some (.int xb)], [.int (nI a)])) rfl ?_
  exact Zr_thrS C it_Xx_knowing rfl p_Xx_needSide ml_Xx_132 [.int (nI a)] (ct_Xx_needSide_x C.ev C.l a (by omega) (by omega) (HM D V P PH) _) rfl rfl ⟨by decide, by decide, by decide, by decide⟩ (Nat.le_of_ble_eq_true rfl) rfl q htb (⟨rfl, rfl, rfl⟩) (by decide) (by decide)
set_option maxRecDepth 20000 in
theorem ct_Xx_knowing_x2 {E : zE} (hE : zEv E) {l : Launch} (hl : l.stackTraces = false) {D : zD} (hD : zDok E D) (V : Nat → Nat → Int32) (P : Nat → Nat → Value) (PH : aH) (a : Nat) (ha : a < 2) (b : Nat) (h32 : b < 4294967296) (hb : 5 ≤ b)  (sz : Nat) : zM E l y_Xx_knowing [.code y_Xx_knowing c_Xx_knowing 3 (some .int)] rm_Xx_knowing [.ref (D.1 0), .int (nI a), .int (nI b)] (HM D V P PH) sz (zThr X_IOOBE (HM D V P PH) sz) := by
  refine zM_of hE hl (by decide +kernel) [some (.ref (D.1 0)), some (.int (nI a)), some (.int (nI b))] ⟨rfl, rfl, Nat.le_of_ble_eq_true rfl⟩ ?_
  intro G C q htb
  refine Z_run C it_Xx_knowing 1 (f2 := (1, [some (.ref (D.1 0)), some (.int (nI a)), some (.int (nI b))], [.int (nI a)])) rfl ?_
  refine Zr_callS C it_Xx_knowing rfl p_Xx_needSide ml_Xx_132 [.int (nI a)] (ct_Xx_needSide C.ev C.l a (by omega) (HM D V P PH) _) rfl rfl ⟨by decide, by decide, by decide, by decide⟩ (Nat.le_of_ble_eq_true rfl) rfl ?_
  show Z E G (HM D V P PH) sz 1 6 (4, [some (.ref (D.1 0)), some (.int (nI a)), some (.int (nI b))], [])
  refine Z_run C it_Xx_knowing 1 (f2 := (5, [some (.ref (D.1 0)), some (.int (nI a)), some (.int (nI b))], [.int (nI b)])) rfl ?_
  exact Zr_thrS C it_Xx_knowing rfl p_Xx_needKind ml_Xx_160 [.int (nI b)] (ct_Xx_needKind_x C.ev C.l b (by omega) (by omega) (HM D V P PH) _) rfl rfl ⟨by decide, by decide, by decide, by decide⟩ (Nat.le_of_ble_eq_true rfl) rfl q htb (⟨rfl, rfl, rfl⟩) (by decide) (by decide)
set_option maxRecDepth 20000 in
theorem ct_Xx_worth {E : zE} (hE : zEv E) {l : Launch} (hl : l.stackTraces = false) {D : zD} (hD : zDok E D) (V : Nat → Nat → Int32) (P : Nat → Nat → Value) (PH : aH) (hF : okF (bF V 2)) (a : Nat) (ha : a < 2) (sz : Nat) : zM E l y_Xx_worth [.code y_Xx_worth c_Xx_worth 2 (some .int)] rm_Xx_worth [.ref (D.1 0), .int (nI a)] (HM D V P PH) sz (zRet (some (.int (nI (wos (bF V 2) a 36)))) (HM D V P PH) sz) := by
  refine zM_of hE hl (by decide +kernel) [some (.ref (D.1 0)), some (.int (nI a))] ⟨rfl, rfl, Nat.le_of_ble_eq_true rfl⟩ ?_
  intro G C q htb
  refine Z_run C it_Xx_worth 1 (f2 := (1, [some (.ref (D.1 0)), some (.int (nI a))], [.int (nI a)])) rfl ?_
  refine Zr_callS C it_Xx_worth rfl p_Xx_needSide ml_Xx_132 [.int (nI a)] (ct_Xx_needSide C.ev C.l a (by omega) (HM D V P PH) _) rfl rfl ⟨by decide, by decide, by decide, by decide⟩ (Nat.le_of_ble_eq_true rfl) rfl ?_
  show Z E G (HM D V P PH) sz 1 6 (4, [some (.ref (D.1 0)), some (.int (nI a))], [])
  refine Z_run C it_Xx_worth 1 (f2 := (5, [some (.ref (D.1 0)), some (.int (nI a))], [.ref (D.1 0)])) rfl ?_
  refine Zm_get C it_Xx_worth hD rfl 0 wi_Xx (by decide) rfl rfl (j := 0) (by decide) fl_Xx_10 (v := .ref (D.1 1)) rfl ?_
  refine Zm_get C it_Xx_worth hD rfl 1 wi_Gm (by decide) rfl rfl (j := 0) (by decide) fl_Xx_49 (v := .ref (D.1 2)) rfl ?_
  refine Z_run C it_Xx_worth 1 (f2 := (12, [some (.ref (D.1 0)), some (.int (nI a))], [.int (nI a), .ref (D.1 2)])) rfl ?_
  refine Zr_callV C it_Xx_worth hD rfl p_Bd_worthOfSide ml_Xx_216 2 (by decide) rfl rfl [.int (nI a)] (ct_Bd_worthOfSide C.ev C.l hD _ _ _ 2 isB_2 hF a (by first | assumption | omega) _) rfl rfl ⟨by decide, by decide, by decide, by decide⟩ (Nat.le_of_ble_eq_true rfl) rfl ?_
  show Z E G (HM D V P PH) sz 1 6 (15, [some (.ref (D.1 0)), some (.int (nI a))], [.int (nI (wos (bF V 2) a 36))])
  exact Z_iret C q.e it_Xx_worth rfl (zRet_i rfl) (by decide) (by decide)
set_option maxRecDepth 20000 in
theorem ct_Xx_worth_x1 {E : zE} (hE : zEv E) {l : Launch} (hl : l.stackTraces = false) {D : zD} (hD : zDok E D) (V : Nat → Nat → Int32) (P : Nat → Nat → Value) (PH : aH) (a : Nat) (h32 : a < 4294967296) (ha : 2 ≤ a)  (sz : Nat) : zM E l y_Xx_worth [.code y_Xx_worth c_Xx_worth 2 (some .int)] rm_Xx_worth [.ref (D.1 0), .int (nI a)] (HM D V P PH) sz (zThr X_IOOBE (HM D V P PH) sz) := by
  refine zM_of hE hl (by decide +kernel) [some (.ref (D.1 0)), some (.int (nI a))] ⟨rfl, rfl, Nat.le_of_ble_eq_true rfl⟩ ?_
  intro G C q htb
  refine Z_run C it_Xx_worth 1 (f2 := (1, [some (.ref (D.1 0)), some (.int (nI a))], [.int (nI a)])) rfl ?_
  exact Zr_thrS C it_Xx_worth rfl p_Xx_needSide ml_Xx_132 [.int (nI a)] (ct_Xx_needSide_x C.ev C.l a (by omega) (by omega) (HM D V P PH) _) rfl rfl ⟨by decide, by decide, by decide, by decide⟩ (Nat.le_of_ble_eq_true rfl) rfl q htb (⟨rfl, rfl, rfl⟩) (by decide) (by decide)
set_option maxRecDepth 20000 in
theorem ct_Xx_worthByAccount {E : zE} (hE : zEv E) {l : Launch} (hl : l.stackTraces = false) {D : zD} (hD : zDok E D) (V : Nat → Nat → Int32) (P : Nat → Nat → Value) (PH : aH)  (a : Nat) (ha : a < 2) (sz : Nat) : zM E l y_Xx_worthByAccount [.code y_Xx_worthByAccount c_Xx_worthByAccount 2 (some .int)] rm_Xx_worthByAccount [.ref (D.1 0), .int (nI a)] (HM D V P PH) sz (zRet (some (.int (V 4 a))) (HM D V P PH) sz) := by
  refine zM_of hE hl (by decide +kernel) [some (.ref (D.1 0)), some (.int (nI a))] ⟨rfl, rfl, Nat.le_of_ble_eq_true rfl⟩ ?_
  intro G C q htb
  refine Z_run C it_Xx_worthByAccount 1 (f2 := (1, [some (.ref (D.1 0)), some (.int (nI a))], [.int (nI a)])) rfl ?_
  refine Zr_callS C it_Xx_worthByAccount rfl p_Xx_needSide ml_Xx_132 [.int (nI a)] (ct_Xx_needSide C.ev C.l a (by omega) (HM D V P PH) _) rfl rfl ⟨by decide, by decide, by decide, by decide⟩ (Nat.le_of_ble_eq_true rfl) rfl ?_
  show Z E G (HM D V P PH) sz 1 6 (4, [some (.ref (D.1 0)), some (.int (nI a))], [])
  refine Z_run C it_Xx_worthByAccount 1 (f2 := (5, [some (.ref (D.1 0)), some (.int (nI a))], [.ref (D.1 0)])) rfl ?_
  refine Zm_get C it_Xx_worthByAccount hD rfl 0 wi_Xx (by decide) rfl rfl (j := 0) (by decide) fl_Xx_10 (v := .ref (D.1 1)) rfl ?_
  refine Zm_get C it_Xx_worthByAccount hD rfl 1 wi_Gm (by decide) rfl rfl (j := 1) (by decide) fl_Xx_219 (v := .ref (D.1 4)) rfl ?_
  refine Z_run C it_Xx_worthByAccount 1 (f2 := (12, [some (.ref (D.1 0)), some (.int (nI a))], [.int (nI a), .ref (D.1 4)])) rfl ?_
  refine Zm_ald C it_Xx_worthByAccount hD 4 10 rfl (by decide) rfl (by decide) (by decide) rfl (j := a) (by omega) (v := .int (V 4 a)) rfl ?_
  exact Z_iret C q.e it_Xx_worthByAccount rfl (zRet_i rfl) (by decide) (by decide)
set_option maxRecDepth 20000 in
theorem ct_Xx_worthByAccount_x1 {E : zE} (hE : zEv E) {l : Launch} (hl : l.stackTraces = false) {D : zD} (hD : zDok E D) (V : Nat → Nat → Int32) (P : Nat → Nat → Value) (PH : aH) (a : Nat) (h32 : a < 4294967296) (ha : 2 ≤ a)  (sz : Nat) : zM E l y_Xx_worthByAccount [.code y_Xx_worthByAccount c_Xx_worthByAccount 2 (some .int)] rm_Xx_worthByAccount [.ref (D.1 0), .int (nI a)] (HM D V P PH) sz (zThr X_IOOBE (HM D V P PH) sz) := by
  refine zM_of hE hl (by decide +kernel) [some (.ref (D.1 0)), some (.int (nI a))] ⟨rfl, rfl, Nat.le_of_ble_eq_true rfl⟩ ?_
  intro G C q htb
  refine Z_run C it_Xx_worthByAccount 1 (f2 := (1, [some (.ref (D.1 0)), some (.int (nI a))], [.int (nI a)])) rfl ?_
  exact Zr_thrS C it_Xx_worthByAccount rfl p_Xx_needSide ml_Xx_132 [.int (nI a)] (ct_Xx_needSide_x C.ev C.l a (by omega) (by omega) (HM D V P PH) _) rfl rfl ⟨by decide, by decide, by decide, by decide⟩ (Nat.le_of_ble_eq_true rfl) rfl q htb (⟨rfl, rfl, rfl⟩) (by decide) (by decide)
set_option maxRecDepth 20000 in
theorem ct_Xx_captured {E : zE} (hE : zEv E) {l : Launch} (hl : l.stackTraces = false) {D : zD} (hD : zDok E D) (V : Nat → Nat → Int32) (P : Nat → Nat → Value) (PH : aH)  (a : Nat) (ha : a < 2) (sz : Nat) : zM E l y_Xx_captured [.code y_Xx_captured c_Xx_captured 2 (some .int)] rm_Xx_captured [.ref (D.1 0), .int (nI a)] (HM D V P PH) sz (zRet (some (.int (V 5 a))) (HM D V P PH) sz) := by
  refine zM_of hE hl (by decide +kernel) [some (.ref (D.1 0)), some (.int (nI a))] ⟨rfl, rfl, Nat.le_of_ble_eq_true rfl⟩ ?_
  intro G C q htb
  refine Z_run C it_Xx_captured 1 (f2 := (1, [some (.ref (D.1 0)), some (.int (nI a))], [.int (nI a)])) rfl ?_
  refine Zr_callS C it_Xx_captured rfl p_Xx_needSide ml_Xx_132 [.int (nI a)] (ct_Xx_needSide C.ev C.l a (by omega) (HM D V P PH) _) rfl rfl ⟨by decide, by decide, by decide, by decide⟩ (Nat.le_of_ble_eq_true rfl) rfl ?_
  show Z E G (HM D V P PH) sz 1 6 (4, [some (.ref (D.1 0)), some (.int (nI a))], [])
  refine Z_run C it_Xx_captured 1 (f2 := (5, [some (.ref (D.1 0)), some (.int (nI a))], [.ref (D.1 0)])) rfl ?_
  refine Zm_get C it_Xx_captured hD rfl 0 wi_Xx (by decide) rfl rfl (j := 0) (by decide) fl_Xx_10 (v := .ref (D.1 1)) rfl ?_
  refine Zm_get C it_Xx_captured hD rfl 1 wi_Gm (by decide) rfl rfl (j := 2) (by decide) fl_Xx_223 (v := .ref (D.1 5)) rfl ?_
  refine Z_run C it_Xx_captured 1 (f2 := (12, [some (.ref (D.1 0)), some (.int (nI a))], [.int (nI a), .ref (D.1 5)])) rfl ?_
  refine Zm_ald C it_Xx_captured hD 5 10 rfl (by decide) rfl (by decide) (by decide) rfl (j := a) (by omega) (v := .int (V 5 a)) rfl ?_
  exact Z_iret C q.e it_Xx_captured rfl (zRet_i rfl) (by decide) (by decide)
set_option maxRecDepth 20000 in
theorem ct_Xx_captured_x1 {E : zE} (hE : zEv E) {l : Launch} (hl : l.stackTraces = false) {D : zD} (hD : zDok E D) (V : Nat → Nat → Int32) (P : Nat → Nat → Value) (PH : aH) (a : Nat) (h32 : a < 4294967296) (ha : 2 ≤ a)  (sz : Nat) : zM E l y_Xx_captured [.code y_Xx_captured c_Xx_captured 2 (some .int)] rm_Xx_captured [.ref (D.1 0), .int (nI a)] (HM D V P PH) sz (zThr X_IOOBE (HM D V P PH) sz) := by
  refine zM_of hE hl (by decide +kernel) [some (.ref (D.1 0)), some (.int (nI a))] ⟨rfl, rfl, Nat.le_of_ble_eq_true rfl⟩ ?_
  intro G C q htb
  refine Z_run C it_Xx_captured 1 (f2 := (1, [some (.ref (D.1 0)), some (.int (nI a))], [.int (nI a)])) rfl ?_
  exact Zr_thrS C it_Xx_captured rfl p_Xx_needSide ml_Xx_132 [.int (nI a)] (ct_Xx_needSide_x C.ev C.l a (by omega) (by omega) (HM D V P PH) _) rfl rfl ⟨by decide, by decide, by decide, by decide⟩ (Nat.le_of_ble_eq_true rfl) rfl q htb (⟨rfl, rfl, rfl⟩) (by decide) (by decide)
set_option maxRecDepth 20000 in
theorem ct_Xx_whyNot {E : zE} (hE : zEv E) {l : Launch} (hl : l.stackTraces = false) {D : zD} (hD : zDok E D) (V : Nat → Nat → Int32) (P : Nat → Nat → Value) (PH : aH) (hF : okF (bF V 2)) (L : List zPos) (hch : chn PH (P 1 7) L) (tn : Nat) (htn : tn < 2) (hT : V 1 3 = nI tn) (ov : Bool) (hO5 : V 1 5 = bI ov) (a : Nat) (ha : a < 36) (b : Nat) (hb : b < 36) (sz : Nat) : zM E l y_Xx_whyNot [.code y_Xx_whyNot c_Xx_whyNot 3 (some .int)] rm_Xx_whyNot [.ref (D.1 0), .int (nI a), .int (nI b)] (HM D V P PH) sz (zRet (some (.int (nI (rsn L ov (bF V 2) tn a b)))) (HM D V P PH) sz) := by
  refine zM_of hE hl (by decide +kernel) [some (.ref (D.1 0)), some (.int (nI a)), some (.int (nI b))] ⟨rfl, rfl, Nat.le_of_ble_eq_true rfl⟩ ?_
  intro G C q htb
  refine Z_run C it_Xx_whyNot 1 (f2 := (1, [some (.ref (D.1 0)), some (.int (nI a)), some (.int (nI b))], [.int (nI a)])) rfl ?_
  refine Zr_callS C it_Xx_whyNot rfl p_Xx_needSquare ml_Xx_41 [.int (nI a)] (ct_Xx_needSquare C.ev C.l a (by omega) (HM D V P PH) _) rfl rfl ⟨by decide, by decide, by decide, by decide⟩ (Nat.le_of_ble_eq_true rfl) rfl ?_
  show Z E G (HM D V P PH) sz 1 6 (4, [some (.ref (D.1 0)), some (.int (nI a)), some (.int (nI b))], [])
  refine Z_run C it_Xx_whyNot 1 (f2 := (5, [some (.ref (D.1 0)), some (.int (nI a)), some (.int (nI b))], [.int (nI b)])) rfl ?_
  refine Zr_callS C it_Xx_whyNot rfl p_Xx_needSquare ml_Xx_41 [.int (nI b)] (ct_Xx_needSquare C.ev C.l b (by omega) (HM D V P PH) _) rfl rfl ⟨by decide, by decide, by decide, by decide⟩ (Nat.le_of_ble_eq_true rfl) rfl ?_
  show Z E G (HM D V P PH) sz 2 12 (8, [some (.ref (D.1 0)), some (.int (nI a)), some (.int (nI b))], [])
  refine Z_run C it_Xx_whyNot 1 (f2 := (9, [some (.ref (D.1 0)), some (.int (nI a)), some (.int (nI b))], [.ref (D.1 0)])) rfl ?_
  refine Zm_get C it_Xx_whyNot hD rfl 0 wi_Xx (by decide) rfl rfl (j := 0) (by decide) fl_Xx_10 (v := .ref (D.1 1)) rfl ?_
  refine Z_run C it_Xx_whyNot 2 (f2 := (14, [some (.ref (D.1 0)), some (.int (nI a)), some (.int (nI b))], [.int (nI b), .int (nI a), .ref (D.1 1)])) rfl ?_
  refine Zr_callV C it_Xx_whyNot hD rfl p_Gm_reasonAgainst ml_Xx_80 1 (by decide) rfl rfl [.int (nI a), .int (nI b)] (ct_Gm_reasonAgainst C.ev C.l hD _ _ _ hF L hch tn htn hT ov hO5 a (by omega) b (by omega) _) rfl rfl ⟨by decide, by decide, by decide, by decide⟩ (Nat.le_of_ble_eq_true rfl) rfl ?_
  show Z E G (HM D V P PH) sz 2 12 (17, [some (.ref (D.1 0)), some (.int (nI a)), some (.int (nI b))], [.int (nI (rsn L ov (bF V 2) tn a b))])
  exact Z_iret C q.e it_Xx_whyNot rfl (zRet_i rfl) (by decide) (by decide)
set_option maxRecDepth 20000 in
theorem ct_Xx_whyNot_x1 {E : zE} (hE : zEv E) {l : Launch} (hl : l.stackTraces = false) {D : zD} (hD : zDok E D) (V : Nat → Nat → Int32) (P : Nat → Nat → Value) (PH : aH) (a : Nat) (h32 : a < 4294967296) (ha : 36 ≤ a) (xb : Int32) (sz : Nat) : zM E l y_Xx_whyNot [.code y_Xx_whyNot c_Xx_whyNot 3 (some .int)] rm_Xx_whyNot [.ref (D.1 0), .int (nI a), .int xb] (HM D V P PH) sz (zThr X_IOOBE (HM D V P PH) sz) := by
  refine zM_of hE hl (by decide +kernel) [some (.ref (D.1 0)), some (.int (nI a)), some (.int xb)] ⟨rfl, rfl, Nat.le_of_ble_eq_true rfl⟩ ?_
  intro G C q htb
  refine Z_run C it_Xx_whyNot 1 (f2 := (1, [some (.ref (D.1 0)), some (.int (nI a)), some (.int xb)], [.int (nI a)])) rfl ?_
  exact Zr_thrS C it_Xx_whyNot rfl p_Xx_needSquare ml_Xx_41 [.int (nI a)] (ct_Xx_needSquare_x C.ev C.l a (by omega) (by omega) (HM D V P PH) _) rfl rfl ⟨by decide, by decide, by decide, by decide⟩ (Nat.le_of_ble_eq_true rfl) rfl q htb (⟨rfl, rfl, rfl⟩) (by decide) (by decide)
set_option maxRecDepth 20000 in
theorem ct_Xx_whyNot_x2 {E : zE} (hE : zEv E) {l : Launch} (hl : l.stackTraces = false) {D : zD} (hD : zDok E D) (V : Nat → Nat → Int32) (P : Nat → Nat → Value) (PH : aH) (a : Nat) (ha : a < 36) (b : Nat) (h32 : b < 4294967296) (hb : 36 ≤ b)  (sz : Nat) : zM E l y_Xx_whyNot [.code y_Xx_whyNot c_Xx_whyNot 3 (some .int)] rm_Xx_whyNot [.ref (D.1 0), .int (nI a), .int (nI b)] (HM D V P PH) sz (zThr X_IOOBE (HM D V P PH) sz) := by
  refine zM_of hE hl (by decide +kernel) [some (.ref (D.1 0)), some (.int (nI a)), some (.int (nI b))] ⟨rfl, rfl, Nat.le_of_ble_eq_true rfl⟩ ?_
  intro G C q htb
  refine Z_run C it_Xx_whyNot 1 (f2 := (1, [some (.ref (D.1 0)), some (.int (nI a)), some (.int (nI b))], [.int (nI a)])) rfl ?_
  refine Zr_callS C it_Xx_whyNot rfl p_Xx_needSquare ml_Xx_41 [.int (nI a)] (ct_Xx_needSquare C.ev C.l a (by omega) (HM D V P PH) _) rfl rfl ⟨by decide, by decide, by decide, by decide⟩ (Nat.le_of_ble_eq_true rfl) rfl ?_
  show Z E G (HM D V P PH) sz 1 6 (4, [some (.ref (D.1 0)), some (.int (nI a)), some (.int (nI b))], [])
  refine Z_run C it_Xx_whyNot 1 (f2 := (5, [some (.ref (D.1 0)), some (.int (nI a)), some (.int (nI b))], [.int (nI b)])) rfl ?_
  exact Zr_thrS C it_Xx_whyNot rfl p_Xx_needSquare ml_Xx_41 [.int (nI b)] (ct_Xx_needSquare_x C.ev C.l b (by omega) (by omega) (HM D V P PH) _) rfl rfl ⟨by decide, by decide, by decide, by decide⟩ (Nat.le_of_ble_eq_true rfl) rfl q htb (⟨rfl, rfl, rfl⟩) (by decide) (by decide)
