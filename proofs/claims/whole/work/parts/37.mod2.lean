/-! ===== the model: small methods ===== -/
set_option maxRecDepth 20000 in
theorem ct_Mm_isSide {E : zE} (hE : zEv E) {l : Launch} (hl : l.stackTraces = false) (a : Nat) (h32 : a < 4294967296) (h : aH) (sz : Nat) : zM E l y_Mm_isSide [.code y_Mm_isSide c_Mm_isSide 1 (some .boolean)] rm_Mm_isSide [.int (nI a)] h sz (zRet (some (.int (bI (decide (a ≤ 1))))) h sz) := by
  refine zM_of hE hl (by decide +kernel) [some (.int (nI a))] ⟨rfl, rfl, Nat.le_of_ble_eq_true rfl⟩ ?_
  intro G C q htb
  refine Z_run C it_Mm_isSide 3 (f2 := (3, [some (.int (nI a))], [.int (nI 1), .int (nI 0), .int (nI a)])) rfl ?_
  refine Zr_callS C it_Mm_isSide rfl p_Mm_in ml_Mm_33 [.int (nI a), .int (nI 0), .int (nI 1)] (ct_Mm_in C.ev C.l a h32 1 (by omega) h _) rfl rfl ⟨by decide, by decide, by decide, by decide⟩ (Nat.le_of_ble_eq_true rfl) rfl ?_
  show Z E G h sz 0 0 (6, [some (.int (nI a))], [.int (bI (decide (a ≤ 1)))])
  exact Z_zret C q.e it_Mm_isSide rfl bI_v (zRet_i rfl) (by decide) (by decide)
set_option maxRecDepth 20000 in
theorem ct_Mm_isSquare {E : zE} (hE : zEv E) {l : Launch} (hl : l.stackTraces = false) (a : Nat) (h32 : a < 4294967296) (h : aH) (sz : Nat) : zM E l y_Mm_isSquare [.code y_Mm_isSquare c_Mm_isSquare 1 (some .boolean)] rm_Mm_isSquare [.int (nI a)] h sz (zRet (some (.int (bI (decide (a ≤ 35))))) h sz) := by
  refine zM_of hE hl (by decide +kernel) [some (.int (nI a))] ⟨rfl, rfl, Nat.le_of_ble_eq_true rfl⟩ ?_
  intro G C q htb
  refine Z_run C it_Mm_isSquare 3 (f2 := (4, [some (.int (nI a))], [.int (nI 35), .int (nI 0), .int (nI a)])) rfl ?_
  refine Zr_callS C it_Mm_isSquare rfl p_Mm_in ml_Mm_33 [.int (nI a), .int (nI 0), .int (nI 35)] (ct_Mm_in C.ev C.l a h32 35 (by omega) h _) rfl rfl ⟨by decide, by decide, by decide, by decide⟩ (Nat.le_of_ble_eq_true rfl) rfl ?_
  show Z E G h sz 0 0 (7, [some (.int (nI a))], [.int (bI (decide (a ≤ 35)))])
  exact Z_zret C q.e it_Mm_isSquare rfl bI_v (zRet_i rfl) (by decide) (by decide)
set_option maxRecDepth 20000 in
theorem ct_Mm_toMove {E : zE} (hE : zEv E) {l : Launch} (hl : l.stackTraces = false) {D : zD} (hD : zDok E D) (V : Nat → Nat → Int32) (P : Nat → Nat → Value) (PH : aH) (sz : Nat) : zM E l y_Mm_toMove [.code y_Mm_toMove c_Mm_toMove 1 (some .int)] rm_Mm_toMove [.ref (D.1 37)] (HM D V P PH) sz (zRet (some (.int (V 38 39))) (HM D (vset V 37 8 (nI 0)) P PH) sz) := by
  refine zM_of hE hl (by decide +kernel) [some (.ref (D.1 37))] ⟨rfl, rfl, Nat.le_of_ble_eq_true rfl⟩ ?_
  intro G C q htb
  refine Z_run C it_Mm_toMove 2 (f2 := (2, [some (.ref (D.1 37))], [.ref (D.1 37), .ref (D.1 37)])) rfl ?_
  refine Zm_get C it_Mm_toMove hD rfl 37 wi_Mm (by decide) rfl rfl (j := 0) (by decide) fl_Mm_7 (v := .ref (D.1 38)) rfl ?_
  refine Z_run C it_Mm_toMove 1 (f2 := (7, [some (.ref (D.1 37))], [.int (nI 39), .ref (D.1 38), .ref (D.1 37)])) rfl ?_
  refine Zm_ald C it_Mm_toMove hD 38 10 rfl (by decide) rfl (by decide) (by decide) rfl (j := 39) (by omega) (v := .int (V 38 39)) rfl ?_
  refine Zr_callV C it_Mm_toMove hD rfl p_Mm_says ml_Mm_44 37 (by decide) rfl rfl [.int (V 38 39)] (ct_Mm_says C.ev C.l hD _ _ _ (V 38 39) _) rfl rfl ⟨by decide, by decide, by decide, by decide⟩ (Nat.le_of_ble_eq_true rfl) rfl ?_
  show Z E G (HM D (vset V 37 8 (nI 0)) P PH) sz 0 0 (11, [some (.ref (D.1 37))], [.int (V 38 39)])
  exact Z_iret C q.e it_Mm_toMove rfl (zRet_iH rfl rfl) (by decide) (by decide)
set_option maxRecDepth 20000 in
theorem ct_Mm_movesMade {E : zE} (hE : zEv E) {l : Launch} (hl : l.stackTraces = false) {D : zD} (hD : zDok E D) (V : Nat → Nat → Int32) (P : Nat → Nat → Value) (PH : aH) (sz : Nat) : zM E l y_Mm_movesMade [.code y_Mm_movesMade c_Mm_movesMade 1 (some .int)] rm_Mm_movesMade [.ref (D.1 37)] (HM D V P PH) sz (zRet (some (.int (V 38 40))) (HM D (vset V 37 8 (nI 0)) P PH) sz) := by
  refine zM_of hE hl (by decide +kernel) [some (.ref (D.1 37))] ⟨rfl, rfl, Nat.le_of_ble_eq_true rfl⟩ ?_
  intro G C q htb
  refine Z_run C it_Mm_movesMade 2 (f2 := (2, [some (.ref (D.1 37))], [.ref (D.1 37), .ref (D.1 37)])) rfl ?_
  refine Zm_get C it_Mm_movesMade hD rfl 37 wi_Mm (by decide) rfl rfl (j := 0) (by decide) fl_Mm_7 (v := .ref (D.1 38)) rfl ?_
  refine Z_run C it_Mm_movesMade 1 (f2 := (7, [some (.ref (D.1 37))], [.int (nI 40), .ref (D.1 38), .ref (D.1 37)])) rfl ?_
  refine Zm_ald C it_Mm_movesMade hD 38 10 rfl (by decide) rfl (by decide) (by decide) rfl (j := 40) (by omega) (v := .int (V 38 40)) rfl ?_
  refine Zr_callV C it_Mm_movesMade hD rfl p_Mm_says ml_Mm_44 37 (by decide) rfl rfl [.int (V 38 40)] (ct_Mm_says C.ev C.l hD _ _ _ (V 38 40) _) rfl rfl ⟨by decide, by decide, by decide, by decide⟩ (Nat.le_of_ble_eq_true rfl) rfl ?_
  show Z E G (HM D (vset V 37 8 (nI 0)) P PH) sz 0 0 (11, [some (.ref (D.1 37))], [.int (V 38 40)])
  exact Z_iret C q.e it_Mm_movesMade rfl (zRet_iH rfl rfl) (by decide) (by decide)
set_option maxRecDepth 20000 in
theorem ct_Mm_historySize {E : zE} (hE : zEv E) {l : Launch} (hl : l.stackTraces = false) {D : zD} (hD : zDok E D) (V : Nat → Nat → Int32) (P : Nat → Nat → Value) (PH : aH) (sz : Nat) : zM E l y_Mm_historySize [.code y_Mm_historySize c_Mm_historySize 1 (some .int)] rm_Mm_historySize [.ref (D.1 37)] (HM D V P PH) sz (zRet (some (.int (V 37 2))) (HM D (vset V 37 8 (nI 0)) P PH) sz) := by
  refine zM_of hE hl (by decide +kernel) [some (.ref (D.1 37))] ⟨rfl, rfl, Nat.le_of_ble_eq_true rfl⟩ ?_
  intro G C q htb
  refine Z_run C it_Mm_historySize 2 (f2 := (2, [some (.ref (D.1 37))], [.ref (D.1 37), .ref (D.1 37)])) rfl ?_
  refine Zm_get C it_Mm_historySize hD rfl 37 wi_Mm (by decide) rfl rfl (j := 2) (by decide) fl_Mm_37 (v := .int (V 37 2)) rfl ?_
  refine Zr_callV C it_Mm_historySize hD rfl p_Mm_says ml_Mm_44 37 (by decide) rfl rfl [.int (V 37 2)] (ct_Mm_says C.ev C.l hD _ _ _ (V 37 2) _) rfl rfl ⟨by decide, by decide, by decide, by decide⟩ (Nat.le_of_ble_eq_true rfl) rfl ?_
  show Z E G (HM D (vset V 37 8 (nI 0)) P PH) sz 0 0 (8, [some (.ref (D.1 37))], [.int (V 37 2)])
  exact Z_iret C q.e it_Mm_historySize rfl (zRet_iH rfl rfl) (by decide) (by decide)
set_option maxRecDepth 20000 in
theorem ct_Mm_clearText {E : zE} (hE : zEv E) {l : Launch} (hl : l.stackTraces = false) {D : zD} (hD : zDok E D) (V : Nat → Nat → Int32) (P : Nat → Nat → Value) (PH : aH) (sz : Nat) : zM E l y_Mm_clearText [.code y_Mm_clearText c_Mm_clearText 2 (some .int)] rm_Mm_clearText [.ref (D.1 37)] (HM D V P PH) sz (zRet (some (.int (V 37 7))) (HM D (vset (vset V 37 7 (nI 0)) 37 8 (nI 0)) P PH) sz) := by
  refine zM_of hE hl (by decide +kernel) [some (.ref (D.1 37)), none] ⟨rfl, rfl, Nat.le_of_ble_eq_true rfl⟩ ?_
  intro G C q htb
  refine Z_run C it_Mm_clearText 1 (f2 := (1, [some (.ref (D.1 37)), none], [.ref (D.1 37)])) rfl ?_
  refine Zm_get C it_Mm_clearText hD rfl 37 wi_Mm (by decide) rfl rfl (j := 7) (by decide) fl_Mm_127 (v := .int (V 37 7)) rfl ?_
  refine Z_run C it_Mm_clearText 3 (f2 := (7, [some (.ref (D.1 37)), some (.int (V 37 7))], [.int (nI 0), .ref (D.1 37)])) rfl ?_
  refine Zm_put C it_Mm_clearText hD rfl 37 wi_Mm t_Mm t_Mm_ok n_Mm (by first | decide | omega) rfl rfl (j := 7) (by decide) fl_Mm_127 rfl rfl rfl rfl ?_
  refine Z_run C it_Mm_clearText 2 (f2 := (12, [some (.ref (D.1 37)), some (.int (V 37 7))], [.int (V 37 7), .ref (D.1 37)])) rfl ?_
  refine Zr_callV C it_Mm_clearText hD rfl p_Mm_says ml_Mm_44 37 (by decide) rfl rfl [.int (V 37 7)] (ct_Mm_says C.ev C.l hD _ _ _ (V 37 7) _) rfl rfl ⟨by decide, by decide, by decide, by decide⟩ (Nat.le_of_ble_eq_true rfl) rfl ?_
  show Z E G (HM D (vset (vset V 37 7 (nI 0)) 37 8 (nI 0)) P PH) sz 0 0 (15, [some (.ref (D.1 37)), some (.int (V 37 7))], [.int (V 37 7)])
  exact Z_iret C q.e it_Mm_clearText rfl (zRet_iH rfl rfl) (by decide) (by decide)
set_option maxRecDepth 20000 in
theorem ct_Mm_asks {E : zE} (hE : zEv E) {l : Launch} (hl : l.stackTraces = false) {D : zD} (hD : zDok E D) (V : Nat → Nat → Int32) (P : Nat → Nat → Value) (PH : aH) (c : Bool) (sz : Nat) : zM E l y_Mm_asks [.code y_Mm_asks c_Mm_asks 2 (some .boolean)] rm_Mm_asks [.ref (D.1 37), .int (bI c)] (HM D V P PH) sz (zRet (some (.int (bI c))) (HM D (vset V 37 8 (if c then nI 0 else nI 1)) P PH) sz) := by
  refine zM_of hE hl (by decide +kernel) [some (.ref (D.1 37)), some (.int (bI c))] ⟨rfl, rfl, Nat.le_of_ble_eq_true rfl⟩ ?_
  intro G C q htb
  refine Z_run C it_Mm_asks 2 (f2 := (2, [some (.ref (D.1 37)), some (.int (bI c))], [.int (bI c), .ref (D.1 37)])) rfl ?_
  refine Z_br C it_Mm_asks rfl rfl (fun hc1 => ?_) (fun hc1 => ?_)
  · replace hc1 := bI_0.mp hc1
    refine Z_run C it_Mm_asks 1 (f2 := (10, [some (.ref (D.1 37)), some (.int (bI c))], [.int (nI 1), .ref (D.1 37)])) rfl ?_
    refine Zm_put C it_Mm_asks hD rfl 37 wi_Mm t_Mm t_Mm_ok n_Mm (by first | decide | omega) rfl rfl (j := 8) (by decide) fl_Mm_29 rfl rfl rfl rfl ?_
    refine Z_run C it_Mm_asks 1 (f2 := (14, [some (.ref (D.1 37)), some (.int (bI c))], [.int (bI c)])) rfl ?_
    exact Z_zret C q.e it_Mm_asks rfl bI_v (zRet_iH rfl (by simp only [hc1]; rfl)) (by decide) (by decide)
  · replace hc1 := bI_1.mp hc1
    refine Z_run C it_Mm_asks 2 (f2 := (10, [some (.ref (D.1 37)), some (.int (bI c))], [.int (nI 0), .ref (D.1 37)])) rfl ?_
    refine Zm_put C it_Mm_asks hD rfl 37 wi_Mm t_Mm t_Mm_ok n_Mm (by first | decide | omega) rfl rfl (j := 8) (by decide) fl_Mm_29 rfl rfl rfl rfl ?_
    refine Z_run C it_Mm_asks 1 (f2 := (14, [some (.ref (D.1 37)), some (.int (bI c))], [.int (bI c)])) rfl ?_
    exact Z_zret C q.e it_Mm_asks rfl bI_v (zRet_iH rfl (by simp only [hc1]; rfl)) (by decide) (by decide)
