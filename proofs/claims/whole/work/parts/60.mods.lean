/-! ===== the model: four more queries ===== -/
set_option maxRecDepth 20000 in
theorem ct_Mm_knowing {E : zE} (hE : zEv E) {l : Launch} (hl : l.stackTraces = false) {D : zD} (hD : zDok E D) (V : Nat → Nat → Int32) (P : Nat → Nat → Value) (PH : aH) (F : Nat → Nat) (hF : okF F) (hz : ∀ k, k < 36 → V 38 k = nI (mo (F k)))  (a : Nat) (ha : a < 2) (b : Nat) (hb : b < 5) (sz : Nat) : zM E l y_Mm_knowing [.code y_Mm_knowing c_Mm_knowing 5 (some .int)] rm_Mm_knowing [.ref (D.1 37), .int (nI a), .int (nI b)] (HM D V P PH) sz (zRet (some (.int (nI (cnt (fun k => hld F k a && kn (stp (F k)) b) 36)))) (HM D (vset V 37 8 (nI 0)) P PH) sz) := by
  refine zM_of hE hl (by decide +kernel) [some (.ref (D.1 37)), some (.int (nI a)), some (.int (nI b)), none, none] ⟨rfl, rfl, Nat.le_of_ble_eq_true rfl⟩ ?_
  intro G C q htb
  refine Z_run C it_Mm_knowing 2 (f2 := (2, [some (.ref (D.1 37)), some (.int (nI a)), some (.int (nI b)), none, none], [.int (nI a), .ref (D.1 37)])) rfl ?_
  refine Zr_callS C it_Mm_knowing rfl p_Mm_isSide ml_Mm_91 [.int (nI a)] (ct_Mm_isSide_t C.ev C.l a (by omega) (HM D V P PH) _) rfl rfl ⟨by decide, by decide, by decide, by decide⟩ (Nat.le_of_ble_eq_true rfl) rfl ?_
  show Z E G (HM D V P PH) sz 0 0 (5, [some (.ref (D.1 37)), some (.int (nI a)), some (.int (nI b)), none, none], [.int (nI 1), .ref (D.1 37)])
  refine Z_br C it_Mm_knowing rfl rfl (fun hc1 => absurd hc1 (by decide)) (fun hc1 => ?_)
  refine Z_run C it_Mm_knowing 3 (f2 := (11, [some (.ref (D.1 37)), some (.int (nI a)), some (.int (nI b)), none, none], [.int (nI 4), .int (nI 0), .int (nI b), .ref (D.1 37)])) rfl ?_
  refine Zr_callS C it_Mm_knowing rfl p_Mm_in ml_Mm_33 [.int (nI b), .int (nI 0), .int (nI 4)] (ct_Mm_in_t C.ev C.l b 0 4 (by omega) (by omega) (by omega) (HM D V P PH) _) rfl rfl ⟨by decide, by decide, by decide, by decide⟩ (Nat.le_of_ble_eq_true rfl) rfl ?_
  show Z E G (HM D V P PH) sz 0 0 (14, [some (.ref (D.1 37)), some (.int (nI a)), some (.int (nI b)), none, none], [.int (nI 1), .ref (D.1 37)])
  refine Z_br C it_Mm_knowing rfl rfl (fun hc2 => absurd hc2 (by decide)) (fun hc2 => ?_)
  refine Z_run C it_Mm_knowing 2 (f2 := (22, [some (.ref (D.1 37)), some (.int (nI a)), some (.int (nI b)), none, none], [.int (nI 1), .ref (D.1 37)])) rfl ?_
  refine Zr_callV C it_Mm_knowing hD rfl p_Mm_asks ml_Mm_40 37 (by decide) rfl rfl [.int (nI 1)] (ct_Mm_asks_t C.ev C.l hD V P _ _) rfl rfl ⟨by decide, by decide, by decide, by decide⟩ (Nat.le_of_ble_eq_true rfl) rfl ?_
  show Z E G (HM D (vset V 37 8 (nI 0)) P PH) sz 0 0 (25, [some (.ref (D.1 37)), some (.int (nI a)), some (.int (nI b)), none, none], [.int (nI 1)])
  refine Z_br C it_Mm_knowing rfl rfl (fun hc3 => ?_) (fun hc3 => absurd (by decide) hc3)
  refine Z_run C it_Mm_knowing 4 (f2 := (35, [some (.ref (D.1 37)), some (.int (nI a)), some (.int (nI b)), some (.int (nI 0)), some (.int (nI 0))], [])) rfl ?_
  exact lp_Mm_knowing C q hD hF (V := (vset V 37 8 (nI 0))) hz ha hb ⟨rfl, rfl, rfl⟩ 37 0 (by omega) (by omega)
set_option maxRecDepth 20000 in
theorem ct_Mm_knowing_x1 {E : zE} (hE : zEv E) {l : Launch} (hl : l.stackTraces = false) {D : zD} (hD : zDok E D) (V : Nat → Nat → Int32) (P : Nat → Nat → Value) (PH : aH) (a : Nat) (h32 : a < 4294967296) (ha : 2 ≤ a) (xb : Int32) (sz : Nat) : zM E l y_Mm_knowing [.code y_Mm_knowing c_Mm_knowing 5 (some .int)] rm_Mm_knowing [.ref (D.1 37), .int (nI a), .int xb] (HM D V P PH) sz (zRet (some (.int (nI 0))) (HM D (vset V 37 8 (nI 1)) P PH) sz) := by
  refine zM_of hE hl (by decide +kernel) [some (.ref (D.1 37)), some (.int (nI a)), some (.int xb), none, none] ⟨rfl, rfl, Nat.le_of_ble_eq_true rfl⟩ ?_
  intro G C q htb
  refine Z_run C it_Mm_knowing 2 (f2 := (2, [some (.ref (D.1 37)), some (.int (nI a)), some (.int xb), none, none], [.int (nI a), .ref (D.1 37)])) rfl ?_
  refine Zr_callS C it_Mm_knowing rfl p_Mm_isSide ml_Mm_91 [.int (nI a)] (ct_Mm_isSide_f C.ev C.l a (by omega) (by omega) (HM D V P PH) _) rfl rfl ⟨by decide, by decide, by decide, by decide⟩ (Nat.le_of_ble_eq_true rfl) rfl ?_
  show Z E G (HM D V P PH) sz 0 0 (5, [some (.ref (D.1 37)), some (.int (nI a)), some (.int xb), none, none], [.int (nI 0), .ref (D.1 37)])
  refine Z_br C it_Mm_knowing rfl rfl (fun hc1 => ?_) (fun hc1 => absurd (by decide) hc1)
  refine Z_run C it_Mm_knowing 1 (f2 := (22, [some (.ref (D.1 37)), some (.int (nI a)), some (.int xb), none, none], [.int (nI 0), .ref (D.1 37)])) rfl ?_
  refine Zr_callV C it_Mm_knowing hD rfl p_Mm_asks ml_Mm_40 37 (by decide) rfl rfl [.int (nI 0)] (ct_Mm_asks_f C.ev C.l hD V P _ _) rfl rfl ⟨by decide, by decide, by decide, by decide⟩ (Nat.le_of_ble_eq_true rfl) rfl ?_
  show Z E G (HM D (vset V 37 8 (nI 1)) P PH) sz 0 0 (25, [some (.ref (D.1 37)), some (.int (nI a)), some (.int xb), none, none], [.int (nI 0)])
  refine Z_br C it_Mm_knowing rfl rfl (fun hc2 => absurd hc2 (by decide)) (fun hc2 => ?_)
  refine Z_run C it_Mm_knowing 1 (f2 := (29, [some (.ref (D.1 37)), some (.int (nI a)), some (.int xb), none, none], [.int (nI 0)])) rfl ?_
  exact Z_iret C q.e it_Mm_knowing rfl (zRet_iH rfl (by first | rfl | (simp only [vset_2]))) (by decide) (by decide)
set_option maxRecDepth 20000 in
theorem ct_Mm_knowing_x2 {E : zE} (hE : zEv E) {l : Launch} (hl : l.stackTraces = false) {D : zD} (hD : zDok E D) (V : Nat → Nat → Int32) (P : Nat → Nat → Value) (PH : aH) (a : Nat) (ha : a < 2) (b : Nat) (h32 : b < 4294967296) (hb : 5 ≤ b) (sz : Nat) : zM E l y_Mm_knowing [.code y_Mm_knowing c_Mm_knowing 5 (some .int)] rm_Mm_knowing [.ref (D.1 37), .int (nI a), .int (nI b)] (HM D V P PH) sz (zRet (some (.int (nI 0))) (HM D (vset V 37 8 (nI 1)) P PH) sz) := by
  refine zM_of hE hl (by decide +kernel) [some (.ref (D.1 37)), some (.int (nI a)), some (.int (nI b)), none, none] ⟨rfl, rfl, Nat.le_of_ble_eq_true rfl⟩ ?_
  intro G C q htb
  refine Z_run C it_Mm_knowing 2 (f2 := (2, [some (.ref (D.1 37)), some (.int (nI a)), some (.int (nI b)), none, none], [.int (nI a), .ref (D.1 37)])) rfl ?_
  refine Zr_callS C it_Mm_knowing rfl p_Mm_isSide ml_Mm_91 [.int (nI a)] (ct_Mm_isSide_t C.ev C.l a (by omega) (HM D V P PH) _) rfl rfl ⟨by decide, by decide, by decide, by decide⟩ (Nat.le_of_ble_eq_true rfl) rfl ?_
  show Z E G (HM D V P PH) sz 0 0 (5, [some (.ref (D.1 37)), some (.int (nI a)), some (.int (nI b)), none, none], [.int (nI 1), .ref (D.1 37)])
  refine Z_br C it_Mm_knowing rfl rfl (fun hc1 => absurd hc1 (by decide)) (fun hc1 => ?_)
  refine Z_run C it_Mm_knowing 3 (f2 := (11, [some (.ref (D.1 37)), some (.int (nI a)), some (.int (nI b)), none, none], [.int (nI 4), .int (nI 0), .int (nI b), .ref (D.1 37)])) rfl ?_
  refine Zr_callS C it_Mm_knowing rfl p_Mm_in ml_Mm_33 [.int (nI b), .int (nI 0), .int (nI 4)] (ct_Mm_in_f C.ev C.l b 0 4 (by omega) (by omega) (by omega) (by omega) (HM D V P PH) _) rfl rfl ⟨by decide, by decide, by decide, by decide⟩ (Nat.le_of_ble_eq_true rfl) rfl ?_
  show Z E G (HM D V P PH) sz 0 0 (14, [some (.ref (D.1 37)), some (.int (nI a)), some (.int (nI b)), none, none], [.int (nI 0), .ref (D.1 37)])
  refine Z_br C it_Mm_knowing rfl rfl (fun hc2 => ?_) (fun hc2 => absurd (by decide) hc2)
  refine Z_run C it_Mm_knowing 1 (f2 := (22, [some (.ref (D.1 37)), some (.int (nI a)), some (.int (nI b)), none, none], [.int (nI 0), .ref (D.1 37)])) rfl ?_
  refine Zr_callV C it_Mm_knowing hD rfl p_Mm_asks ml_Mm_40 37 (by decide) rfl rfl [.int (nI 0)] (ct_Mm_asks_f C.ev C.l hD V P _ _) rfl rfl ⟨by decide, by decide, by decide, by decide⟩ (Nat.le_of_ble_eq_true rfl) rfl ?_
  show Z E G (HM D (vset V 37 8 (nI 1)) P PH) sz 0 0 (25, [some (.ref (D.1 37)), some (.int (nI a)), some (.int (nI b)), none, none], [.int (nI 0)])
  refine Z_br C it_Mm_knowing rfl rfl (fun hc3 => absurd hc3 (by decide)) (fun hc3 => ?_)
  refine Z_run C it_Mm_knowing 1 (f2 := (29, [some (.ref (D.1 37)), some (.int (nI a)), some (.int (nI b)), none, none], [.int (nI 0)])) rfl ?_
  exact Z_iret C q.e it_Mm_knowing rfl (zRet_iH rfl (by first | rfl | (simp only [vset_2]))) (by decide) (by decide)
set_option maxRecDepth 20000 in
theorem ct_Mm_guarded {E : zE} (hE : zEv E) {l : Launch} (hl : l.stackTraces = false) {D : zD} (hD : zDok E D) (V : Nat → Nat → Int32) (P : Nat → Nat → Value) (PH : aH) (F : Nat → Nat) (hF : okF F) (hz : ∀ k, k < 36 → V 38 k = nI (mo (F k)))  (a : Nat) (ha : a < 2) (sz : Nat) : zM E l y_Mm_guarded [.code y_Mm_guarded c_Mm_guarded 5 (some .long)] rm_Mm_guarded [.ref (D.1 37), .int (nI a)] (HM D V P PH) sz (zRet (some (.long (lN (bm (fun k => decide (0 < cnt (fun j => hld F j a && gop F (stp (F j)) j k 5) 36)) 36)))) (HM D (vset V 37 8 (nI 0)) P PH) sz) := by
  refine zM_of hE hl (by decide +kernel) [some (.ref (D.1 37)), some (.int (nI a)), none, none, none] ⟨rfl, rfl, Nat.le_of_ble_eq_true rfl⟩ ?_
  intro G C q htb
  refine Z_run C it_Mm_guarded 2 (f2 := (2, [some (.ref (D.1 37)), some (.int (nI a)), none, none, none], [.int (nI a), .ref (D.1 37)])) rfl ?_
  refine Zr_callS C it_Mm_guarded rfl p_Mm_isSide ml_Mm_91 [.int (nI a)] (ct_Mm_isSide_t C.ev C.l a (by omega) (HM D V P PH) _) rfl rfl ⟨by decide, by decide, by decide, by decide⟩ (Nat.le_of_ble_eq_true rfl) rfl ?_
  show Z E G (HM D V P PH) sz 0 0 (5, [some (.ref (D.1 37)), some (.int (nI a)), none, none, none], [.int (nI 1), .ref (D.1 37)])
  refine Zr_callV C it_Mm_guarded hD rfl p_Mm_asks ml_Mm_40 37 (by decide) rfl rfl [.int (nI 1)] (ct_Mm_asks_t C.ev C.l hD V P _ _) rfl rfl ⟨by decide, by decide, by decide, by decide⟩ (Nat.le_of_ble_eq_true rfl) rfl ?_
  show Z E G (HM D (vset V 37 8 (nI 0)) P PH) sz 0 0 (8, [some (.ref (D.1 37)), some (.int (nI a)), none, none, none], [.int (nI 1)])
  refine Z_br C it_Mm_guarded rfl rfl (fun hc1 => ?_) (fun hc1 => absurd (by decide) hc1)
  refine Z_run C it_Mm_guarded 4 (f2 := (18, [some (.ref (D.1 37)), some (.int (nI a)), some (.long (lN 0)), none, some (.int (nI 0))], [])) rfl ?_
  exact lp_Mm_guarded C q hD hF (V := (vset V 37 8 (nI 0))) hz ha ⟨rfl, rfl, rfl⟩ 37 0 (by omega) (by omega)
set_option maxRecDepth 20000 in
theorem ct_Mm_guarded_x1 {E : zE} (hE : zEv E) {l : Launch} (hl : l.stackTraces = false) {D : zD} (hD : zDok E D) (V : Nat → Nat → Int32) (P : Nat → Nat → Value) (PH : aH) (a : Nat) (h32 : a < 4294967296) (ha : 2 ≤ a) (sz : Nat) : zM E l y_Mm_guarded [.code y_Mm_guarded c_Mm_guarded 5 (some .long)] rm_Mm_guarded [.ref (D.1 37), .int (nI a)] (HM D V P PH) sz (zRet (some (.long (lN 0))) (HM D (vset V 37 8 (nI 1)) P PH) sz) := by
  refine zM_of hE hl (by decide +kernel) [some (.ref (D.1 37)), some (.int (nI a)), none, none, none] ⟨rfl, rfl, Nat.le_of_ble_eq_true rfl⟩ ?_
  intro G C q htb
  refine Z_run C it_Mm_guarded 2 (f2 := (2, [some (.ref (D.1 37)), some (.int (nI a)), none, none, none], [.int (nI a), .ref (D.1 37)])) rfl ?_
  refine Zr_callS C it_Mm_guarded rfl p_Mm_isSide ml_Mm_91 [.int (nI a)] (ct_Mm_isSide_f C.ev C.l a (by omega) (by omega) (HM D V P PH) _) rfl rfl ⟨by decide, by decide, by decide, by decide⟩ (Nat.le_of_ble_eq_true rfl) rfl ?_
  show Z E G (HM D V P PH) sz 0 0 (5, [some (.ref (D.1 37)), some (.int (nI a)), none, none, none], [.int (nI 0), .ref (D.1 37)])
  refine Zr_callV C it_Mm_guarded hD rfl p_Mm_asks ml_Mm_40 37 (by decide) rfl rfl [.int (nI 0)] (ct_Mm_asks_f C.ev C.l hD V P _ _) rfl rfl ⟨by decide, by decide, by decide, by decide⟩ (Nat.le_of_ble_eq_true rfl) rfl ?_
  show Z E G (HM D (vset V 37 8 (nI 1)) P PH) sz 0 0 (8, [some (.ref (D.1 37)), some (.int (nI a)), none, none, none], [.int (nI 0)])
  refine Z_br C it_Mm_guarded rfl rfl (fun hc1 => absurd hc1 (by decide)) (fun hc1 => ?_)
  refine Z_run C it_Mm_guarded 1 (f2 := (12, [some (.ref (D.1 37)), some (.int (nI a)), none, none, none], [.long (lN 0)])) rfl ?_
  exact Z_lret C q.e it_Mm_guarded rfl (zRet_lH rfl (by first | rfl | (simp only [vset_2]))) (by decide) (by decide)
set_option maxRecDepth 20000 in
theorem ct_Mm_captured {E : zE} (hE : zEv E) {l : Launch} (hl : l.stackTraces = false) {D : zD} (hD : zDok E D) (V : Nat → Nat → Int32) (P : Nat → Nat → Value) (PH : aH) (F : Nat → Nat) (hF : okF F) (hz : ∀ k, k < 36 → V 38 k = nI (mo (F k)))  (a : Nat) (ha : a < 2) (sz : Nat) : zM E l y_Mm_captured [.code y_Mm_captured c_Mm_captured 2 (some .int)] rm_Mm_captured [.ref (D.1 37), .int (nI a)] (HM D V P PH) sz (zRet (some (.int (V 38 (44 + a)))) (HM D (vset V 37 8 (nI 0)) P PH) sz) := by
  refine zM_of hE hl (by decide +kernel) [some (.ref (D.1 37)), some (.int (nI a))] ⟨rfl, rfl, Nat.le_of_ble_eq_true rfl⟩ ?_
  intro G C q htb
  refine Z_run C it_Mm_captured 2 (f2 := (2, [some (.ref (D.1 37)), some (.int (nI a))], [.int (nI a), .ref (D.1 37)])) rfl ?_
  refine Zr_callS C it_Mm_captured rfl p_Mm_isSide ml_Mm_91 [.int (nI a)] (ct_Mm_isSide_t C.ev C.l a (by omega) (HM D V P PH) _) rfl rfl ⟨by decide, by decide, by decide, by decide⟩ (Nat.le_of_ble_eq_true rfl) rfl ?_
  show Z E G (HM D V P PH) sz 0 0 (5, [some (.ref (D.1 37)), some (.int (nI a))], [.int (nI 1), .ref (D.1 37)])
  refine Zr_callV C it_Mm_captured hD rfl p_Mm_asks ml_Mm_40 37 (by decide) rfl rfl [.int (nI 1)] (ct_Mm_asks_t C.ev C.l hD V P _ _) rfl rfl ⟨by decide, by decide, by decide, by decide⟩ (Nat.le_of_ble_eq_true rfl) rfl ?_
  show Z E G (HM D (vset V 37 8 (nI 0)) P PH) sz 0 0 (8, [some (.ref (D.1 37)), some (.int (nI a))], [.int (nI 1)])
  refine Z_br C it_Mm_captured rfl rfl (fun hc1 => absurd hc1 (by decide)) (fun hc1 => ?_)
  refine Z_run C it_Mm_captured 1 (f2 := (12, [some (.ref (D.1 37)), some (.int (nI a))], [.ref (D.1 37)])) rfl ?_
  refine Zm_get C it_Mm_captured hD rfl 37 wi_Mm (by decide) rfl rfl (j := 0) (by decide) fl_Mm_7 (v := .ref (D.1 38)) rfl ?_
  refine Z_run C it_Mm_captured 3 (f2 := (19, [some (.ref (D.1 37)), some (.int (nI a))], [.int (nI 44 + nI a), .ref (D.1 38)])) rfl ?_
  rw [nI_add 44 a]
  refine Zm_ald C it_Mm_captured hD 38 10 rfl (by decide) rfl (by decide) (by decide) rfl (j := 44 + a) (by omega) (v := .int ((vset V 37 8 (nI 0)) 38 (44 + a))) rfl ?_
  refine Z_run C it_Mm_captured 1 (f2 := (24, [some (.ref (D.1 37)), some (.int (nI a))], [.int ((vset V 37 8 (nI 0)) 38 (44 + a))])) rfl ?_
  exact Z_iret C q.e it_Mm_captured rfl (zRet_iH rfl (by first | rfl | (simp only [vset_2]))) (by decide) (by decide)
set_option maxRecDepth 20000 in
theorem ct_Mm_captured_x1 {E : zE} (hE : zEv E) {l : Launch} (hl : l.stackTraces = false) {D : zD} (hD : zDok E D) (V : Nat → Nat → Int32) (P : Nat → Nat → Value) (PH : aH) (a : Nat) (h32 : a < 4294967296) (ha : 2 ≤ a) (sz : Nat) : zM E l y_Mm_captured [.code y_Mm_captured c_Mm_captured 2 (some .int)] rm_Mm_captured [.ref (D.1 37), .int (nI a)] (HM D V P PH) sz (zRet (some (.int (nI 0))) (HM D (vset V 37 8 (nI 1)) P PH) sz) := by
  refine zM_of hE hl (by decide +kernel) [some (.ref (D.1 37)), some (.int (nI a))] ⟨rfl, rfl, Nat.le_of_ble_eq_true rfl⟩ ?_
  intro G C q htb
  refine Z_run C it_Mm_captured 2 (f2 := (2, [some (.ref (D.1 37)), some (.int (nI a))], [.int (nI a), .ref (D.1 37)])) rfl ?_
  refine Zr_callS C it_Mm_captured rfl p_Mm_isSide ml_Mm_91 [.int (nI a)] (ct_Mm_isSide_f C.ev C.l a (by omega) (by omega) (HM D V P PH) _) rfl rfl ⟨by decide, by decide, by decide, by decide⟩ (Nat.le_of_ble_eq_true rfl) rfl ?_
  show Z E G (HM D V P PH) sz 0 0 (5, [some (.ref (D.1 37)), some (.int (nI a))], [.int (nI 0), .ref (D.1 37)])
  refine Zr_callV C it_Mm_captured hD rfl p_Mm_asks ml_Mm_40 37 (by decide) rfl rfl [.int (nI 0)] (ct_Mm_asks_f C.ev C.l hD V P _ _) rfl rfl ⟨by decide, by decide, by decide, by decide⟩ (Nat.le_of_ble_eq_true rfl) rfl ?_
  show Z E G (HM D (vset V 37 8 (nI 1)) P PH) sz 0 0 (8, [some (.ref (D.1 37)), some (.int (nI a))], [.int (nI 0)])
  refine Z_br C it_Mm_captured rfl rfl (fun hc1 => ?_) (fun hc1 => absurd (by decide) hc1)
  refine Z_run C it_Mm_captured 1 (f2 := (24, [some (.ref (D.1 37)), some (.int (nI a))], [.int (nI 0)])) rfl ?_
  exact Z_iret C q.e it_Mm_captured rfl (zRet_iH rfl (by first | rfl | (simp only [vset_2]))) (by decide) (by decide)
set_option maxRecDepth 20000 in
theorem ct_Mm_worthByAccount {E : zE} (hE : zEv E) {l : Launch} (hl : l.stackTraces = false) {D : zD} (hD : zDok E D) (V : Nat → Nat → Int32) (P : Nat → Nat → Value) (PH : aH) (F : Nat → Nat) (hF : okF F) (hz : ∀ k, k < 36 → V 38 k = nI (mo (F k)))  (a : Nat) (ha : a < 2) (sz : Nat) : zM E l y_Mm_worthByAccount [.code y_Mm_worthByAccount c_Mm_worthByAccount 2 (some .int)] rm_Mm_worthByAccount [.ref (D.1 37), .int (nI a)] (HM D V P PH) sz (zRet (some (.int (V 38 (42 + a) - V 38 (45 - a) + V 38 (46 + a)))) (HM D (vset V 37 8 (nI 0)) P PH) sz) := by
  refine zM_of hE hl (by decide +kernel) [some (.ref (D.1 37)), some (.int (nI a))] ⟨rfl, rfl, Nat.le_of_ble_eq_true rfl⟩ ?_
  intro G C q htb
  refine Z_run C it_Mm_worthByAccount 2 (f2 := (2, [some (.ref (D.1 37)), some (.int (nI a))], [.int (nI a), .ref (D.1 37)])) rfl ?_
  refine Zr_callS C it_Mm_worthByAccount rfl p_Mm_isSide ml_Mm_91 [.int (nI a)] (ct_Mm_isSide_t C.ev C.l a (by omega) (HM D V P PH) _) rfl rfl ⟨by decide, by decide, by decide, by decide⟩ (Nat.le_of_ble_eq_true rfl) rfl ?_
  show Z E G (HM D V P PH) sz 0 0 (5, [some (.ref (D.1 37)), some (.int (nI a))], [.int (nI 1), .ref (D.1 37)])
  refine Zr_callV C it_Mm_worthByAccount hD rfl p_Mm_asks ml_Mm_40 37 (by decide) rfl rfl [.int (nI 1)] (ct_Mm_asks_t C.ev C.l hD V P _ _) rfl rfl ⟨by decide, by decide, by decide, by decide⟩ (Nat.le_of_ble_eq_true rfl) rfl ?_
  show Z E G (HM D (vset V 37 8 (nI 0)) P PH) sz 0 0 (8, [some (.ref (D.1 37)), some (.int (nI a))], [.int (nI 1)])
  refine Z_br C it_Mm_worthByAccount rfl rfl (fun hc1 => absurd hc1 (by decide)) (fun hc1 => ?_)
  refine Z_run C it_Mm_worthByAccount 1 (f2 := (12, [some (.ref (D.1 37)), some (.int (nI a))], [.ref (D.1 37)])) rfl ?_
  refine Zm_get C it_Mm_worthByAccount hD rfl 37 wi_Mm (by decide) rfl rfl (j := 0) (by decide) fl_Mm_7 (v := .ref (D.1 38)) rfl ?_
  refine Z_run C it_Mm_worthByAccount 3 (f2 := (19, [some (.ref (D.1 37)), some (.int (nI a))], [.int (nI 42 + nI a), .ref (D.1 38)])) rfl ?_
  rw [nI_add 42 a]
  refine Zm_ald C it_Mm_worthByAccount hD 38 10 rfl (by decide) rfl (by decide) (by decide) rfl (j := 42 + a) (by omega) (v := .int ((vset V 37 8 (nI 0)) 38 (42 + a))) rfl ?_
  refine Z_run C it_Mm_worthByAccount 1 (f2 := (21, [some (.ref (D.1 37)), some (.int (nI a))], [.ref (D.1 37), .int ((vset V 37 8 (nI 0)) 38 (42 + a))])) rfl ?_
  refine Zm_get C it_Mm_worthByAccount hD rfl 37 wi_Mm (by decide) rfl rfl (j := 0) (by decide) fl_Mm_7 (v := .ref (D.1 38)) rfl ?_
  refine Z_run C it_Mm_worthByAccount 3 (f2 := (28, [some (.ref (D.1 37)), some (.int (nI a))], [.int (nI 45 - nI a), .ref (D.1 38), .int ((vset V 37 8 (nI 0)) 38 (42 + a))])) rfl ?_
  have e1 : nI 45 - nI a = nI (45 - a) := nI_sub (by omega)
  rw [e1]
  refine Zm_ald C it_Mm_worthByAccount hD 38 10 rfl (by decide) rfl (by decide) (by decide) rfl (j := 45 - a) (by omega) (v := .int ((vset V 37 8 (nI 0)) 38 (45 - a))) rfl ?_
  refine Z_run C it_Mm_worthByAccount 2 (f2 := (31, [some (.ref (D.1 37)), some (.int (nI a))], [.ref (D.1 37), .int ((vset V 37 8 (nI 0)) 38 (42 + a) - (vset V 37 8 (nI 0)) 38 (45 - a))])) rfl ?_
  refine Zm_get C it_Mm_worthByAccount hD rfl 37 wi_Mm (by decide) rfl rfl (j := 0) (by decide) fl_Mm_7 (v := .ref (D.1 38)) rfl ?_
  refine Z_run C it_Mm_worthByAccount 3 (f2 := (38, [some (.ref (D.1 37)), some (.int (nI a))], [.int (nI 46 + nI a), .ref (D.1 38), .int ((vset V 37 8 (nI 0)) 38 (42 + a) - (vset V 37 8 (nI 0)) 38 (45 - a))])) rfl ?_
  rw [nI_add 46 a]
  refine Zm_ald C it_Mm_worthByAccount hD 38 10 rfl (by decide) rfl (by decide) (by decide) rfl (j := 46 + a) (by omega) (v := .int ((vset V 37 8 (nI 0)) 38 (46 + a))) rfl ?_
  refine Z_run C it_Mm_worthByAccount 2 (f2 := (44, [some (.ref (D.1 37)), some (.int (nI a))], [.int (((vset V 37 8 (nI 0)) 38 (42 + a) - (vset V 37 8 (nI 0)) 38 (45 - a)) + (vset V 37 8 (nI 0)) 38 (46 + a))])) rfl ?_
  exact Z_iret C q.e it_Mm_worthByAccount rfl (zRet_iH rfl (by first | rfl | (simp only [vset_2]))) (by decide) (by decide)
set_option maxRecDepth 20000 in
theorem ct_Mm_worthByAccount_x1 {E : zE} (hE : zEv E) {l : Launch} (hl : l.stackTraces = false) {D : zD} (hD : zDok E D) (V : Nat → Nat → Int32) (P : Nat → Nat → Value) (PH : aH) (a : Nat) (h32 : a < 4294967296) (ha : 2 ≤ a) (sz : Nat) : zM E l y_Mm_worthByAccount [.code y_Mm_worthByAccount c_Mm_worthByAccount 2 (some .int)] rm_Mm_worthByAccount [.ref (D.1 37), .int (nI a)] (HM D V P PH) sz (zRet (some (.int (nI 0))) (HM D (vset V 37 8 (nI 1)) P PH) sz) := by
  refine zM_of hE hl (by decide +kernel) [some (.ref (D.1 37)), some (.int (nI a))] ⟨rfl, rfl, Nat.le_of_ble_eq_true rfl⟩ ?_
  intro G C q htb
  refine Z_run C it_Mm_worthByAccount 2 (f2 := (2, [some (.ref (D.1 37)), some (.int (nI a))], [.int (nI a), .ref (D.1 37)])) rfl ?_
  refine Zr_callS C it_Mm_worthByAccount rfl p_Mm_isSide ml_Mm_91 [.int (nI a)] (ct_Mm_isSide_f C.ev C.l a (by omega) (by omega) (HM D V P PH) _) rfl rfl ⟨by decide, by decide, by decide, by decide⟩ (Nat.le_of_ble_eq_true rfl) rfl ?_
  show Z E G (HM D V P PH) sz 0 0 (5, [some (.ref (D.1 37)), some (.int (nI a))], [.int (nI 0), .ref (D.1 37)])
  refine Zr_callV C it_Mm_worthByAccount hD rfl p_Mm_asks ml_Mm_40 37 (by decide) rfl rfl [.int (nI 0)] (ct_Mm_asks_f C.ev C.l hD V P _ _) rfl rfl ⟨by decide, by decide, by decide, by decide⟩ (Nat.le_of_ble_eq_true rfl) rfl ?_
  show Z E G (HM D (vset V 37 8 (nI 1)) P PH) sz 0 0 (8, [some (.ref (D.1 37)), some (.int (nI a))], [.int (nI 0)])
  refine Z_br C it_Mm_worthByAccount rfl rfl (fun hc1 => ?_) (fun hc1 => absurd (by decide) hc1)
  refine Z_run C it_Mm_worthByAccount 1 (f2 := (44, [some (.ref (D.1 37)), some (.int (nI a))], [.int (nI 0)])) rfl ?_
  exact Z_iret C q.e it_Mm_worthByAccount rfl (zRet_iH rfl (by first | rfl | (simp only [vset_2]))) (by decide) (by decide)
