/-! ===== the model: start, pieces put and taken away, move ===== -/
theorem pof_ne {a c : Nat} {ld : Bool} (hc : 1 ≤ c) : pof a c ld ≠ 0 := by
  unfold pof
  omega
theorem mo_pof {a c : Nat} {ld : Bool} (hc : 1 ≤ c) : mo (pof a c ld) = 1 + c + 32 * (if ld then 1 else 0) + 64 * a := by
  unfold mo
  rw [if_neg (pof_ne hc)]
  unfold pof
  cases ld
  · show c + 0 + 64 * a + 1 = 1 + c + 32 * 0 + 64 * a
    omega
  · show c + 32 + 64 * a + 1 = 1 + c + 32 * 1 + 64 * a
    omega
set_option maxRecDepth 20000 in
theorem ct_Mm_start {E : zE} (hE : zEv E) {l : Launch} (hl : l.stackTraces = false) {D : zD} (hD : zDok E D) (V : Nat → Nat → Int32) (P : Nat → Nat → Value) (PH : aH) (F : Nat → Nat) (hF : okF F) (hz : ∀ k, k < 36 → V 38 k = nI (mo (F k))) (n : Nat) (hp : V 37 2 = nI n) (hn5 : n ≤ 5) (hst : V 38 36 = nI 0) (k0 : Nat) (hl0 : lls (fun k => hld F k 0 && ldr (F k)) 36 = some k0) (k1 : Nat) (hl1 : lls (fun k => hld F k 1 && ldr (F k)) 36 = some k1) (sz : Nat) : zM E l y_Mm_start [.code y_Mm_start c_Mm_start 2 (some .int)] rm_Mm_start [.ref (D.1 37)] (HM D V P PH) sz (zRet (some (.int (nI (mvo F 0 36)))) (HM D (vset (vset (recM (vset V 37 8 (nI 0)) n) 38 36 (nI 1)) 38 37 (bI (mvo F 0 36 == 0))) P PH) sz) := by
  refine zM_of hE hl (by decide +kernel) [some (.ref (D.1 37)), none] ⟨rfl, rfl, Nat.le_of_ble_eq_true rfl⟩ ?_
  intro G C q htb
  have hmv9 := mvo_le (F := F) (s := 0) (n := 36)
  refine Z_run C it_Mm_start 2 (f2 := (2, [some (.ref (D.1 37)), none], [.ref (D.1 37), .ref (D.1 37)])) rfl ?_
  refine Zm_get C it_Mm_start hD rfl 37 wi_Mm (by decide) rfl rfl (j := 0) (by decide) fl_Mm_7 (v := .ref (D.1 38)) rfl ?_
  refine Z_run C it_Mm_start 1 (f2 := (7, [some (.ref (D.1 37)), none], [.int (nI 36), .ref (D.1 38), .ref (D.1 37)])) rfl ?_
  refine Zm_ald C it_Mm_start hD 38 10 rfl (by decide) rfl (by decide) (by decide) rfl (j := 36) (by omega) (v := .int (nI 0)) (congrArg Value.int hst) ?_
  refine Z_br C it_Mm_start rfl rfl (fun hc1 => absurd hc1 (by decide)) (fun hc1 => ?_)
  refine Z_run C it_Mm_start 2 (f2 := (13, [some (.ref (D.1 37)), none], [.int (nI 0), .ref (D.1 37), .ref (D.1 37)])) rfl ?_
  refine Zr_callV C it_Mm_start hD rfl p_Mm_leader ml_Mm_108 37 (by decide) rfl rfl [.int (nI 0)] (ct_Mm_leader_z C.ev C.l hD V P _ F hF hz 0 (by first | assumption | omega) _) rfl rfl ⟨by decide, by decide, by decide, by decide⟩ (Nat.le_of_ble_eq_true rfl) rfl ?_
  show Z E G (HM D V P PH) sz 0 0 (16, [some (.ref (D.1 37)), none], [.int (oI (lls (fun k => hld F k 0 && ldr (F k)) 36)), .ref (D.1 37)])
  refine Z_run C it_Mm_start 1 (f2 := (17, [some (.ref (D.1 37)), none], [.int ((-1)), .int (oI (lls (fun k => hld F k 0 && ldr (F k)) 36)), .ref (D.1 37)])) rfl ?_
  refine Z_br C it_Mm_start rfl rfl (fun hc2 => ?_) (fun hc2 => ?_)
  · exact absurd hc2 (by rw [hl0]; exact nI_m1 (by have := lls_lt hl0; omega))
  · skip
    refine Z_run C it_Mm_start 2 (f2 := (22, [some (.ref (D.1 37)), none], [.int (nI 1), .ref (D.1 37), .ref (D.1 37)])) rfl ?_
    refine Zr_callV C it_Mm_start hD rfl p_Mm_leader ml_Mm_108 37 (by decide) rfl rfl [.int (nI 1)] (ct_Mm_leader_z C.ev C.l hD V P _ F hF hz 1 (by first | assumption | omega) _) rfl rfl ⟨by decide, by decide, by decide, by decide⟩ (Nat.le_of_ble_eq_true rfl) rfl ?_
    show Z E G (HM D V P PH) sz 0 0 (25, [some (.ref (D.1 37)), none], [.int (oI (lls (fun k => hld F k 1 && ldr (F k)) 36)), .ref (D.1 37)])
    refine Z_run C it_Mm_start 1 (f2 := (26, [some (.ref (D.1 37)), none], [.int ((-1)), .int (oI (lls (fun k => hld F k 1 && ldr (F k)) 36)), .ref (D.1 37)])) rfl ?_
    refine Z_br C it_Mm_start rfl rfl (fun hc3 => ?_) (fun hc3 => ?_)
    · exact absurd hc3 (by rw [hl1]; exact nI_m1 (by have := lls_lt hl1; omega))
    · skip
      refine Z_run C it_Mm_start 2 (f2 := (34, [some (.ref (D.1 37)), none], [.int (nI 1), .ref (D.1 37)])) rfl ?_
      refine Zr_callV C it_Mm_start hD rfl p_Mm_asks ml_Mm_40 37 (by decide) rfl rfl [.int (nI 1)] (ct_Mm_asks_t C.ev C.l hD V P _ _) rfl rfl ⟨by decide, by decide, by decide, by decide⟩ (Nat.le_of_ble_eq_true rfl) rfl ?_
      show Z E G (HM D (vset V 37 8 (nI 0)) P PH) sz 0 0 (37, [some (.ref (D.1 37)), none], [.int (nI 1)])
      refine Z_br C it_Mm_start rfl rfl (fun hc4 => ?_) (fun hc4 => absurd (by decide) hc4)
      refine Z_run C it_Mm_start 1 (f2 := (43, [some (.ref (D.1 37)), none], [.ref (D.1 37)])) rfl ?_
      refine Zr_callV C it_Mm_start hD rfl p_Mm_record ml_Mm_85 37 (by decide) rfl rfl [] (ct_Mm_record C.ev C.l hD (vset V 37 8 (nI 0)) P _ n hp hn5 _) rfl rfl ⟨by decide, by decide, by decide, by decide⟩ (Nat.le_of_ble_eq_true rfl) rfl ?_
      show Z E G (HM D (recM (vset V 37 8 (nI 0)) n) P PH) sz 0 0 (46, [some (.ref (D.1 37)), none], [])
      have hzr : ∀ k, k < 36 → (recM (vset V 37 8 (nI 0)) n) 38 k = nI (mo (F k)) := fun k hk => by rw [recM_o (by decide) (by decide)]; exact hz k hk
      refine Z_run C it_Mm_start 1 (f2 := (47, [some (.ref (D.1 37)), none], [.ref (D.1 37)])) rfl ?_
      refine Zm_get C it_Mm_start hD rfl 37 wi_Mm (by decide) rfl rfl (j := 0) (by decide) fl_Mm_7 (v := .ref (D.1 38)) rfl ?_
      refine Z_run C it_Mm_start 2 (f2 := (53, [some (.ref (D.1 37)), none], [.int (nI 1), .int (nI 36), .ref (D.1 38)])) rfl ?_
      refine Zm_ast C it_Mm_start hD 38 10 rfl (by first | decide | exact isB_k hb | omega) rfl (by decide) rfl (j := 36) (by omega) trivial rfl ?_
      have hzs : ∀ k, k < 36 → (vset (recM (vset V 37 8 (nI 0)) n) 38 36 (nI 1)) 38 k = nI (mo (F k)) := fun k hk => by rw [vrd_n (by omega)]; exact hzr k hk
      refine Z_run C it_Mm_start 2 (f2 := (56, [some (.ref (D.1 37)), none], [.int (nI 0), .ref (D.1 37)])) rfl ?_
      refine Zr_callV C it_Mm_start hD rfl p_Mm_movesOf ml_Mm_111 37 (by decide) rfl rfl [.int (nI 0)] (ct_Mm_movesOf_z C.ev C.l hD (vset (recM (vset V 37 8 (nI 0)) n) 38 36 (nI 1)) P _ F hF hzs 0 (by first | assumption | omega) _) rfl rfl ⟨by decide, by decide, by decide, by decide⟩ (Nat.le_of_ble_eq_true rfl) rfl ?_
      show Z E G (HM D (vset (recM (vset V 37 8 (nI 0)) n) 38 36 (nI 1)) P PH) sz 0 0 (59, [some (.ref (D.1 37)), none], [.int (nI (mvo F 0 36))])
      refine Z_run C it_Mm_start 2 (f2 := (61, [some (.ref (D.1 37)), some (.int (nI (mvo F 0 36)))], [.ref (D.1 37)])) rfl ?_
      refine Zm_get C it_Mm_start hD rfl 37 wi_Mm (by decide) rfl rfl (j := 0) (by decide) fl_Mm_7 (v := .ref (D.1 38)) rfl ?_
      refine Z_run C it_Mm_start 2 (f2 := (67, [some (.ref (D.1 37)), some (.int (nI (mvo F 0 36)))], [.int (nI (mvo F 0 36)), .int (nI 37), .ref (D.1 38)])) rfl ?_
      refine Z_br C it_Mm_start rfl rfl (fun hc5 => ?_) (fun hc5 => ?_)
      · have hM : ¬ mvo F 0 36 = 0 := fun z9 => hc5 ((nI_e0 (by omega)).mpr z9)
        refine Z_run C it_Mm_start 1 (f2 := (75, [some (.ref (D.1 37)), some (.int (nI (mvo F 0 36)))], [.int (nI 0), .int (nI 37), .ref (D.1 38)])) rfl ?_
        have z5 : (mvo F 0 36 == 0) = false := by simp [hM]
        have e5 : nI 0 = bI (mvo F 0 36 == 0) := by rw [z5]; rfl
        refine (congrArg (fun z9 => Z E G (HM D (vset (recM (vset V 37 8 (nI 0)) n) 38 36 (nI 1)) P PH) sz 0 0 (75, [some (.ref (D.1 37)), some (.int (nI (mvo F 0 36)))], [.int z9, .int (nI 37), .ref (D.1 38)])) e5).mpr ?_
        refine Zm_ast C it_Mm_start hD 38 10 rfl (by first | decide | exact isB_k hb | omega) rfl (by decide) rfl (j := 37) (by omega) trivial rfl ?_
        refine Z_run C it_Mm_start 1 (f2 := (77, [some (.ref (D.1 37)), some (.int (nI (mvo F 0 36)))], [.int (nI (mvo F 0 36))])) rfl ?_
        exact Z_iret C q.e it_Mm_start rfl (zRet_iH rfl rfl) (by decide) (by decide)
      · have hM : mvo F 0 36 = 0 := (nI_e0 (by omega)).mp (Classical.not_not.mp hc5)
        refine Z_run C it_Mm_start 2 (f2 := (75, [some (.ref (D.1 37)), some (.int (nI (mvo F 0 36)))], [.int (nI 1), .int (nI 37), .ref (D.1 38)])) rfl ?_
        have z5 : (mvo F 0 36 == 0) = true := by simp [hM]
        have e5 : nI 1 = bI (mvo F 0 36 == 0) := by rw [z5]; rfl
        refine (congrArg (fun z9 => Z E G (HM D (vset (recM (vset V 37 8 (nI 0)) n) 38 36 (nI 1)) P PH) sz 0 0 (75, [some (.ref (D.1 37)), some (.int (nI (mvo F 0 36)))], [.int z9, .int (nI 37), .ref (D.1 38)])) e5).mpr ?_
        refine Zm_ast C it_Mm_start hD 38 10 rfl (by first | decide | exact isB_k hb | omega) rfl (by decide) rfl (j := 37) (by omega) trivial rfl ?_
        refine Z_run C it_Mm_start 1 (f2 := (77, [some (.ref (D.1 37)), some (.int (nI (mvo F 0 36)))], [.int (nI (mvo F 0 36))])) rfl ?_
        exact Z_iret C q.e it_Mm_start rfl (zRet_iH rfl rfl) (by decide) (by decide)
set_option maxRecDepth 20000 in
theorem ct_Mm_start_x1 {E : zE} (hE : zEv E) {l : Launch} (hl : l.stackTraces = false) {D : zD} (hD : zDok E D) (V : Nat → Nat → Int32) (P : Nat → Nat → Value) (PH : aH) (F : Nat → Nat) (hF : okF F) (hz : ∀ k, k < 36 → V 38 k = nI (mo (F k))) (hst : V 38 36 = nI 1) (sz : Nat) : zM E l y_Mm_start [.code y_Mm_start c_Mm_start 2 (some .int)] rm_Mm_start [.ref (D.1 37)] (HM D V P PH) sz (zRet (some (.int (nI 0))) (HM D (vset V 37 8 (nI 1)) P PH) sz) := by
  refine zM_of hE hl (by decide +kernel) [some (.ref (D.1 37)), none] ⟨rfl, rfl, Nat.le_of_ble_eq_true rfl⟩ ?_
  intro G C q htb
  refine Z_run C it_Mm_start 2 (f2 := (2, [some (.ref (D.1 37)), none], [.ref (D.1 37), .ref (D.1 37)])) rfl ?_
  refine Zm_get C it_Mm_start hD rfl 37 wi_Mm (by decide) rfl rfl (j := 0) (by decide) fl_Mm_7 (v := .ref (D.1 38)) rfl ?_
  refine Z_run C it_Mm_start 1 (f2 := (7, [some (.ref (D.1 37)), none], [.int (nI 36), .ref (D.1 38), .ref (D.1 37)])) rfl ?_
  refine Zm_ald C it_Mm_start hD 38 10 rfl (by decide) rfl (by decide) (by decide) rfl (j := 36) (by omega) (v := .int (nI 1)) (congrArg Value.int hst) ?_
  refine Z_br C it_Mm_start rfl rfl (fun hc1 => ?_) (fun hc1 => absurd (by decide) hc1)
  refine Z_run C it_Mm_start 1 (f2 := (34, [some (.ref (D.1 37)), none], [.int (nI 0), .ref (D.1 37)])) rfl ?_
  refine Zr_callV C it_Mm_start hD rfl p_Mm_asks ml_Mm_40 37 (by decide) rfl rfl [.int (nI 0)] (ct_Mm_asks_f C.ev C.l hD V P _ _) rfl rfl ⟨by decide, by decide, by decide, by decide⟩ (Nat.le_of_ble_eq_true rfl) rfl ?_
  show Z E G (HM D (vset V 37 8 (nI 1)) P PH) sz 0 0 (37, [some (.ref (D.1 37)), none], [.int (nI 0)])
  refine Z_br C it_Mm_start rfl rfl (fun hc2 => absurd hc2 (by decide)) (fun hc2 => ?_)
  refine Z_run C it_Mm_start 1 (f2 := (41, [some (.ref (D.1 37)), none], [.int (nI 0)])) rfl ?_
  exact Z_iret C q.e it_Mm_start rfl (zRet_iH rfl (by first | rfl | (simp only [vset_2]))) (by decide) (by decide)
set_option maxRecDepth 20000 in
theorem ct_Mm_start_x2 {E : zE} (hE : zEv E) {l : Launch} (hl : l.stackTraces = false) {D : zD} (hD : zDok E D) (V : Nat → Nat → Int32) (P : Nat → Nat → Value) (PH : aH) (F : Nat → Nat) (hF : okF F) (hz : ∀ k, k < 36 → V 38 k = nI (mo (F k))) (hst : V 38 36 = nI 0) (hl0 : lls (fun k => hld F k 0 && ldr (F k)) 36 = none) (sz : Nat) : zM E l y_Mm_start [.code y_Mm_start c_Mm_start 2 (some .int)] rm_Mm_start [.ref (D.1 37)] (HM D V P PH) sz (zRet (some (.int (nI 0))) (HM D (vset V 37 8 (nI 1)) P PH) sz) := by
  refine zM_of hE hl (by decide +kernel) [some (.ref (D.1 37)), none] ⟨rfl, rfl, Nat.le_of_ble_eq_true rfl⟩ ?_
  intro G C q htb
  refine Z_run C it_Mm_start 2 (f2 := (2, [some (.ref (D.1 37)), none], [.ref (D.1 37), .ref (D.1 37)])) rfl ?_
  refine Zm_get C it_Mm_start hD rfl 37 wi_Mm (by decide) rfl rfl (j := 0) (by decide) fl_Mm_7 (v := .ref (D.1 38)) rfl ?_
  refine Z_run C it_Mm_start 1 (f2 := (7, [some (.ref (D.1 37)), none], [.int (nI 36), .ref (D.1 38), .ref (D.1 37)])) rfl ?_
  refine Zm_ald C it_Mm_start hD 38 10 rfl (by decide) rfl (by decide) (by decide) rfl (j := 36) (by omega) (v := .int (nI 0)) (congrArg Value.int hst) ?_
  refine Z_br C it_Mm_start rfl rfl (fun hc1 => absurd hc1 (by decide)) (fun hc1 => ?_)
  refine Z_run C it_Mm_start 2 (f2 := (13, [some (.ref (D.1 37)), none], [.int (nI 0), .ref (D.1 37), .ref (D.1 37)])) rfl ?_
  refine Zr_callV C it_Mm_start hD rfl p_Mm_leader ml_Mm_108 37 (by decide) rfl rfl [.int (nI 0)] (ct_Mm_leader_z C.ev C.l hD V P _ F hF hz 0 (by first | assumption | omega) _) rfl rfl ⟨by decide, by decide, by decide, by decide⟩ (Nat.le_of_ble_eq_true rfl) rfl ?_
  show Z E G (HM D V P PH) sz 0 0 (16, [some (.ref (D.1 37)), none], [.int (oI (lls (fun k => hld F k 0 && ldr (F k)) 36)), .ref (D.1 37)])
  refine Z_run C it_Mm_start 1 (f2 := (17, [some (.ref (D.1 37)), none], [.int ((-1)), .int (oI (lls (fun k => hld F k 0 && ldr (F k)) 36)), .ref (D.1 37)])) rfl ?_
  refine Z_br C it_Mm_start rfl rfl (fun hc2 => ?_) (fun hc2 => ?_)
  · skip
    refine Z_run C it_Mm_start 1 (f2 := (34, [some (.ref (D.1 37)), none], [.int (nI 0), .ref (D.1 37)])) rfl ?_
    refine Zr_callV C it_Mm_start hD rfl p_Mm_asks ml_Mm_40 37 (by decide) rfl rfl [.int (nI 0)] (ct_Mm_asks_f C.ev C.l hD V P _ _) rfl rfl ⟨by decide, by decide, by decide, by decide⟩ (Nat.le_of_ble_eq_true rfl) rfl ?_
    show Z E G (HM D (vset V 37 8 (nI 1)) P PH) sz 0 0 (37, [some (.ref (D.1 37)), none], [.int (nI 0)])
    refine Z_br C it_Mm_start rfl rfl (fun hc3 => absurd hc3 (by decide)) (fun hc3 => ?_)
    refine Z_run C it_Mm_start 1 (f2 := (41, [some (.ref (D.1 37)), none], [.int (nI 0)])) rfl ?_
    exact Z_iret C q.e it_Mm_start rfl (zRet_iH rfl (by first | rfl | (simp only [vset_2]))) (by decide) (by decide)
  · exact absurd (show oI (lls (fun k => hld F k 0 && ldr (F k)) 36) = -1 by rw [hl0]; rfl) hc2
set_option maxRecDepth 20000 in
theorem ct_Mm_start_x3 {E : zE} (hE : zEv E) {l : Launch} (hl : l.stackTraces = false) {D : zD} (hD : zDok E D) (V : Nat → Nat → Int32) (P : Nat → Nat → Value) (PH : aH) (F : Nat → Nat) (hF : okF F) (hz : ∀ k, k < 36 → V 38 k = nI (mo (F k))) (hst : V 38 36 = nI 0) (k0 : Nat) (hl0 : lls (fun k => hld F k 0 && ldr (F k)) 36 = some k0) (hl1 : lls (fun k => hld F k 1 && ldr (F k)) 36 = none) (sz : Nat) : zM E l y_Mm_start [.code y_Mm_start c_Mm_start 2 (some .int)] rm_Mm_start [.ref (D.1 37)] (HM D V P PH) sz (zRet (some (.int (nI 0))) (HM D (vset V 37 8 (nI 1)) P PH) sz) := by
  refine zM_of hE hl (by decide +kernel) [some (.ref (D.1 37)), none] ⟨rfl, rfl, Nat.le_of_ble_eq_true rfl⟩ ?_
  intro G C q htb
  refine Z_run C it_Mm_start 2 (f2 := (2, [some (.ref (D.1 37)), none], [.ref (D.1 37), .ref (D.1 37)])) rfl ?_
  refine Zm_get C it_Mm_start hD rfl 37 wi_Mm (by decide) rfl rfl (j := 0) (by decide) fl_Mm_7 (v := .ref (D.1 38)) rfl ?_
  refine Z_run C it_Mm_start 1 (f2 := (7, [some (.ref (D.1 37)), none], [.int (nI 36), .ref (D.1 38), .ref (D.1 37)])) rfl ?_
  refine Zm_ald C it_Mm_start hD 38 10 rfl (by decide) rfl (by decide) (by decide) rfl (j := 36) (by omega) (v := .int (nI 0)) (congrArg Value.int hst) ?_
  refine Z_br C it_Mm_start rfl rfl (fun hc1 => absurd hc1 (by decide)) (fun hc1 => ?_)
  refine Z_run C it_Mm_start 2 (f2 := (13, [some (.ref (D.1 37)), none], [.int (nI 0), .ref (D.1 37), .ref (D.1 37)])) rfl ?_
  refine Zr_callV C it_Mm_start hD rfl p_Mm_leader ml_Mm_108 37 (by decide) rfl rfl [.int (nI 0)] (ct_Mm_leader_z C.ev C.l hD V P _ F hF hz 0 (by first | assumption | omega) _) rfl rfl ⟨by decide, by decide, by decide, by decide⟩ (Nat.le_of_ble_eq_true rfl) rfl ?_
  show Z E G (HM D V P PH) sz 0 0 (16, [some (.ref (D.1 37)), none], [.int (oI (lls (fun k => hld F k 0 && ldr (F k)) 36)), .ref (D.1 37)])
  refine Z_run C it_Mm_start 1 (f2 := (17, [some (.ref (D.1 37)), none], [.int ((-1)), .int (oI (lls (fun k => hld F k 0 && ldr (F k)) 36)), .ref (D.1 37)])) rfl ?_
  refine Z_br C it_Mm_start rfl rfl (fun hc2 => ?_) (fun hc2 => ?_)
  · exact absurd hc2 (by rw [hl0]; exact nI_m1 (by have := lls_lt hl0; omega))
  · skip
    refine Z_run C it_Mm_start 2 (f2 := (22, [some (.ref (D.1 37)), none], [.int (nI 1), .ref (D.1 37), .ref (D.1 37)])) rfl ?_
    refine Zr_callV C it_Mm_start hD rfl p_Mm_leader ml_Mm_108 37 (by decide) rfl rfl [.int (nI 1)] (ct_Mm_leader_z C.ev C.l hD V P _ F hF hz 1 (by first | assumption | omega) _) rfl rfl ⟨by decide, by decide, by decide, by decide⟩ (Nat.le_of_ble_eq_true rfl) rfl ?_
    show Z E G (HM D V P PH) sz 0 0 (25, [some (.ref (D.1 37)), none], [.int (oI (lls (fun k => hld F k 1 && ldr (F k)) 36)), .ref (D.1 37)])
    refine Z_run C it_Mm_start 1 (f2 := (26, [some (.ref (D.1 37)), none], [.int ((-1)), .int (oI (lls (fun k => hld F k 1 && ldr (F k)) 36)), .ref (D.1 37)])) rfl ?_
    refine Z_br C it_Mm_start rfl rfl (fun hc3 => ?_) (fun hc3 => ?_)
    · skip
      refine Z_run C it_Mm_start 1 (f2 := (34, [some (.ref (D.1 37)), none], [.int (nI 0), .ref (D.1 37)])) rfl ?_
      refine Zr_callV C it_Mm_start hD rfl p_Mm_asks ml_Mm_40 37 (by decide) rfl rfl [.int (nI 0)] (ct_Mm_asks_f C.ev C.l hD V P _ _) rfl rfl ⟨by decide, by decide, by decide, by decide⟩ (Nat.le_of_ble_eq_true rfl) rfl ?_
      show Z E G (HM D (vset V 37 8 (nI 1)) P PH) sz 0 0 (37, [some (.ref (D.1 37)), none], [.int (nI 0)])
      refine Z_br C it_Mm_start rfl rfl (fun hc4 => absurd hc4 (by decide)) (fun hc4 => ?_)
      refine Z_run C it_Mm_start 1 (f2 := (41, [some (.ref (D.1 37)), none], [.int (nI 0)])) rfl ?_
      exact Z_iret C q.e it_Mm_start rfl (zRet_iH rfl (by first | rfl | (simp only [vset_2]))) (by decide) (by decide)
    · exact absurd (show oI (lls (fun k => hld F k 1 && ldr (F k)) 36) = -1 by rw [hl1]; rfl) hc3
set_option maxRecDepth 20000 in
theorem ct_Mm_puts_0 {E : zE} (hE : zEv E) {l : Launch} (hl : l.stackTraces = false) {D : zD} (hD : zDok E D) (V : Nat → Nat → Int32) (P : Nat → Nat → Value) (PH : aH) (F : Nat → Nat) (hF : okF F) (hz : ∀ k, k < 36 → V 38 k = nI (mo (F k))) (n : Nat) (hp : V 37 2 = nI n) (hn5 : n ≤ 5) (a : Nat) (ha : a < 2) (b : Nat) (hb : b < 36) (c : Nat) (hc : c < 32) (hc0 : 1 ≤ c) (sz : Nat) : zM E l y_Mm_puts [.code y_Mm_puts c_Mm_puts 5 (some .int)] rm_Mm_puts [.ref (D.1 37), .int (nI a), .int (nI b), .int (nI c), .int (nI 0)] (HM D V P PH) sz (zRet (some (.int (nI (cnt (fun k => hld (plF F b (pof a c false)) k a) 36)))) (HM D (vset (vset (recM V n) 38 b (nI (mo (pof a c false)))) 38 (42 + a) ((vset (recM V n) 38 b (nI (mo (pof a c false)))) 38 (42 + a) + nI (wr (pof a c false)))) P PH) sz) := by
  refine zM_of hE hl (by decide +kernel) [some (.ref (D.1 37)), some (.int (nI a)), some (.int (nI b)), some (.int (nI c)), some (.int (nI 0))] ⟨rfl, rfl, Nat.le_of_ble_eq_true rfl⟩ ?_
  intro G C q htb
  have hpf : (pof a c false) < 128 := pof_lt ha hc
  refine Z_run C it_Mm_puts 1 (f2 := (1, [some (.ref (D.1 37)), some (.int (nI a)), some (.int (nI b)), some (.int (nI c)), some (.int (nI 0))], [.ref (D.1 37)])) rfl ?_
  refine Zr_callV C it_Mm_puts hD rfl p_Mm_record ml_Mm_85 37 (by decide) rfl rfl [] (ct_Mm_record C.ev C.l hD V P _ n hp hn5 _) rfl rfl ⟨by decide, by decide, by decide, by decide⟩ (Nat.le_of_ble_eq_true rfl) rfl ?_
  show Z E G (HM D (recM V n) P PH) sz 0 0 (4, [some (.ref (D.1 37)), some (.int (nI a)), some (.int (nI b)), some (.int (nI c)), some (.int (nI 0))], [])
  have hzr : ∀ k, k < 36 → (recM V n) 38 k = nI (mo (F k)) := fun k hk => by rw [recM_o (by decide) (by decide)]; exact hz k hk
  refine Z_run C it_Mm_puts 1 (f2 := (5, [some (.ref (D.1 37)), some (.int (nI a)), some (.int (nI b)), some (.int (nI c)), some (.int (nI 0))], [.ref (D.1 37)])) rfl ?_
  refine Zm_get C it_Mm_puts hD rfl 37 wi_Mm (by decide) rfl rfl (j := 0) (by decide) fl_Mm_7 (v := .ref (D.1 38)) rfl ?_
  refine Z_run C it_Mm_puts 4 (f2 := (12, [some (.ref (D.1 37)), some (.int (nI a)), some (.int (nI b)), some (.int (nI c)), some (.int (nI 0))], [.int (nI 1 + nI c), .int (nI b), .ref (D.1 38)])) rfl ?_
  rw [nI_add 1 c]
  refine Z_run C it_Mm_puts 3 (f2 := (17, [some (.ref (D.1 37)), some (.int (nI a)), some (.int (nI b)), some (.int (nI c)), some (.int (nI 0))], [.int (nI 32 * nI 0), .int (nI (1 + c)), .int (nI b), .ref (D.1 38)])) rfl ?_
  rw [nI_mul 32 0]
  refine Z_run C it_Mm_puts 1 (f2 := (18, [some (.ref (D.1 37)), some (.int (nI a)), some (.int (nI b)), some (.int (nI c)), some (.int (nI 0))], [.int (nI (1 + c) + nI (32 * 0)), .int (nI b), .ref (D.1 38)])) rfl ?_
  rw [nI_add (1 + c) (32 * 0)]
  refine Z_run C it_Mm_puts 3 (f2 := (22, [some (.ref (D.1 37)), some (.int (nI a)), some (.int (nI b)), some (.int (nI c)), some (.int (nI 0))], [.int (nI 64 * nI a), .int (nI (1 + c + 32 * 0)), .int (nI b), .ref (D.1 38)])) rfl ?_
  rw [nI_mul 64 a]
  refine Z_run C it_Mm_puts 1 (f2 := (23, [some (.ref (D.1 37)), some (.int (nI a)), some (.int (nI b)), some (.int (nI c)), some (.int (nI 0))], [.int (nI (1 + c + 32 * 0) + nI (64 * a)), .int (nI b), .ref (D.1 38)])) rfl ?_
  rw [nI_add (1 + c + 32 * 0) (64 * a)]
  have e1 : nI (1 + c + 32 * 0 + 64 * a) = nI (mo (pof a c false)) := congrArg nI (by rw [mo_pof hc0]; try rfl)
  rw [e1]
  refine Zm_ast C it_Mm_puts hD 38 10 rfl (by first | decide | exact isB_k hb | omega) rfl (by decide) rfl (j := b) (by omega) trivial rfl ?_
  have hz2 : ∀ k, k < 36 → (vset (recM V n) 38 b (nI (mo (pof a c false)))) 38 k = nI (mo (plF F b (pof a c false) k)) := fun k hk => by
    unfold plF
    by_cases h1 : k = b
    · rw [h1, vrd_s, if_pos rfl]
    · rw [vrd_n h1, if_neg h1]; exact hzr k hk
  have hF2 : okF (plF F b (pof a c false)) := okF_pl hF hpf
  have hpb : plF F b (pof a c false) b = (pof a c false) := if_pos rfl
  refine Z_run C it_Mm_puts 1 (f2 := (25, [some (.ref (D.1 37)), some (.int (nI a)), some (.int (nI b)), some (.int (nI c)), some (.int (nI 0))], [.ref (D.1 37)])) rfl ?_
  refine Zm_get C it_Mm_puts hD rfl 37 wi_Mm (by decide) rfl rfl (j := 0) (by decide) fl_Mm_7 (v := .ref (D.1 38)) rfl ?_
  refine Z_run C it_Mm_puts 3 (f2 := (32, [some (.ref (D.1 37)), some (.int (nI a)), some (.int (nI b)), some (.int (nI c)), some (.int (nI 0))], [.int (nI 42 + nI a), .ref (D.1 38)])) rfl ?_
  rw [nI_add 42 a]
  refine Z_run C it_Mm_puts 1 (f2 := (33, [some (.ref (D.1 37)), some (.int (nI a)), some (.int (nI b)), some (.int (nI c)), some (.int (nI 0))], [.int (nI (42 + a)), .ref (D.1 38), .int (nI (42 + a)), .ref (D.1 38)])) rfl ?_
  refine Zm_ald C it_Mm_puts hD 38 10 rfl (by decide) rfl (by decide) (by decide) rfl (j := 42 + a) (by omega) (v := .int ((vset (recM V n) 38 b (nI (mo (pof a c false)))) 38 (42 + a))) rfl ?_
  refine Z_run C it_Mm_puts 1 (f2 := (35, [some (.ref (D.1 37)), some (.int (nI a)), some (.int (nI b)), some (.int (nI c)), some (.int (nI 0))], [.ref (D.1 37), .int ((vset (recM V n) 38 b (nI (mo (pof a c false)))) 38 (42 + a)), .int (nI (42 + a)), .ref (D.1 38)])) rfl ?_
  refine Zm_get C it_Mm_puts hD rfl 37 wi_Mm (by decide) rfl rfl (j := 0) (by decide) fl_Mm_7 (v := .ref (D.1 38)) rfl ?_
  refine Z_run C it_Mm_puts 1 (f2 := (39, [some (.ref (D.1 37)), some (.int (nI a)), some (.int (nI b)), some (.int (nI c)), some (.int (nI 0))], [.int (nI b), .ref (D.1 38), .int ((vset (recM V n) 38 b (nI (mo (pof a c false)))) 38 (42 + a)), .int (nI (42 + a)), .ref (D.1 38)])) rfl ?_
  refine Zm_ald C it_Mm_puts hD 38 10 rfl (by decide) rfl (by decide) (by decide) rfl (j := b) (by omega) (v := .int (nI (mo ((plF F b (pof a c false)) b)))) (congrArg Value.int (hz2 b (by omega))) ?_
  have e2 : nI (mo ((plF F b (pof a c false)) b)) = nI (mo (pof a c false)) := by rw [hpb]
  rw [e2]
  refine Zr_callS C it_Mm_puts rfl p_Mm_worthOf ml_Mm_88 [.int (nI (mo (pof a c false)))] (ct_Mm_worthOf C.ev C.l (pof a c false) (by first | assumption | omega | exact hF _ (by omega)) (HM D (vset (recM V n) 38 b (nI (mo (pof a c false)))) P PH) _) rfl rfl ⟨by decide, by decide, by decide, by decide⟩ (Nat.le_of_ble_eq_true rfl) rfl ?_
  show Z E G (HM D (vset (recM V n) 38 b (nI (mo (pof a c false)))) P PH) sz 0 0 (43, [some (.ref (D.1 37)), some (.int (nI a)), some (.int (nI b)), some (.int (nI c)), some (.int (nI 0))], [.int (nI (wr (pof a c false))), .int ((vset (recM V n) 38 b (nI (mo (pof a c false)))) 38 (42 + a)), .int (nI (42 + a)), .ref (D.1 38)])
  refine Z_run C it_Mm_puts 1 (f2 := (44, [some (.ref (D.1 37)), some (.int (nI a)), some (.int (nI b)), some (.int (nI c)), some (.int (nI 0))], [.int ((vset (recM V n) 38 b (nI (mo (pof a c false)))) 38 (42 + a) + nI (wr (pof a c false))), .int (nI (42 + a)), .ref (D.1 38)])) rfl ?_
  refine Zm_ast C it_Mm_puts hD 38 10 rfl (by first | decide | exact isB_k hb | omega) rfl (by decide) rfl (j := 42 + a) (by omega) trivial rfl ?_
  have hz3 : ∀ k, k < 36 → (vset (vset (recM V n) 38 b (nI (mo (pof a c false)))) 38 (42 + a) ((vset (recM V n) 38 b (nI (mo (pof a c false)))) 38 (42 + a) + nI (wr (pof a c false)))) 38 k = nI (mo (plF F b (pof a c false) k)) := fun k hk => by rw [vrd_n (by omega)]; exact hz2 k hk
  refine Z_run C it_Mm_puts 2 (f2 := (47, [some (.ref (D.1 37)), some (.int (nI a)), some (.int (nI b)), some (.int (nI c)), some (.int (nI 0))], [.int (nI a), .ref (D.1 37)])) rfl ?_
  refine Zr_callV C it_Mm_puts hD rfl p_Mm_count ml_Mm_82 37 (by decide) rfl rfl [.int (nI a)] (ct_Mm_count_z C.ev C.l hD (vset (vset (recM V n) 38 b (nI (mo (pof a c false)))) 38 (42 + a) ((vset (recM V n) 38 b (nI (mo (pof a c false)))) 38 (42 + a) + nI (wr (pof a c false)))) P _ ((plF F b (pof a c false))) hF2 hz3 a (by first | assumption | omega) _) rfl rfl ⟨by decide, by decide, by decide, by decide⟩ (Nat.le_of_ble_eq_true rfl) rfl ?_
  show Z E G (HM D (vset (vset (recM V n) 38 b (nI (mo (pof a c false)))) 38 (42 + a) ((vset (recM V n) 38 b (nI (mo (pof a c false)))) 38 (42 + a) + nI (wr (pof a c false)))) P PH) sz 0 0 (50, [some (.ref (D.1 37)), some (.int (nI a)), some (.int (nI b)), some (.int (nI c)), some (.int (nI 0))], [.int (nI (cnt (fun k => hld (plF F b (pof a c false)) k a) 36))])
  exact Z_iret C q.e it_Mm_puts rfl (zRet_iH rfl rfl) (by decide) (by decide)
set_option maxRecDepth 20000 in
theorem ct_Mm_puts_1 {E : zE} (hE : zEv E) {l : Launch} (hl : l.stackTraces = false) {D : zD} (hD : zDok E D) (V : Nat → Nat → Int32) (P : Nat → Nat → Value) (PH : aH) (F : Nat → Nat) (hF : okF F) (hz : ∀ k, k < 36 → V 38 k = nI (mo (F k))) (n : Nat) (hp : V 37 2 = nI n) (hn5 : n ≤ 5) (a : Nat) (ha : a < 2) (b : Nat) (hb : b < 36) (c : Nat) (hc : c < 32) (hc0 : 1 ≤ c) (sz : Nat) : zM E l y_Mm_puts [.code y_Mm_puts c_Mm_puts 5 (some .int)] rm_Mm_puts [.ref (D.1 37), .int (nI a), .int (nI b), .int (nI c), .int (nI 1)] (HM D V P PH) sz (zRet (some (.int (nI (cnt (fun k => hld (plF F b (pof a c true)) k a) 36)))) (HM D (vset (vset (recM V n) 38 b (nI (mo (pof a c true)))) 38 (42 + a) ((vset (recM V n) 38 b (nI (mo (pof a c true)))) 38 (42 + a) + nI (wr (pof a c true)))) P PH) sz) := by
  refine zM_of hE hl (by decide +kernel) [some (.ref (D.1 37)), some (.int (nI a)), some (.int (nI b)), some (.int (nI c)), some (.int (nI 1))] ⟨rfl, rfl, Nat.le_of_ble_eq_true rfl⟩ ?_
  intro G C q htb
  have hpf : (pof a c true) < 128 := pof_lt ha hc
  refine Z_run C it_Mm_puts 1 (f2 := (1, [some (.ref (D.1 37)), some (.int (nI a)), some (.int (nI b)), some (.int (nI c)), some (.int (nI 1))], [.ref (D.1 37)])) rfl ?_
  refine Zr_callV C it_Mm_puts hD rfl p_Mm_record ml_Mm_85 37 (by decide) rfl rfl [] (ct_Mm_record C.ev C.l hD V P _ n hp hn5 _) rfl rfl ⟨by decide, by decide, by decide, by decide⟩ (Nat.le_of_ble_eq_true rfl) rfl ?_
  show Z E G (HM D (recM V n) P PH) sz 0 0 (4, [some (.ref (D.1 37)), some (.int (nI a)), some (.int (nI b)), some (.int (nI c)), some (.int (nI 1))], [])
  have hzr : ∀ k, k < 36 → (recM V n) 38 k = nI (mo (F k)) := fun k hk => by rw [recM_o (by decide) (by decide)]; exact hz k hk
  refine Z_run C it_Mm_puts 1 (f2 := (5, [some (.ref (D.1 37)), some (.int (nI a)), some (.int (nI b)), some (.int (nI c)), some (.int (nI 1))], [.ref (D.1 37)])) rfl ?_
  refine Zm_get C it_Mm_puts hD rfl 37 wi_Mm (by decide) rfl rfl (j := 0) (by decide) fl_Mm_7 (v := .ref (D.1 38)) rfl ?_
  refine Z_run C it_Mm_puts 4 (f2 := (12, [some (.ref (D.1 37)), some (.int (nI a)), some (.int (nI b)), some (.int (nI c)), some (.int (nI 1))], [.int (nI 1 + nI c), .int (nI b), .ref (D.1 38)])) rfl ?_
  rw [nI_add 1 c]
  refine Z_run C it_Mm_puts 3 (f2 := (17, [some (.ref (D.1 37)), some (.int (nI a)), some (.int (nI b)), some (.int (nI c)), some (.int (nI 1))], [.int (nI 32 * nI 1), .int (nI (1 + c)), .int (nI b), .ref (D.1 38)])) rfl ?_
  rw [nI_mul 32 1]
  refine Z_run C it_Mm_puts 1 (f2 := (18, [some (.ref (D.1 37)), some (.int (nI a)), some (.int (nI b)), some (.int (nI c)), some (.int (nI 1))], [.int (nI (1 + c) + nI (32 * 1)), .int (nI b), .ref (D.1 38)])) rfl ?_
  rw [nI_add (1 + c) (32 * 1)]
  refine Z_run C it_Mm_puts 3 (f2 := (22, [some (.ref (D.1 37)), some (.int (nI a)), some (.int (nI b)), some (.int (nI c)), some (.int (nI 1))], [.int (nI 64 * nI a), .int (nI (1 + c + 32 * 1)), .int (nI b), .ref (D.1 38)])) rfl ?_
  rw [nI_mul 64 a]
  refine Z_run C it_Mm_puts 1 (f2 := (23, [some (.ref (D.1 37)), some (.int (nI a)), some (.int (nI b)), some (.int (nI c)), some (.int (nI 1))], [.int (nI (1 + c + 32 * 1) + nI (64 * a)), .int (nI b), .ref (D.1 38)])) rfl ?_
  rw [nI_add (1 + c + 32 * 1) (64 * a)]
  have e1 : nI (1 + c + 32 * 1 + 64 * a) = nI (mo (pof a c true)) := congrArg nI (by rw [mo_pof hc0]; try rfl)
  rw [e1]
  refine Zm_ast C it_Mm_puts hD 38 10 rfl (by first | decide | exact isB_k hb | omega) rfl (by decide) rfl (j := b) (by omega) trivial rfl ?_
  have hz2 : ∀ k, k < 36 → (vset (recM V n) 38 b (nI (mo (pof a c true)))) 38 k = nI (mo (plF F b (pof a c true) k)) := fun k hk => by
    unfold plF
    by_cases h1 : k = b
    · rw [h1, vrd_s, if_pos rfl]
    · rw [vrd_n h1, if_neg h1]; exact hzr k hk
  have hF2 : okF (plF F b (pof a c true)) := okF_pl hF hpf
  have hpb : plF F b (pof a c true) b = (pof a c true) := if_pos rfl
  refine Z_run C it_Mm_puts 1 (f2 := (25, [some (.ref (D.1 37)), some (.int (nI a)), some (.int (nI b)), some (.int (nI c)), some (.int (nI 1))], [.ref (D.1 37)])) rfl ?_
  refine Zm_get C it_Mm_puts hD rfl 37 wi_Mm (by decide) rfl rfl (j := 0) (by decide) fl_Mm_7 (v := .ref (D.1 38)) rfl ?_
  refine Z_run C it_Mm_puts 3 (f2 := (32, [some (.ref (D.1 37)), some (.int (nI a)), some (.int (nI b)), some (.int (nI c)), some (.int (nI 1))], [.int (nI 42 + nI a), .ref (D.1 38)])) rfl ?_
  rw [nI_add 42 a]
  refine Z_run C it_Mm_puts 1 (f2 := (33, [some (.ref (D.1 37)), some (.int (nI a)), some (.int (nI b)), some (.int (nI c)), some (.int (nI 1))], [.int (nI (42 + a)), .ref (D.1 38), .int (nI (42 + a)), .ref (D.1 38)])) rfl ?_
  refine Zm_ald C it_Mm_puts hD 38 10 rfl (by decide) rfl (by decide) (by decide) rfl (j := 42 + a) (by omega) (v := .int ((vset (recM V n) 38 b (nI (mo (pof a c true)))) 38 (42 + a))) rfl ?_
  refine Z_run C it_Mm_puts 1 (f2 := (35, [some (.ref (D.1 37)), some (.int (nI a)), some (.int (nI b)), some (.int (nI c)), some (.int (nI 1))], [.ref (D.1 37), .int ((vset (recM V n) 38 b (nI (mo (pof a c true)))) 38 (42 + a)), .int (nI (42 + a)), .ref (D.1 38)])) rfl ?_
  refine Zm_get C it_Mm_puts hD rfl 37 wi_Mm (by decide) rfl rfl (j := 0) (by decide) fl_Mm_7 (v := .ref (D.1 38)) rfl ?_
  refine Z_run C it_Mm_puts 1 (f2 := (39, [some (.ref (D.1 37)), some (.int (nI a)), some (.int (nI b)), some (.int (nI c)), some (.int (nI 1))], [.int (nI b), .ref (D.1 38), .int ((vset (recM V n) 38 b (nI (mo (pof a c true)))) 38 (42 + a)), .int (nI (42 + a)), .ref (D.1 38)])) rfl ?_
  refine Zm_ald C it_Mm_puts hD 38 10 rfl (by decide) rfl (by decide) (by decide) rfl (j := b) (by omega) (v := .int (nI (mo ((plF F b (pof a c true)) b)))) (congrArg Value.int (hz2 b (by omega))) ?_
  have e2 : nI (mo ((plF F b (pof a c true)) b)) = nI (mo (pof a c true)) := by rw [hpb]
  rw [e2]
  refine Zr_callS C it_Mm_puts rfl p_Mm_worthOf ml_Mm_88 [.int (nI (mo (pof a c true)))] (ct_Mm_worthOf C.ev C.l (pof a c true) (by first | assumption | omega | exact hF _ (by omega)) (HM D (vset (recM V n) 38 b (nI (mo (pof a c true)))) P PH) _) rfl rfl ⟨by decide, by decide, by decide, by decide⟩ (Nat.le_of_ble_eq_true rfl) rfl ?_
  show Z E G (HM D (vset (recM V n) 38 b (nI (mo (pof a c true)))) P PH) sz 0 0 (43, [some (.ref (D.1 37)), some (.int (nI a)), some (.int (nI b)), some (.int (nI c)), some (.int (nI 1))], [.int (nI (wr (pof a c true))), .int ((vset (recM V n) 38 b (nI (mo (pof a c true)))) 38 (42 + a)), .int (nI (42 + a)), .ref (D.1 38)])
  refine Z_run C it_Mm_puts 1 (f2 := (44, [some (.ref (D.1 37)), some (.int (nI a)), some (.int (nI b)), some (.int (nI c)), some (.int (nI 1))], [.int ((vset (recM V n) 38 b (nI (mo (pof a c true)))) 38 (42 + a) + nI (wr (pof a c true))), .int (nI (42 + a)), .ref (D.1 38)])) rfl ?_
  refine Zm_ast C it_Mm_puts hD 38 10 rfl (by first | decide | exact isB_k hb | omega) rfl (by decide) rfl (j := 42 + a) (by omega) trivial rfl ?_
  have hz3 : ∀ k, k < 36 → (vset (vset (recM V n) 38 b (nI (mo (pof a c true)))) 38 (42 + a) ((vset (recM V n) 38 b (nI (mo (pof a c true)))) 38 (42 + a) + nI (wr (pof a c true)))) 38 k = nI (mo (plF F b (pof a c true) k)) := fun k hk => by rw [vrd_n (by omega)]; exact hz2 k hk
  refine Z_run C it_Mm_puts 2 (f2 := (47, [some (.ref (D.1 37)), some (.int (nI a)), some (.int (nI b)), some (.int (nI c)), some (.int (nI 1))], [.int (nI a), .ref (D.1 37)])) rfl ?_
  refine Zr_callV C it_Mm_puts hD rfl p_Mm_count ml_Mm_82 37 (by decide) rfl rfl [.int (nI a)] (ct_Mm_count_z C.ev C.l hD (vset (vset (recM V n) 38 b (nI (mo (pof a c true)))) 38 (42 + a) ((vset (recM V n) 38 b (nI (mo (pof a c true)))) 38 (42 + a) + nI (wr (pof a c true)))) P _ ((plF F b (pof a c true))) hF2 hz3 a (by first | assumption | omega) _) rfl rfl ⟨by decide, by decide, by decide, by decide⟩ (Nat.le_of_ble_eq_true rfl) rfl ?_
  show Z E G (HM D (vset (vset (recM V n) 38 b (nI (mo (pof a c true)))) 38 (42 + a) ((vset (recM V n) 38 b (nI (mo (pof a c true)))) 38 (42 + a) + nI (wr (pof a c true)))) P PH) sz 0 0 (50, [some (.ref (D.1 37)), some (.int (nI a)), some (.int (nI b)), some (.int (nI c)), some (.int (nI 1))], [.int (nI (cnt (fun k => hld (plF F b (pof a c true)) k a) 36))])
  exact Z_iret C q.e it_Mm_puts rfl (zRet_iH rfl rfl) (by decide) (by decide)
set_option maxRecDepth 20000 in
theorem ct_Mm_putPiece {E : zE} (hE : zEv E) {l : Launch} (hl : l.stackTraces = false) {D : zD} (hD : zDok E D) (V : Nat → Nat → Int32) (P : Nat → Nat → Value) (PH : aH) (F : Nat → Nat) (hF : okF F) (hz : ∀ k, k < 36 → V 38 k = nI (mo (F k))) (n : Nat) (hp : V 37 2 = nI n) (hn5 : n ≤ 5) (st : Bool) (hst : V 38 36 = bI st) (a : Nat) (ha : a < 2) (b : Nat) (hb : b < 36) (c : Nat) (hc : c < 32) (hc0 : 1 ≤ c) (hcp : cpt st F a b = true) (sz : Nat) : zM E l y_Mm_putPiece [.code y_Mm_putPiece c_Mm_putPiece 4 (some .int)] rm_Mm_putPiece [.ref (D.1 37), .int (nI a), .int (nI b), .int (nI c)] (HM D V P PH) sz (zRet (some (.int (nI (cnt (fun k => hld (plF F b (pof a c false)) k a) 36)))) (HM D (vset (vset (recM (vset V 37 8 (nI 0)) n) 38 b (nI (mo (pof a c false)))) 38 (42 + a) ((vset (recM (vset V 37 8 (nI 0)) n) 38 b (nI (mo (pof a c false)))) 38 (42 + a) + nI (wr (pof a c false)))) P PH) sz) := by
  refine zM_of hE hl (by decide +kernel) [some (.ref (D.1 37)), some (.int (nI a)), some (.int (nI b)), some (.int (nI c))] ⟨rfl, rfl, Nat.le_of_ble_eq_true rfl⟩ ?_
  intro G C q htb
  refine Z_run C it_Mm_putPiece 2 (f2 := (2, [some (.ref (D.1 37)), some (.int (nI a)), some (.int (nI b)), some (.int (nI c))], [.int (nI a), .ref (D.1 37)])) rfl ?_
  refine Zr_callS C it_Mm_putPiece rfl p_Mm_isSide ml_Mm_91 [.int (nI a)] (ct_Mm_isSide_t C.ev C.l a (by omega) (HM D V P PH) _) rfl rfl ⟨by decide, by decide, by decide, by decide⟩ (Nat.le_of_ble_eq_true rfl) rfl ?_
  show Z E G (HM D V P PH) sz 0 0 (5, [some (.ref (D.1 37)), some (.int (nI a)), some (.int (nI b)), some (.int (nI c))], [.int (nI 1), .ref (D.1 37)])
  refine Z_br C it_Mm_putPiece rfl rfl (fun hc1 => absurd hc1 (by decide)) (fun hc1 => ?_)
  refine Z_run C it_Mm_putPiece 1 (f2 := (9, [some (.ref (D.1 37)), some (.int (nI a)), some (.int (nI b)), some (.int (nI c))], [.int (nI b), .ref (D.1 37)])) rfl ?_
  refine Zr_callS C it_Mm_putPiece rfl p_Mm_isSquare ml_Mm_94 [.int (nI b)] (ct_Mm_isSquare_t C.ev C.l b (by omega) (HM D V P PH) _) rfl rfl ⟨by decide, by decide, by decide, by decide⟩ (Nat.le_of_ble_eq_true rfl) rfl ?_
  show Z E G (HM D V P PH) sz 0 0 (12, [some (.ref (D.1 37)), some (.int (nI a)), some (.int (nI b)), some (.int (nI c))], [.int (nI 1), .ref (D.1 37)])
  refine Z_br C it_Mm_putPiece rfl rfl (fun hc2 => absurd hc2 (by decide)) (fun hc2 => ?_)
  refine Z_run C it_Mm_putPiece 2 (f2 := (20, [some (.ref (D.1 37)), some (.int (nI a)), some (.int (nI b)), some (.int (nI c))], [.int (nI 1), .ref (D.1 37)])) rfl ?_
  refine Zr_callV C it_Mm_putPiece hD rfl p_Mm_asks ml_Mm_40 37 (by decide) rfl rfl [.int (nI 1)] (ct_Mm_asks_t C.ev C.l hD V P _ _) rfl rfl ⟨by decide, by decide, by decide, by decide⟩ (Nat.le_of_ble_eq_true rfl) rfl ?_
  show Z E G (HM D (vset V 37 8 (nI 0)) P PH) sz 0 0 (23, [some (.ref (D.1 37)), some (.int (nI a)), some (.int (nI b)), some (.int (nI c))], [.int (nI 1)])
  refine Z_run C it_Mm_putPiece 5 (f2 := (29, [some (.ref (D.1 37)), some (.int (nI a)), some (.int (nI b)), some (.int (nI c))], [.int (nI 31), .int (nI 1), .int (nI c), .ref (D.1 37)])) rfl ?_
  refine Zr_callS C it_Mm_putPiece rfl p_Mm_in ml_Mm_33 [.int (nI c), .int (nI 1), .int (nI 31)] (ct_Mm_in_t C.ev C.l c 1 31 (by omega) (by omega) (by omega) (HM D (vset V 37 8 (nI 0)) P PH) _) rfl rfl ⟨by decide, by decide, by decide, by decide⟩ (Nat.le_of_ble_eq_true rfl) rfl ?_
  show Z E G (HM D (vset V 37 8 (nI 0)) P PH) sz 0 0 (32, [some (.ref (D.1 37)), some (.int (nI a)), some (.int (nI b)), some (.int (nI c))], [.int (nI 1), .ref (D.1 37)])
  refine Z_run C it_Mm_putPiece 1 (f2 := (33, [some (.ref (D.1 37)), some (.int (nI a)), some (.int (nI b)), some (.int (nI c))], [.int (nI 2), .int (nI 1), .ref (D.1 37)])) rfl ?_
  refine Zr_callV C it_Mm_putPiece hD rfl p_Mm_asksThen ml_Mm_97 37 (by decide) rfl rfl [.int (nI 1), .int (nI 2)] (ct_Mm_asksThen_t C.ev C.l hD (vset V 37 8 (nI 0)) P _ 2 rfl _) rfl rfl ⟨by decide, by decide, by decide, by decide⟩ (Nat.le_of_ble_eq_true rfl) rfl ?_
  show Z E G (HM D (vset (vset V 37 8 (nI 0)) 37 8 (nI 0)) P PH) sz 0 0 (36, [some (.ref (D.1 37)), some (.int (nI a)), some (.int (nI b)), some (.int (nI c))], [.int (nI 1)])
  refine Z_run C it_Mm_putPiece 3 (f2 := (39, [some (.ref (D.1 37)), some (.int (nI a)), some (.int (nI b)), some (.int (nI c))], [.ref (D.1 37), .ref (D.1 37)])) rfl ?_
  refine Zm_get C it_Mm_putPiece hD rfl 37 wi_Mm (by decide) rfl rfl (j := 8) (by decide) fl_Mm_29 (v := .int (nI 0)) rfl ?_
  refine Z_br C it_Mm_putPiece rfl rfl (fun hc3 => absurd hc3 (by decide)) (fun hc3 => ?_)
  refine Z_run C it_Mm_putPiece 3 (f2 := (48, [some (.ref (D.1 37)), some (.int (nI a)), some (.int (nI b)), some (.int (nI c))], [.int (nI b), .int (nI a), .ref (D.1 37), .ref (D.1 37)])) rfl ?_
  refine Zr_callV C it_Mm_putPiece hD rfl p_Mm_canPut ml_Mm_101 37 (by decide) rfl rfl [.int (nI a), .int (nI b)] (ct_Mm_canPut_z C.ev C.l hD (vset (vset V 37 8 (nI 0)) 37 8 (nI 0)) P _ F hF hz st hst a (by omega) b (by omega) _) rfl rfl ⟨by decide, by decide, by decide, by decide⟩ (Nat.le_of_ble_eq_true rfl) rfl ?_
  show Z E G (HM D (vset (vset V 37 8 (nI 0)) 37 8 (nI 0)) P PH) sz 0 0 (51, [some (.ref (D.1 37)), some (.int (nI a)), some (.int (nI b)), some (.int (nI c))], [.int (bI (cpt st F a b)), .ref (D.1 37)])
  refine Z_br C it_Mm_putPiece rfl rfl (fun hc4 => ?_) (fun hc4 => ?_)
  · exact absurd (bI_0.mp hc4) (by rw [hcp]; decide)
  · skip
    refine Z_run C it_Mm_putPiece 3 (f2 := (60, [some (.ref (D.1 37)), some (.int (nI a)), some (.int (nI b)), some (.int (nI c))], [.int (nI 3), .int (nI 1), .ref (D.1 37)])) rfl ?_
    refine Zr_callV C it_Mm_putPiece hD rfl p_Mm_asksThen ml_Mm_97 37 (by decide) rfl rfl [.int (nI 1), .int (nI 3)] (ct_Mm_asksThen_t C.ev C.l hD (vset (vset V 37 8 (nI 0)) 37 8 (nI 0)) P _ 3 rfl _) rfl rfl ⟨by decide, by decide, by decide, by decide⟩ (Nat.le_of_ble_eq_true rfl) rfl ?_
    show Z E G (HM D (vset (vset (vset V 37 8 (nI 0)) 37 8 (nI 0)) 37 8 (nI 0)) P PH) sz 0 0 (63, [some (.ref (D.1 37)), some (.int (nI a)), some (.int (nI b)), some (.int (nI c))], [.int (nI 1)])
    refine Z_br C it_Mm_putPiece rfl rfl (fun hc5 => absurd hc5 (by decide)) (fun hc5 => ?_)
    refine Z_run C it_Mm_putPiece 5 (f2 := (71, [some (.ref (D.1 37)), some (.int (nI a)), some (.int (nI b)), some (.int (nI c))], [.int (nI 0), .int (nI c), .int (nI b), .int (nI a), .ref (D.1 37)])) rfl ?_
    refine Zr_callV C it_Mm_putPiece hD rfl p_Mm_puts ml_Mm_104 37 (by decide) rfl rfl [.int (nI a), .int (nI b), .int (nI c), .int (nI 0)] (ct_Mm_puts_0 C.ev C.l hD (vset (vset (vset V 37 8 (nI 0)) 37 8 (nI 0)) 37 8 (nI 0)) P _ F hF hz n hp hn5 a ha b hb c hc hc0 _) rfl rfl ⟨by decide, by decide, by decide, by decide⟩ (Nat.le_of_ble_eq_true rfl) rfl ?_
    show Z E G (HM D (vset (vset (recM (vset (vset (vset V 37 8 (nI 0)) 37 8 (nI 0)) 37 8 (nI 0)) n) 38 b (nI (mo (pof a c false)))) 38 (42 + a) ((vset (recM (vset (vset (vset V 37 8 (nI 0)) 37 8 (nI 0)) 37 8 (nI 0)) n) 38 b (nI (mo (pof a c false)))) 38 (42 + a) + nI (wr (pof a c false)))) P PH) sz 0 0 (74, [some (.ref (D.1 37)), some (.int (nI a)), some (.int (nI b)), some (.int (nI c))], [.int (nI (cnt (fun k => hld (plF F b (pof a c false)) k a) 36))])
    refine Z_run C it_Mm_putPiece 1 (f2 := (78, [some (.ref (D.1 37)), some (.int (nI a)), some (.int (nI b)), some (.int (nI c))], [.int (nI (cnt (fun k => hld (plF F b (pof a c false)) k a) 36))])) rfl ?_
    exact Z_iret C q.e it_Mm_putPiece rfl (zRet_iH rfl (by simp only [vset_2])) (by decide) (by decide)
set_option maxRecDepth 20000 in
theorem ct_Mm_putPiece_x1 {E : zE} (hE : zEv E) {l : Launch} (hl : l.stackTraces = false) {D : zD} (hD : zDok E D) (V : Nat → Nat → Int32) (P : Nat → Nat → Value) (PH : aH) (a : Nat) (h32 : a < 4294967296) (ha : 2 ≤ a) (xb xc : Int32) (sz : Nat) : zM E l y_Mm_putPiece [.code y_Mm_putPiece c_Mm_putPiece 4 (some .int)] rm_Mm_putPiece [.ref (D.1 37), .int (nI a), .int xb, .int xc] (HM D V P PH) sz (zRet (some (.int (nI 0))) (HM D (vset V 37 8 (nI 1)) P PH) sz) := by
  refine zM_of hE hl (by decide +kernel) [some (.ref (D.1 37)), some (.int (nI a)), some (.int xb), some (.int xc)] ⟨rfl, rfl, Nat.le_of_ble_eq_true rfl⟩ ?_
  intro G C q htb
  refine Z_run C it_Mm_putPiece 2 (f2 := (2, [some (.ref (D.1 37)), some (.int (nI a)), some (.int xb), some (.int xc)], [.int (nI a), .ref (D.1 37)])) rfl ?_
  refine Zr_callS C it_Mm_putPiece rfl p_Mm_isSide ml_Mm_91 [.int (nI a)] (ct_Mm_isSide_f C.ev C.l a (by omega) (by omega) (HM D V P PH) _) rfl rfl ⟨by decide, by decide, by decide, by decide⟩ (Nat.le_of_ble_eq_true rfl) rfl ?_
  show Z E G (HM D V P PH) sz 0 0 (5, [some (.ref (D.1 37)), some (.int (nI a)), some (.int xb), some (.int xc)], [.int (nI 0), .ref (D.1 37)])
  refine Z_br C it_Mm_putPiece rfl rfl (fun hc1 => ?_) (fun hc1 => absurd (by decide) hc1)
  refine Z_run C it_Mm_putPiece 1 (f2 := (20, [some (.ref (D.1 37)), some (.int (nI a)), some (.int xb), some (.int xc)], [.int (nI 0), .ref (D.1 37)])) rfl ?_
  refine Zr_callV C it_Mm_putPiece hD rfl p_Mm_asks ml_Mm_40 37 (by decide) rfl rfl [.int (nI 0)] (ct_Mm_asks_f C.ev C.l hD V P _ _) rfl rfl ⟨by decide, by decide, by decide, by decide⟩ (Nat.le_of_ble_eq_true rfl) rfl ?_
  show Z E G (HM D (vset V 37 8 (nI 1)) P PH) sz 0 0 (23, [some (.ref (D.1 37)), some (.int (nI a)), some (.int xb), some (.int xc)], [.int (nI 0)])
  refine Z_run C it_Mm_putPiece 5 (f2 := (29, [some (.ref (D.1 37)), some (.int (nI a)), some (.int xb), some (.int xc)], [.int (nI 31), .int (nI 1), .int xc, .ref (D.1 37)])) rfl ?_
  refine Zr_callS C it_Mm_putPiece rfl p_Mm_in ml_Mm_33 [.int xc, .int (nI 1), .int (nI 31)] (ct_Mm_in_a C.ev C.l xc (nI 1) (nI 31) (HM D (vset V 37 8 (nI 1)) P PH) _) rfl rfl ⟨by decide, by decide, by decide, by decide⟩ (Nat.le_of_ble_eq_true rfl) rfl ?_
  show Z E G (HM D (vset V 37 8 (nI 1)) P PH) sz 0 0 (32, [some (.ref (D.1 37)), some (.int (nI a)), some (.int xb), some (.int xc)], [.int (inI xc (nI 1) (nI 31)), .ref (D.1 37)])
  refine Z_run C it_Mm_putPiece 1 (f2 := (33, [some (.ref (D.1 37)), some (.int (nI a)), some (.int xb), some (.int xc)], [.int (nI 2), .int (inI xc (nI 1) (nI 31)), .ref (D.1 37)])) rfl ?_
  refine Zr_callV C it_Mm_putPiece hD rfl p_Mm_asksThen ml_Mm_97 37 (by decide) rfl rfl [.int (inI xc (nI 1) (nI 31)), .int (nI 2)] (ct_Mm_asksThen_k C.ev C.l hD (vset V 37 8 (nI 1)) P _ 1 (by decide) (by decide) (inI xc (nI 1) (nI 31)) 2 rfl _) rfl rfl ⟨by decide, by decide, by decide, by decide⟩ (Nat.le_of_ble_eq_true rfl) rfl ?_
  show Z E G (HM D (vset (vset V 37 8 (nI 1)) 37 8 (nI 1)) P PH) sz 0 0 (36, [some (.ref (D.1 37)), some (.int (nI a)), some (.int xb), some (.int xc)], [.int (nI 0)])
  refine Z_run C it_Mm_putPiece 3 (f2 := (39, [some (.ref (D.1 37)), some (.int (nI a)), some (.int xb), some (.int xc)], [.ref (D.1 37), .ref (D.1 37)])) rfl ?_
  refine Zm_get C it_Mm_putPiece hD rfl 37 wi_Mm (by decide) rfl rfl (j := 8) (by decide) fl_Mm_29 (v := .int (nI 1)) rfl ?_
  refine Z_br C it_Mm_putPiece rfl rfl (fun hc2 => ?_) (fun hc2 => absurd (by decide) hc2)
  refine Z_run C it_Mm_putPiece 3 (f2 := (60, [some (.ref (D.1 37)), some (.int (nI a)), some (.int xb), some (.int xc)], [.int (nI 3), .int (nI 1), .ref (D.1 37)])) rfl ?_
  refine Zr_callV C it_Mm_putPiece hD rfl p_Mm_asksThen ml_Mm_97 37 (by decide) rfl rfl [.int (nI 1), .int (nI 3)] (ct_Mm_asksThen_k C.ev C.l hD (vset (vset V 37 8 (nI 1)) 37 8 (nI 1)) P _ 1 (by decide) (by decide) (nI 1) 3 rfl _) rfl rfl ⟨by decide, by decide, by decide, by decide⟩ (Nat.le_of_ble_eq_true rfl) rfl ?_
  show Z E G (HM D (vset (vset (vset V 37 8 (nI 1)) 37 8 (nI 1)) 37 8 (nI 1)) P PH) sz 0 0 (63, [some (.ref (D.1 37)), some (.int (nI a)), some (.int xb), some (.int xc)], [.int (nI 0)])
  refine Z_br C it_Mm_putPiece rfl rfl (fun hc3 => ?_) (fun hc3 => absurd (by decide) hc3)
  refine Z_run C it_Mm_putPiece 1 (f2 := (78, [some (.ref (D.1 37)), some (.int (nI a)), some (.int xb), some (.int xc)], [.int (nI 0)])) rfl ?_
  exact Z_iret C q.e it_Mm_putPiece rfl (zRet_iH rfl (by first | rfl | (simp only [vset_2]))) (by decide) (by decide)
set_option maxRecDepth 20000 in
theorem ct_Mm_putPiece_x2 {E : zE} (hE : zEv E) {l : Launch} (hl : l.stackTraces = false) {D : zD} (hD : zDok E D) (V : Nat → Nat → Int32) (P : Nat → Nat → Value) (PH : aH) (a : Nat) (ha : a < 2) (b : Nat) (h32 : b < 4294967296) (hb : 36 ≤ b) (xc : Int32) (sz : Nat) : zM E l y_Mm_putPiece [.code y_Mm_putPiece c_Mm_putPiece 4 (some .int)] rm_Mm_putPiece [.ref (D.1 37), .int (nI a), .int (nI b), .int xc] (HM D V P PH) sz (zRet (some (.int (nI 0))) (HM D (vset V 37 8 (nI 1)) P PH) sz) := by
  refine zM_of hE hl (by decide +kernel) [some (.ref (D.1 37)), some (.int (nI a)), some (.int (nI b)), some (.int xc)] ⟨rfl, rfl, Nat.le_of_ble_eq_true rfl⟩ ?_
  intro G C q htb
  refine Z_run C it_Mm_putPiece 2 (f2 := (2, [some (.ref (D.1 37)), some (.int (nI a)), some (.int (nI b)), some (.int xc)], [.int (nI a), .ref (D.1 37)])) rfl ?_
  refine Zr_callS C it_Mm_putPiece rfl p_Mm_isSide ml_Mm_91 [.int (nI a)] (ct_Mm_isSide_t C.ev C.l a (by omega) (HM D V P PH) _) rfl rfl ⟨by decide, by decide, by decide, by decide⟩ (Nat.le_of_ble_eq_true rfl) rfl ?_
  show Z E G (HM D V P PH) sz 0 0 (5, [some (.ref (D.1 37)), some (.int (nI a)), some (.int (nI b)), some (.int xc)], [.int (nI 1), .ref (D.1 37)])
  refine Z_br C it_Mm_putPiece rfl rfl (fun hc1 => absurd hc1 (by decide)) (fun hc1 => ?_)
  refine Z_run C it_Mm_putPiece 1 (f2 := (9, [some (.ref (D.1 37)), some (.int (nI a)), some (.int (nI b)), some (.int xc)], [.int (nI b), .ref (D.1 37)])) rfl ?_
  refine Zr_callS C it_Mm_putPiece rfl p_Mm_isSquare ml_Mm_94 [.int (nI b)] (ct_Mm_isSquare_f C.ev C.l b (by omega) (by omega) (HM D V P PH) _) rfl rfl ⟨by decide, by decide, by decide, by decide⟩ (Nat.le_of_ble_eq_true rfl) rfl ?_
  show Z E G (HM D V P PH) sz 0 0 (12, [some (.ref (D.1 37)), some (.int (nI a)), some (.int (nI b)), some (.int xc)], [.int (nI 0), .ref (D.1 37)])
  refine Z_br C it_Mm_putPiece rfl rfl (fun hc2 => ?_) (fun hc2 => absurd (by decide) hc2)
  refine Z_run C it_Mm_putPiece 1 (f2 := (20, [some (.ref (D.1 37)), some (.int (nI a)), some (.int (nI b)), some (.int xc)], [.int (nI 0), .ref (D.1 37)])) rfl ?_
  refine Zr_callV C it_Mm_putPiece hD rfl p_Mm_asks ml_Mm_40 37 (by decide) rfl rfl [.int (nI 0)] (ct_Mm_asks_f C.ev C.l hD V P _ _) rfl rfl ⟨by decide, by decide, by decide, by decide⟩ (Nat.le_of_ble_eq_true rfl) rfl ?_
  show Z E G (HM D (vset V 37 8 (nI 1)) P PH) sz 0 0 (23, [some (.ref (D.1 37)), some (.int (nI a)), some (.int (nI b)), some (.int xc)], [.int (nI 0)])
  refine Z_run C it_Mm_putPiece 5 (f2 := (29, [some (.ref (D.1 37)), some (.int (nI a)), some (.int (nI b)), some (.int xc)], [.int (nI 31), .int (nI 1), .int xc, .ref (D.1 37)])) rfl ?_
  refine Zr_callS C it_Mm_putPiece rfl p_Mm_in ml_Mm_33 [.int xc, .int (nI 1), .int (nI 31)] (ct_Mm_in_a C.ev C.l xc (nI 1) (nI 31) (HM D (vset V 37 8 (nI 1)) P PH) _) rfl rfl ⟨by decide, by decide, by decide, by decide⟩ (Nat.le_of_ble_eq_true rfl) rfl ?_
  show Z E G (HM D (vset V 37 8 (nI 1)) P PH) sz 0 0 (32, [some (.ref (D.1 37)), some (.int (nI a)), some (.int (nI b)), some (.int xc)], [.int (inI xc (nI 1) (nI 31)), .ref (D.1 37)])
  refine Z_run C it_Mm_putPiece 1 (f2 := (33, [some (.ref (D.1 37)), some (.int (nI a)), some (.int (nI b)), some (.int xc)], [.int (nI 2), .int (inI xc (nI 1) (nI 31)), .ref (D.1 37)])) rfl ?_
  refine Zr_callV C it_Mm_putPiece hD rfl p_Mm_asksThen ml_Mm_97 37 (by decide) rfl rfl [.int (inI xc (nI 1) (nI 31)), .int (nI 2)] (ct_Mm_asksThen_k C.ev C.l hD (vset V 37 8 (nI 1)) P _ 1 (by decide) (by decide) (inI xc (nI 1) (nI 31)) 2 rfl _) rfl rfl ⟨by decide, by decide, by decide, by decide⟩ (Nat.le_of_ble_eq_true rfl) rfl ?_
  show Z E G (HM D (vset (vset V 37 8 (nI 1)) 37 8 (nI 1)) P PH) sz 0 0 (36, [some (.ref (D.1 37)), some (.int (nI a)), some (.int (nI b)), some (.int xc)], [.int (nI 0)])
  refine Z_run C it_Mm_putPiece 3 (f2 := (39, [some (.ref (D.1 37)), some (.int (nI a)), some (.int (nI b)), some (.int xc)], [.ref (D.1 37), .ref (D.1 37)])) rfl ?_
  refine Zm_get C it_Mm_putPiece hD rfl 37 wi_Mm (by decide) rfl rfl (j := 8) (by decide) fl_Mm_29 (v := .int (nI 1)) rfl ?_
  refine Z_br C it_Mm_putPiece rfl rfl (fun hc3 => ?_) (fun hc3 => absurd (by decide) hc3)
  refine Z_run C it_Mm_putPiece 3 (f2 := (60, [some (.ref (D.1 37)), some (.int (nI a)), some (.int (nI b)), some (.int xc)], [.int (nI 3), .int (nI 1), .ref (D.1 37)])) rfl ?_
  refine Zr_callV C it_Mm_putPiece hD rfl p_Mm_asksThen ml_Mm_97 37 (by decide) rfl rfl [.int (nI 1), .int (nI 3)] (ct_Mm_asksThen_k C.ev C.l hD (vset (vset V 37 8 (nI 1)) 37 8 (nI 1)) P _ 1 (by decide) (by decide) (nI 1) 3 rfl _) rfl rfl ⟨by decide, by decide, by decide, by decide⟩ (Nat.le_of_ble_eq_true rfl) rfl ?_
  show Z E G (HM D (vset (vset (vset V 37 8 (nI 1)) 37 8 (nI 1)) 37 8 (nI 1)) P PH) sz 0 0 (63, [some (.ref (D.1 37)), some (.int (nI a)), some (.int (nI b)), some (.int xc)], [.int (nI 0)])
  refine Z_br C it_Mm_putPiece rfl rfl (fun hc4 => ?_) (fun hc4 => absurd (by decide) hc4)
  refine Z_run C it_Mm_putPiece 1 (f2 := (78, [some (.ref (D.1 37)), some (.int (nI a)), some (.int (nI b)), some (.int xc)], [.int (nI 0)])) rfl ?_
  exact Z_iret C q.e it_Mm_putPiece rfl (zRet_iH rfl (by first | rfl | (simp only [vset_2]))) (by decide) (by decide)
set_option maxRecDepth 20000 in
theorem ct_Mm_putPiece_x3 {E : zE} (hE : zEv E) {l : Launch} (hl : l.stackTraces = false) {D : zD} (hD : zDok E D) (V : Nat → Nat → Int32) (P : Nat → Nat → Value) (PH : aH) (a : Nat) (ha : a < 2) (b : Nat) (hb : b < 36) (c : Nat) (h32 : c < 4294967296) (hc : c < 1 ∨ 31 < c) (sz : Nat) : zM E l y_Mm_putPiece [.code y_Mm_putPiece c_Mm_putPiece 4 (some .int)] rm_Mm_putPiece [.ref (D.1 37), .int (nI a), .int (nI b), .int (nI c)] (HM D V P PH) sz (zRet (some (.int (nI 0))) (HM D (vset V 37 8 (nI 2)) P PH) sz) := by
  refine zM_of hE hl (by decide +kernel) [some (.ref (D.1 37)), some (.int (nI a)), some (.int (nI b)), some (.int (nI c))] ⟨rfl, rfl, Nat.le_of_ble_eq_true rfl⟩ ?_
  intro G C q htb
  refine Z_run C it_Mm_putPiece 2 (f2 := (2, [some (.ref (D.1 37)), some (.int (nI a)), some (.int (nI b)), some (.int (nI c))], [.int (nI a), .ref (D.1 37)])) rfl ?_
  refine Zr_callS C it_Mm_putPiece rfl p_Mm_isSide ml_Mm_91 [.int (nI a)] (ct_Mm_isSide_t C.ev C.l a (by omega) (HM D V P PH) _) rfl rfl ⟨by decide, by decide, by decide, by decide⟩ (Nat.le_of_ble_eq_true rfl) rfl ?_
  show Z E G (HM D V P PH) sz 0 0 (5, [some (.ref (D.1 37)), some (.int (nI a)), some (.int (nI b)), some (.int (nI c))], [.int (nI 1), .ref (D.1 37)])
  refine Z_br C it_Mm_putPiece rfl rfl (fun hc1 => absurd hc1 (by decide)) (fun hc1 => ?_)
  refine Z_run C it_Mm_putPiece 1 (f2 := (9, [some (.ref (D.1 37)), some (.int (nI a)), some (.int (nI b)), some (.int (nI c))], [.int (nI b), .ref (D.1 37)])) rfl ?_
  refine Zr_callS C it_Mm_putPiece rfl p_Mm_isSquare ml_Mm_94 [.int (nI b)] (ct_Mm_isSquare_t C.ev C.l b (by omega) (HM D V P PH) _) rfl rfl ⟨by decide, by decide, by decide, by decide⟩ (Nat.le_of_ble_eq_true rfl) rfl ?_
  show Z E G (HM D V P PH) sz 0 0 (12, [some (.ref (D.1 37)), some (.int (nI a)), some (.int (nI b)), some (.int (nI c))], [.int (nI 1), .ref (D.1 37)])
  refine Z_br C it_Mm_putPiece rfl rfl (fun hc2 => absurd hc2 (by decide)) (fun hc2 => ?_)
  refine Z_run C it_Mm_putPiece 2 (f2 := (20, [some (.ref (D.1 37)), some (.int (nI a)), some (.int (nI b)), some (.int (nI c))], [.int (nI 1), .ref (D.1 37)])) rfl ?_
  refine Zr_callV C it_Mm_putPiece hD rfl p_Mm_asks ml_Mm_40 37 (by decide) rfl rfl [.int (nI 1)] (ct_Mm_asks_t C.ev C.l hD V P _ _) rfl rfl ⟨by decide, by decide, by decide, by decide⟩ (Nat.le_of_ble_eq_true rfl) rfl ?_
  show Z E G (HM D (vset V 37 8 (nI 0)) P PH) sz 0 0 (23, [some (.ref (D.1 37)), some (.int (nI a)), some (.int (nI b)), some (.int (nI c))], [.int (nI 1)])
  refine Z_run C it_Mm_putPiece 5 (f2 := (29, [some (.ref (D.1 37)), some (.int (nI a)), some (.int (nI b)), some (.int (nI c))], [.int (nI 31), .int (nI 1), .int (nI c), .ref (D.1 37)])) rfl ?_
  refine Zr_callS C it_Mm_putPiece rfl p_Mm_in ml_Mm_33 [.int (nI c), .int (nI 1), .int (nI 31)] (ct_Mm_in_f C.ev C.l c 1 31 (by omega) (by omega) (by omega) (by omega) (HM D (vset V 37 8 (nI 0)) P PH) _) rfl rfl ⟨by decide, by decide, by decide, by decide⟩ (Nat.le_of_ble_eq_true rfl) rfl ?_
  show Z E G (HM D (vset V 37 8 (nI 0)) P PH) sz 0 0 (32, [some (.ref (D.1 37)), some (.int (nI a)), some (.int (nI b)), some (.int (nI c))], [.int (nI 0), .ref (D.1 37)])
  refine Z_run C it_Mm_putPiece 1 (f2 := (33, [some (.ref (D.1 37)), some (.int (nI a)), some (.int (nI b)), some (.int (nI c))], [.int (nI 2), .int (nI 0), .ref (D.1 37)])) rfl ?_
  refine Zr_callV C it_Mm_putPiece hD rfl p_Mm_asksThen ml_Mm_97 37 (by decide) rfl rfl [.int (nI 0), .int (nI 2)] (ct_Mm_asksThen_f C.ev C.l hD (vset V 37 8 (nI 0)) P _ 2 (by decide) (by decide) rfl _) rfl rfl ⟨by decide, by decide, by decide, by decide⟩ (Nat.le_of_ble_eq_true rfl) rfl ?_
  show Z E G (HM D (vset (vset V 37 8 (nI 0)) 37 8 (nI 2)) P PH) sz 0 0 (36, [some (.ref (D.1 37)), some (.int (nI a)), some (.int (nI b)), some (.int (nI c))], [.int (nI 0)])
  refine Z_run C it_Mm_putPiece 3 (f2 := (39, [some (.ref (D.1 37)), some (.int (nI a)), some (.int (nI b)), some (.int (nI c))], [.ref (D.1 37), .ref (D.1 37)])) rfl ?_
  refine Zm_get C it_Mm_putPiece hD rfl 37 wi_Mm (by decide) rfl rfl (j := 8) (by decide) fl_Mm_29 (v := .int (nI 2)) rfl ?_
  refine Z_br C it_Mm_putPiece rfl rfl (fun hc3 => ?_) (fun hc3 => absurd (by decide) hc3)
  refine Z_run C it_Mm_putPiece 3 (f2 := (60, [some (.ref (D.1 37)), some (.int (nI a)), some (.int (nI b)), some (.int (nI c))], [.int (nI 3), .int (nI 1), .ref (D.1 37)])) rfl ?_
  refine Zr_callV C it_Mm_putPiece hD rfl p_Mm_asksThen ml_Mm_97 37 (by decide) rfl rfl [.int (nI 1), .int (nI 3)] (ct_Mm_asksThen_k C.ev C.l hD (vset (vset V 37 8 (nI 0)) 37 8 (nI 2)) P _ 2 (by decide) (by decide) (nI 1) 3 rfl _) rfl rfl ⟨by decide, by decide, by decide, by decide⟩ (Nat.le_of_ble_eq_true rfl) rfl ?_
  show Z E G (HM D (vset (vset (vset V 37 8 (nI 0)) 37 8 (nI 2)) 37 8 (nI 2)) P PH) sz 0 0 (63, [some (.ref (D.1 37)), some (.int (nI a)), some (.int (nI b)), some (.int (nI c))], [.int (nI 0)])
  refine Z_br C it_Mm_putPiece rfl rfl (fun hc4 => ?_) (fun hc4 => absurd (by decide) hc4)
  refine Z_run C it_Mm_putPiece 1 (f2 := (78, [some (.ref (D.1 37)), some (.int (nI a)), some (.int (nI b)), some (.int (nI c))], [.int (nI 0)])) rfl ?_
  exact Z_iret C q.e it_Mm_putPiece rfl (zRet_iH rfl (by first | rfl | (simp only [vset_2]))) (by decide) (by decide)
set_option maxRecDepth 20000 in
theorem ct_Mm_putPiece_x4 {E : zE} (hE : zEv E) {l : Launch} (hl : l.stackTraces = false) {D : zD} (hD : zDok E D) (V : Nat → Nat → Int32) (P : Nat → Nat → Value) (PH : aH) (F : Nat → Nat) (hF : okF F) (hz : ∀ k, k < 36 → V 38 k = nI (mo (F k))) (st : Bool) (hst : V 38 36 = bI st) (a : Nat) (ha : a < 2) (b : Nat) (hb : b < 36) (c : Nat) (hc : c < 32) (hc0 : 1 ≤ c) (hcp : cpt st F a b = false) (sz : Nat) : zM E l y_Mm_putPiece [.code y_Mm_putPiece c_Mm_putPiece 4 (some .int)] rm_Mm_putPiece [.ref (D.1 37), .int (nI a), .int (nI b), .int (nI c)] (HM D V P PH) sz (zRet (some (.int (nI 0))) (HM D (vset V 37 8 (nI 3)) P PH) sz) := by
  refine zM_of hE hl (by decide +kernel) [some (.ref (D.1 37)), some (.int (nI a)), some (.int (nI b)), some (.int (nI c))] ⟨rfl, rfl, Nat.le_of_ble_eq_true rfl⟩ ?_
  intro G C q htb
  refine Z_run C it_Mm_putPiece 2 (f2 := (2, [some (.ref (D.1 37)), some (.int (nI a)), some (.int (nI b)), some (.int (nI c))], [.int (nI a), .ref (D.1 37)])) rfl ?_
  refine Zr_callS C it_Mm_putPiece rfl p_Mm_isSide ml_Mm_91 [.int (nI a)] (ct_Mm_isSide_t C.ev C.l a (by omega) (HM D V P PH) _) rfl rfl ⟨by decide, by decide, by decide, by decide⟩ (Nat.le_of_ble_eq_true rfl) rfl ?_
  show Z E G (HM D V P PH) sz 0 0 (5, [some (.ref (D.1 37)), some (.int (nI a)), some (.int (nI b)), some (.int (nI c))], [.int (nI 1), .ref (D.1 37)])
  refine Z_br C it_Mm_putPiece rfl rfl (fun hc1 => absurd hc1 (by decide)) (fun hc1 => ?_)
  refine Z_run C it_Mm_putPiece 1 (f2 := (9, [some (.ref (D.1 37)), some (.int (nI a)), some (.int (nI b)), some (.int (nI c))], [.int (nI b), .ref (D.1 37)])) rfl ?_
  refine Zr_callS C it_Mm_putPiece rfl p_Mm_isSquare ml_Mm_94 [.int (nI b)] (ct_Mm_isSquare_t C.ev C.l b (by omega) (HM D V P PH) _) rfl rfl ⟨by decide, by decide, by decide, by decide⟩ (Nat.le_of_ble_eq_true rfl) rfl ?_
  show Z E G (HM D V P PH) sz 0 0 (12, [some (.ref (D.1 37)), some (.int (nI a)), some (.int (nI b)), some (.int (nI c))], [.int (nI 1), .ref (D.1 37)])
  refine Z_br C it_Mm_putPiece rfl rfl (fun hc2 => absurd hc2 (by decide)) (fun hc2 => ?_)
  refine Z_run C it_Mm_putPiece 2 (f2 := (20, [some (.ref (D.1 37)), some (.int (nI a)), some (.int (nI b)), some (.int (nI c))], [.int (nI 1), .ref (D.1 37)])) rfl ?_
  refine Zr_callV C it_Mm_putPiece hD rfl p_Mm_asks ml_Mm_40 37 (by decide) rfl rfl [.int (nI 1)] (ct_Mm_asks_t C.ev C.l hD V P _ _) rfl rfl ⟨by decide, by decide, by decide, by decide⟩ (Nat.le_of_ble_eq_true rfl) rfl ?_
  show Z E G (HM D (vset V 37 8 (nI 0)) P PH) sz 0 0 (23, [some (.ref (D.1 37)), some (.int (nI a)), some (.int (nI b)), some (.int (nI c))], [.int (nI 1)])
  refine Z_run C it_Mm_putPiece 5 (f2 := (29, [some (.ref (D.1 37)), some (.int (nI a)), some (.int (nI b)), some (.int (nI c))], [.int (nI 31), .int (nI 1), .int (nI c), .ref (D.1 37)])) rfl ?_
  refine Zr_callS C it_Mm_putPiece rfl p_Mm_in ml_Mm_33 [.int (nI c), .int (nI 1), .int (nI 31)] (ct_Mm_in_t C.ev C.l c 1 31 (by omega) (by omega) (by omega) (HM D (vset V 37 8 (nI 0)) P PH) _) rfl rfl ⟨by decide, by decide, by decide, by decide⟩ (Nat.le_of_ble_eq_true rfl) rfl ?_
  show Z E G (HM D (vset V 37 8 (nI 0)) P PH) sz 0 0 (32, [some (.ref (D.1 37)), some (.int (nI a)), some (.int (nI b)), some (.int (nI c))], [.int (nI 1), .ref (D.1 37)])
  refine Z_run C it_Mm_putPiece 1 (f2 := (33, [some (.ref (D.1 37)), some (.int (nI a)), some (.int (nI b)), some (.int (nI c))], [.int (nI 2), .int (nI 1), .ref (D.1 37)])) rfl ?_
  refine Zr_callV C it_Mm_putPiece hD rfl p_Mm_asksThen ml_Mm_97 37 (by decide) rfl rfl [.int (nI 1), .int (nI 2)] (ct_Mm_asksThen_t C.ev C.l hD (vset V 37 8 (nI 0)) P _ 2 rfl _) rfl rfl ⟨by decide, by decide, by decide, by decide⟩ (Nat.le_of_ble_eq_true rfl) rfl ?_
  show Z E G (HM D (vset (vset V 37 8 (nI 0)) 37 8 (nI 0)) P PH) sz 0 0 (36, [some (.ref (D.1 37)), some (.int (nI a)), some (.int (nI b)), some (.int (nI c))], [.int (nI 1)])
  refine Z_run C it_Mm_putPiece 3 (f2 := (39, [some (.ref (D.1 37)), some (.int (nI a)), some (.int (nI b)), some (.int (nI c))], [.ref (D.1 37), .ref (D.1 37)])) rfl ?_
  refine Zm_get C it_Mm_putPiece hD rfl 37 wi_Mm (by decide) rfl rfl (j := 8) (by decide) fl_Mm_29 (v := .int (nI 0)) rfl ?_
  refine Z_br C it_Mm_putPiece rfl rfl (fun hc3 => absurd hc3 (by decide)) (fun hc3 => ?_)
  refine Z_run C it_Mm_putPiece 3 (f2 := (48, [some (.ref (D.1 37)), some (.int (nI a)), some (.int (nI b)), some (.int (nI c))], [.int (nI b), .int (nI a), .ref (D.1 37), .ref (D.1 37)])) rfl ?_
  refine Zr_callV C it_Mm_putPiece hD rfl p_Mm_canPut ml_Mm_101 37 (by decide) rfl rfl [.int (nI a), .int (nI b)] (ct_Mm_canPut_z C.ev C.l hD (vset (vset V 37 8 (nI 0)) 37 8 (nI 0)) P _ F hF hz st hst a (by omega) b (by omega) _) rfl rfl ⟨by decide, by decide, by decide, by decide⟩ (Nat.le_of_ble_eq_true rfl) rfl ?_
  show Z E G (HM D (vset (vset V 37 8 (nI 0)) 37 8 (nI 0)) P PH) sz 0 0 (51, [some (.ref (D.1 37)), some (.int (nI a)), some (.int (nI b)), some (.int (nI c))], [.int (bI (cpt st F a b)), .ref (D.1 37)])
  refine Z_br C it_Mm_putPiece rfl rfl (fun hc4 => ?_) (fun hc4 => ?_)
  · skip
    refine Z_run C it_Mm_putPiece 2 (f2 := (60, [some (.ref (D.1 37)), some (.int (nI a)), some (.int (nI b)), some (.int (nI c))], [.int (nI 3), .int (nI 0), .ref (D.1 37)])) rfl ?_
    refine Zr_callV C it_Mm_putPiece hD rfl p_Mm_asksThen ml_Mm_97 37 (by decide) rfl rfl [.int (nI 0), .int (nI 3)] (ct_Mm_asksThen_f C.ev C.l hD (vset (vset V 37 8 (nI 0)) 37 8 (nI 0)) P _ 3 (by decide) (by decide) rfl _) rfl rfl ⟨by decide, by decide, by decide, by decide⟩ (Nat.le_of_ble_eq_true rfl) rfl ?_
    show Z E G (HM D (vset (vset (vset V 37 8 (nI 0)) 37 8 (nI 0)) 37 8 (nI 3)) P PH) sz 0 0 (63, [some (.ref (D.1 37)), some (.int (nI a)), some (.int (nI b)), some (.int (nI c))], [.int (nI 0)])
    refine Z_br C it_Mm_putPiece rfl rfl (fun hc5 => ?_) (fun hc5 => absurd (by decide) hc5)
    refine Z_run C it_Mm_putPiece 1 (f2 := (78, [some (.ref (D.1 37)), some (.int (nI a)), some (.int (nI b)), some (.int (nI c))], [.int (nI 0)])) rfl ?_
    exact Z_iret C q.e it_Mm_putPiece rfl (zRet_iH rfl (by first | rfl | (simp only [vset_2]))) (by decide) (by decide)
  · exact absurd (bI_1.mp hc4) (by rw [hcp]; decide)
set_option maxRecDepth 20000 in
theorem ct_Mm_putLeader {E : zE} (hE : zEv E) {l : Launch} (hl : l.stackTraces = false) {D : zD} (hD : zDok E D) (V : Nat → Nat → Int32) (P : Nat → Nat → Value) (PH : aH) (F : Nat → Nat) (hF : okF F) (hz : ∀ k, k < 36 → V 38 k = nI (mo (F k))) (n : Nat) (hp : V 37 2 = nI n) (hn5 : n ≤ 5) (st : Bool) (hst : V 38 36 = bI st) (a : Nat) (ha : a < 2) (b : Nat) (hb : b < 36) (c : Nat) (hc : c < 32) (hc0 : 1 ≤ c) (hcp : cpt st F a b = true) (hl9 : lls (fun k => hld F k a && ldr (F k)) 36 = none) (sz : Nat) : zM E l y_Mm_putLeader [.code y_Mm_putLeader c_Mm_putLeader 4 (some .int)] rm_Mm_putLeader [.ref (D.1 37), .int (nI a), .int (nI b), .int (nI c)] (HM D V P PH) sz (zRet (some (.int (nI (cnt (fun k => hld (plF F b (pof a c true)) k a) 36)))) (HM D (vset (vset (recM (vset V 37 8 (nI 0)) n) 38 b (nI (mo (pof a c true)))) 38 (42 + a) ((vset (recM (vset V 37 8 (nI 0)) n) 38 b (nI (mo (pof a c true)))) 38 (42 + a) + nI (wr (pof a c true)))) P PH) sz) := by
  refine zM_of hE hl (by decide +kernel) [some (.ref (D.1 37)), some (.int (nI a)), some (.int (nI b)), some (.int (nI c))] ⟨rfl, rfl, Nat.le_of_ble_eq_true rfl⟩ ?_
  intro G C q htb
  refine Z_run C it_Mm_putLeader 2 (f2 := (2, [some (.ref (D.1 37)), some (.int (nI a)), some (.int (nI b)), some (.int (nI c))], [.int (nI a), .ref (D.1 37)])) rfl ?_
  refine Zr_callS C it_Mm_putLeader rfl p_Mm_isSide ml_Mm_91 [.int (nI a)] (ct_Mm_isSide_t C.ev C.l a (by omega) (HM D V P PH) _) rfl rfl ⟨by decide, by decide, by decide, by decide⟩ (Nat.le_of_ble_eq_true rfl) rfl ?_
  show Z E G (HM D V P PH) sz 0 0 (5, [some (.ref (D.1 37)), some (.int (nI a)), some (.int (nI b)), some (.int (nI c))], [.int (nI 1), .ref (D.1 37)])
  refine Z_br C it_Mm_putLeader rfl rfl (fun hc1 => absurd hc1 (by decide)) (fun hc1 => ?_)
  refine Z_run C it_Mm_putLeader 1 (f2 := (9, [some (.ref (D.1 37)), some (.int (nI a)), some (.int (nI b)), some (.int (nI c))], [.int (nI b), .ref (D.1 37)])) rfl ?_
  refine Zr_callS C it_Mm_putLeader rfl p_Mm_isSquare ml_Mm_94 [.int (nI b)] (ct_Mm_isSquare_t C.ev C.l b (by omega) (HM D V P PH) _) rfl rfl ⟨by decide, by decide, by decide, by decide⟩ (Nat.le_of_ble_eq_true rfl) rfl ?_
  show Z E G (HM D V P PH) sz 0 0 (12, [some (.ref (D.1 37)), some (.int (nI a)), some (.int (nI b)), some (.int (nI c))], [.int (nI 1), .ref (D.1 37)])
  refine Z_br C it_Mm_putLeader rfl rfl (fun hc2 => absurd hc2 (by decide)) (fun hc2 => ?_)
  refine Z_run C it_Mm_putLeader 2 (f2 := (20, [some (.ref (D.1 37)), some (.int (nI a)), some (.int (nI b)), some (.int (nI c))], [.int (nI 1), .ref (D.1 37)])) rfl ?_
  refine Zr_callV C it_Mm_putLeader hD rfl p_Mm_asks ml_Mm_40 37 (by decide) rfl rfl [.int (nI 1)] (ct_Mm_asks_t C.ev C.l hD V P _ _) rfl rfl ⟨by decide, by decide, by decide, by decide⟩ (Nat.le_of_ble_eq_true rfl) rfl ?_
  show Z E G (HM D (vset V 37 8 (nI 0)) P PH) sz 0 0 (23, [some (.ref (D.1 37)), some (.int (nI a)), some (.int (nI b)), some (.int (nI c))], [.int (nI 1)])
  refine Z_run C it_Mm_putLeader 5 (f2 := (29, [some (.ref (D.1 37)), some (.int (nI a)), some (.int (nI b)), some (.int (nI c))], [.int (nI 31), .int (nI 1), .int (nI c), .ref (D.1 37)])) rfl ?_
  refine Zr_callS C it_Mm_putLeader rfl p_Mm_in ml_Mm_33 [.int (nI c), .int (nI 1), .int (nI 31)] (ct_Mm_in_t C.ev C.l c 1 31 (by omega) (by omega) (by omega) (HM D (vset V 37 8 (nI 0)) P PH) _) rfl rfl ⟨by decide, by decide, by decide, by decide⟩ (Nat.le_of_ble_eq_true rfl) rfl ?_
  show Z E G (HM D (vset V 37 8 (nI 0)) P PH) sz 0 0 (32, [some (.ref (D.1 37)), some (.int (nI a)), some (.int (nI b)), some (.int (nI c))], [.int (nI 1), .ref (D.1 37)])
  refine Z_run C it_Mm_putLeader 1 (f2 := (33, [some (.ref (D.1 37)), some (.int (nI a)), some (.int (nI b)), some (.int (nI c))], [.int (nI 2), .int (nI 1), .ref (D.1 37)])) rfl ?_
  refine Zr_callV C it_Mm_putLeader hD rfl p_Mm_asksThen ml_Mm_97 37 (by decide) rfl rfl [.int (nI 1), .int (nI 2)] (ct_Mm_asksThen_t C.ev C.l hD (vset V 37 8 (nI 0)) P _ 2 rfl _) rfl rfl ⟨by decide, by decide, by decide, by decide⟩ (Nat.le_of_ble_eq_true rfl) rfl ?_
  show Z E G (HM D (vset (vset V 37 8 (nI 0)) 37 8 (nI 0)) P PH) sz 0 0 (36, [some (.ref (D.1 37)), some (.int (nI a)), some (.int (nI b)), some (.int (nI c))], [.int (nI 1)])
  refine Z_run C it_Mm_putLeader 3 (f2 := (39, [some (.ref (D.1 37)), some (.int (nI a)), some (.int (nI b)), some (.int (nI c))], [.ref (D.1 37), .ref (D.1 37)])) rfl ?_
  refine Zm_get C it_Mm_putLeader hD rfl 37 wi_Mm (by decide) rfl rfl (j := 8) (by decide) fl_Mm_29 (v := .int (nI 0)) rfl ?_
  refine Z_br C it_Mm_putLeader rfl rfl (fun hc3 => absurd hc3 (by decide)) (fun hc3 => ?_)
  refine Z_run C it_Mm_putLeader 3 (f2 := (48, [some (.ref (D.1 37)), some (.int (nI a)), some (.int (nI b)), some (.int (nI c))], [.int (nI b), .int (nI a), .ref (D.1 37), .ref (D.1 37)])) rfl ?_
  refine Zr_callV C it_Mm_putLeader hD rfl p_Mm_canPut ml_Mm_101 37 (by decide) rfl rfl [.int (nI a), .int (nI b)] (ct_Mm_canPut_z C.ev C.l hD (vset (vset V 37 8 (nI 0)) 37 8 (nI 0)) P _ F hF hz st hst a (by omega) b (by omega) _) rfl rfl ⟨by decide, by decide, by decide, by decide⟩ (Nat.le_of_ble_eq_true rfl) rfl ?_
  show Z E G (HM D (vset (vset V 37 8 (nI 0)) 37 8 (nI 0)) P PH) sz 0 0 (51, [some (.ref (D.1 37)), some (.int (nI a)), some (.int (nI b)), some (.int (nI c))], [.int (bI (cpt st F a b)), .ref (D.1 37)])
  refine Z_br C it_Mm_putLeader rfl rfl (fun hc4 => ?_) (fun hc4 => ?_)
  · exact absurd (bI_0.mp hc4) (by rw [hcp]; decide)
  · skip
    refine Z_run C it_Mm_putLeader 2 (f2 := (56, [some (.ref (D.1 37)), some (.int (nI a)), some (.int (nI b)), some (.int (nI c))], [.int (nI a), .ref (D.1 37), .ref (D.1 37)])) rfl ?_
    refine Zr_callV C it_Mm_putLeader hD rfl p_Mm_leader ml_Mm_108 37 (by decide) rfl rfl [.int (nI a)] (ct_Mm_leader_z C.ev C.l hD (vset (vset V 37 8 (nI 0)) 37 8 (nI 0)) P _ F hF hz a (by first | assumption | omega) _) rfl rfl ⟨by decide, by decide, by decide, by decide⟩ (Nat.le_of_ble_eq_true rfl) rfl ?_
    show Z E G (HM D (vset (vset V 37 8 (nI 0)) 37 8 (nI 0)) P PH) sz 0 0 (59, [some (.ref (D.1 37)), some (.int (nI a)), some (.int (nI b)), some (.int (nI c))], [.int (oI (lls (fun k => hld F k a && ldr (F k)) 36)), .ref (D.1 37)])
    refine Z_run C it_Mm_putLeader 1 (f2 := (60, [some (.ref (D.1 37)), some (.int (nI a)), some (.int (nI b)), some (.int (nI c))], [.int ((-1)), .int (oI (lls (fun k => hld F k a && ldr (F k)) 36)), .ref (D.1 37)])) rfl ?_
    refine Z_br C it_Mm_putLeader rfl rfl (fun hc5 => ?_) (fun hc5 => ?_)
    · exact absurd (show oI (lls (fun k => hld F k a && ldr (F k)) 36) = -1 by rw [hl9]; rfl) hc5
    · skip
      refine Z_run C it_Mm_putLeader 3 (f2 := (69, [some (.ref (D.1 37)), some (.int (nI a)), some (.int (nI b)), some (.int (nI c))], [.int (nI 3), .int (nI 1), .ref (D.1 37)])) rfl ?_
      refine Zr_callV C it_Mm_putLeader hD rfl p_Mm_asksThen ml_Mm_97 37 (by decide) rfl rfl [.int (nI 1), .int (nI 3)] (ct_Mm_asksThen_t C.ev C.l hD (vset (vset V 37 8 (nI 0)) 37 8 (nI 0)) P _ 3 rfl _) rfl rfl ⟨by decide, by decide, by decide, by decide⟩ (Nat.le_of_ble_eq_true rfl) rfl ?_
      show Z E G (HM D (vset (vset (vset V 37 8 (nI 0)) 37 8 (nI 0)) 37 8 (nI 0)) P PH) sz 0 0 (72, [some (.ref (D.1 37)), some (.int (nI a)), some (.int (nI b)), some (.int (nI c))], [.int (nI 1)])
      refine Z_br C it_Mm_putLeader rfl rfl (fun hc6 => absurd hc6 (by decide)) (fun hc6 => ?_)
      refine Z_run C it_Mm_putLeader 5 (f2 := (80, [some (.ref (D.1 37)), some (.int (nI a)), some (.int (nI b)), some (.int (nI c))], [.int (nI 1), .int (nI c), .int (nI b), .int (nI a), .ref (D.1 37)])) rfl ?_
      refine Zr_callV C it_Mm_putLeader hD rfl p_Mm_puts ml_Mm_104 37 (by decide) rfl rfl [.int (nI a), .int (nI b), .int (nI c), .int (nI 1)] (ct_Mm_puts_1 C.ev C.l hD (vset (vset (vset V 37 8 (nI 0)) 37 8 (nI 0)) 37 8 (nI 0)) P _ F hF hz n hp hn5 a ha b hb c hc hc0 _) rfl rfl ⟨by decide, by decide, by decide, by decide⟩ (Nat.le_of_ble_eq_true rfl) rfl ?_
      show Z E G (HM D (vset (vset (recM (vset (vset (vset V 37 8 (nI 0)) 37 8 (nI 0)) 37 8 (nI 0)) n) 38 b (nI (mo (pof a c true)))) 38 (42 + a) ((vset (recM (vset (vset (vset V 37 8 (nI 0)) 37 8 (nI 0)) 37 8 (nI 0)) n) 38 b (nI (mo (pof a c true)))) 38 (42 + a) + nI (wr (pof a c true)))) P PH) sz 0 0 (83, [some (.ref (D.1 37)), some (.int (nI a)), some (.int (nI b)), some (.int (nI c))], [.int (nI (cnt (fun k => hld (plF F b (pof a c true)) k a) 36))])
      refine Z_run C it_Mm_putLeader 1 (f2 := (87, [some (.ref (D.1 37)), some (.int (nI a)), some (.int (nI b)), some (.int (nI c))], [.int (nI (cnt (fun k => hld (plF F b (pof a c true)) k a) 36))])) rfl ?_
      exact Z_iret C q.e it_Mm_putLeader rfl (zRet_iH rfl (by simp only [vset_2])) (by decide) (by decide)
set_option maxRecDepth 20000 in
theorem ct_Mm_putLeader_x1 {E : zE} (hE : zEv E) {l : Launch} (hl : l.stackTraces = false) {D : zD} (hD : zDok E D) (V : Nat → Nat → Int32) (P : Nat → Nat → Value) (PH : aH) (a : Nat) (h32 : a < 4294967296) (ha : 2 ≤ a) (xb xc : Int32) (sz : Nat) : zM E l y_Mm_putLeader [.code y_Mm_putLeader c_Mm_putLeader 4 (some .int)] rm_Mm_putLeader [.ref (D.1 37), .int (nI a), .int xb, .int xc] (HM D V P PH) sz (zRet (some (.int (nI 0))) (HM D (vset V 37 8 (nI 1)) P PH) sz) := by
  refine zM_of hE hl (by decide +kernel) [some (.ref (D.1 37)), some (.int (nI a)), some (.int xb), some (.int xc)] ⟨rfl, rfl, Nat.le_of_ble_eq_true rfl⟩ ?_
  intro G C q htb
  refine Z_run C it_Mm_putLeader 2 (f2 := (2, [some (.ref (D.1 37)), some (.int (nI a)), some (.int xb), some (.int xc)], [.int (nI a), .ref (D.1 37)])) rfl ?_
  refine Zr_callS C it_Mm_putLeader rfl p_Mm_isSide ml_Mm_91 [.int (nI a)] (ct_Mm_isSide_f C.ev C.l a (by omega) (by omega) (HM D V P PH) _) rfl rfl ⟨by decide, by decide, by decide, by decide⟩ (Nat.le_of_ble_eq_true rfl) rfl ?_
  show Z E G (HM D V P PH) sz 0 0 (5, [some (.ref (D.1 37)), some (.int (nI a)), some (.int xb), some (.int xc)], [.int (nI 0), .ref (D.1 37)])
  refine Z_br C it_Mm_putLeader rfl rfl (fun hc1 => ?_) (fun hc1 => absurd (by decide) hc1)
  refine Z_run C it_Mm_putLeader 1 (f2 := (20, [some (.ref (D.1 37)), some (.int (nI a)), some (.int xb), some (.int xc)], [.int (nI 0), .ref (D.1 37)])) rfl ?_
  refine Zr_callV C it_Mm_putLeader hD rfl p_Mm_asks ml_Mm_40 37 (by decide) rfl rfl [.int (nI 0)] (ct_Mm_asks_f C.ev C.l hD V P _ _) rfl rfl ⟨by decide, by decide, by decide, by decide⟩ (Nat.le_of_ble_eq_true rfl) rfl ?_
  show Z E G (HM D (vset V 37 8 (nI 1)) P PH) sz 0 0 (23, [some (.ref (D.1 37)), some (.int (nI a)), some (.int xb), some (.int xc)], [.int (nI 0)])
  refine Z_run C it_Mm_putLeader 5 (f2 := (29, [some (.ref (D.1 37)), some (.int (nI a)), some (.int xb), some (.int xc)], [.int (nI 31), .int (nI 1), .int xc, .ref (D.1 37)])) rfl ?_
  refine Zr_callS C it_Mm_putLeader rfl p_Mm_in ml_Mm_33 [.int xc, .int (nI 1), .int (nI 31)] (ct_Mm_in_a C.ev C.l xc (nI 1) (nI 31) (HM D (vset V 37 8 (nI 1)) P PH) _) rfl rfl ⟨by decide, by decide, by decide, by decide⟩ (Nat.le_of_ble_eq_true rfl) rfl ?_
  show Z E G (HM D (vset V 37 8 (nI 1)) P PH) sz 0 0 (32, [some (.ref (D.1 37)), some (.int (nI a)), some (.int xb), some (.int xc)], [.int (inI xc (nI 1) (nI 31)), .ref (D.1 37)])
  refine Z_run C it_Mm_putLeader 1 (f2 := (33, [some (.ref (D.1 37)), some (.int (nI a)), some (.int xb), some (.int xc)], [.int (nI 2), .int (inI xc (nI 1) (nI 31)), .ref (D.1 37)])) rfl ?_
  refine Zr_callV C it_Mm_putLeader hD rfl p_Mm_asksThen ml_Mm_97 37 (by decide) rfl rfl [.int (inI xc (nI 1) (nI 31)), .int (nI 2)] (ct_Mm_asksThen_k C.ev C.l hD (vset V 37 8 (nI 1)) P _ 1 (by decide) (by decide) (inI xc (nI 1) (nI 31)) 2 rfl _) rfl rfl ⟨by decide, by decide, by decide, by decide⟩ (Nat.le_of_ble_eq_true rfl) rfl ?_
  show Z E G (HM D (vset (vset V 37 8 (nI 1)) 37 8 (nI 1)) P PH) sz 0 0 (36, [some (.ref (D.1 37)), some (.int (nI a)), some (.int xb), some (.int xc)], [.int (nI 0)])
  refine Z_run C it_Mm_putLeader 3 (f2 := (39, [some (.ref (D.1 37)), some (.int (nI a)), some (.int xb), some (.int xc)], [.ref (D.1 37), .ref (D.1 37)])) rfl ?_
  refine Zm_get C it_Mm_putLeader hD rfl 37 wi_Mm (by decide) rfl rfl (j := 8) (by decide) fl_Mm_29 (v := .int (nI 1)) rfl ?_
  refine Z_br C it_Mm_putLeader rfl rfl (fun hc2 => ?_) (fun hc2 => absurd (by decide) hc2)
  refine Z_run C it_Mm_putLeader 3 (f2 := (69, [some (.ref (D.1 37)), some (.int (nI a)), some (.int xb), some (.int xc)], [.int (nI 3), .int (nI 1), .ref (D.1 37)])) rfl ?_
  refine Zr_callV C it_Mm_putLeader hD rfl p_Mm_asksThen ml_Mm_97 37 (by decide) rfl rfl [.int (nI 1), .int (nI 3)] (ct_Mm_asksThen_k C.ev C.l hD (vset (vset V 37 8 (nI 1)) 37 8 (nI 1)) P _ 1 (by decide) (by decide) (nI 1) 3 rfl _) rfl rfl ⟨by decide, by decide, by decide, by decide⟩ (Nat.le_of_ble_eq_true rfl) rfl ?_
  show Z E G (HM D (vset (vset (vset V 37 8 (nI 1)) 37 8 (nI 1)) 37 8 (nI 1)) P PH) sz 0 0 (72, [some (.ref (D.1 37)), some (.int (nI a)), some (.int xb), some (.int xc)], [.int (nI 0)])
  refine Z_br C it_Mm_putLeader rfl rfl (fun hc3 => ?_) (fun hc3 => absurd (by decide) hc3)
  refine Z_run C it_Mm_putLeader 1 (f2 := (87, [some (.ref (D.1 37)), some (.int (nI a)), some (.int xb), some (.int xc)], [.int (nI 0)])) rfl ?_
  exact Z_iret C q.e it_Mm_putLeader rfl (zRet_iH rfl (by first | rfl | (simp only [vset_2]))) (by decide) (by decide)
set_option maxRecDepth 20000 in
theorem ct_Mm_putLeader_x2 {E : zE} (hE : zEv E) {l : Launch} (hl : l.stackTraces = false) {D : zD} (hD : zDok E D) (V : Nat → Nat → Int32) (P : Nat → Nat → Value) (PH : aH) (a : Nat) (ha : a < 2) (b : Nat) (h32 : b < 4294967296) (hb : 36 ≤ b) (xc : Int32) (sz : Nat) : zM E l y_Mm_putLeader [.code y_Mm_putLeader c_Mm_putLeader 4 (some .int)] rm_Mm_putLeader [.ref (D.1 37), .int (nI a), .int (nI b), .int xc] (HM D V P PH) sz (zRet (some (.int (nI 0))) (HM D (vset V 37 8 (nI 1)) P PH) sz) := by
  refine zM_of hE hl (by decide +kernel) [some (.ref (D.1 37)), some (.int (nI a)), some (.int (nI b)), some (.int xc)] ⟨rfl, rfl, Nat.le_of_ble_eq_true rfl⟩ ?_
  intro G C q htb
  refine Z_run C it_Mm_putLeader 2 (f2 := (2, [some (.ref (D.1 37)), some (.int (nI a)), some (.int (nI b)), some (.int xc)], [.int (nI a), .ref (D.1 37)])) rfl ?_
  refine Zr_callS C it_Mm_putLeader rfl p_Mm_isSide ml_Mm_91 [.int (nI a)] (ct_Mm_isSide_t C.ev C.l a (by omega) (HM D V P PH) _) rfl rfl ⟨by decide, by decide, by decide, by decide⟩ (Nat.le_of_ble_eq_true rfl) rfl ?_
  show Z E G (HM D V P PH) sz 0 0 (5, [some (.ref (D.1 37)), some (.int (nI a)), some (.int (nI b)), some (.int xc)], [.int (nI 1), .ref (D.1 37)])
  refine Z_br C it_Mm_putLeader rfl rfl (fun hc1 => absurd hc1 (by decide)) (fun hc1 => ?_)
  refine Z_run C it_Mm_putLeader 1 (f2 := (9, [some (.ref (D.1 37)), some (.int (nI a)), some (.int (nI b)), some (.int xc)], [.int (nI b), .ref (D.1 37)])) rfl ?_
  refine Zr_callS C it_Mm_putLeader rfl p_Mm_isSquare ml_Mm_94 [.int (nI b)] (ct_Mm_isSquare_f C.ev C.l b (by omega) (by omega) (HM D V P PH) _) rfl rfl ⟨by decide, by decide, by decide, by decide⟩ (Nat.le_of_ble_eq_true rfl) rfl ?_
  show Z E G (HM D V P PH) sz 0 0 (12, [some (.ref (D.1 37)), some (.int (nI a)), some (.int (nI b)), some (.int xc)], [.int (nI 0), .ref (D.1 37)])
  refine Z_br C it_Mm_putLeader rfl rfl (fun hc2 => ?_) (fun hc2 => absurd (by decide) hc2)
  refine Z_run C it_Mm_putLeader 1 (f2 := (20, [some (.ref (D.1 37)), some (.int (nI a)), some (.int (nI b)), some (.int xc)], [.int (nI 0), .ref (D.1 37)])) rfl ?_
  refine Zr_callV C it_Mm_putLeader hD rfl p_Mm_asks ml_Mm_40 37 (by decide) rfl rfl [.int (nI 0)] (ct_Mm_asks_f C.ev C.l hD V P _ _) rfl rfl ⟨by decide, by decide, by decide, by decide⟩ (Nat.le_of_ble_eq_true rfl) rfl ?_
  show Z E G (HM D (vset V 37 8 (nI 1)) P PH) sz 0 0 (23, [some (.ref (D.1 37)), some (.int (nI a)), some (.int (nI b)), some (.int xc)], [.int (nI 0)])
  refine Z_run C it_Mm_putLeader 5 (f2 := (29, [some (.ref (D.1 37)), some (.int (nI a)), some (.int (nI b)), some (.int xc)], [.int (nI 31), .int (nI 1), .int xc, .ref (D.1 37)])) rfl ?_
  refine Zr_callS C it_Mm_putLeader rfl p_Mm_in ml_Mm_33 [.int xc, .int (nI 1), .int (nI 31)] (ct_Mm_in_a C.ev C.l xc (nI 1) (nI 31) (HM D (vset V 37 8 (nI 1)) P PH) _) rfl rfl ⟨by decide, by decide, by decide, by decide⟩ (Nat.le_of_ble_eq_true rfl) rfl ?_
  show Z E G (HM D (vset V 37 8 (nI 1)) P PH) sz 0 0 (32, [some (.ref (D.1 37)), some (.int (nI a)), some (.int (nI b)), some (.int xc)], [.int (inI xc (nI 1) (nI 31)), .ref (D.1 37)])
  refine Z_run C it_Mm_putLeader 1 (f2 := (33, [some (.ref (D.1 37)), some (.int (nI a)), some (.int (nI b)), some (.int xc)], [.int (nI 2), .int (inI xc (nI 1) (nI 31)), .ref (D.1 37)])) rfl ?_
  refine Zr_callV C it_Mm_putLeader hD rfl p_Mm_asksThen ml_Mm_97 37 (by decide) rfl rfl [.int (inI xc (nI 1) (nI 31)), .int (nI 2)] (ct_Mm_asksThen_k C.ev C.l hD (vset V 37 8 (nI 1)) P _ 1 (by decide) (by decide) (inI xc (nI 1) (nI 31)) 2 rfl _) rfl rfl ⟨by decide, by decide, by decide, by decide⟩ (Nat.le_of_ble_eq_true rfl) rfl ?_
  show Z E G (HM D (vset (vset V 37 8 (nI 1)) 37 8 (nI 1)) P PH) sz 0 0 (36, [some (.ref (D.1 37)), some (.int (nI a)), some (.int (nI b)), some (.int xc)], [.int (nI 0)])
  refine Z_run C it_Mm_putLeader 3 (f2 := (39, [some (.ref (D.1 37)), some (.int (nI a)), some (.int (nI b)), some (.int xc)], [.ref (D.1 37), .ref (D.1 37)])) rfl ?_
  refine Zm_get C it_Mm_putLeader hD rfl 37 wi_Mm (by decide) rfl rfl (j := 8) (by decide) fl_Mm_29 (v := .int (nI 1)) rfl ?_
  refine Z_br C it_Mm_putLeader rfl rfl (fun hc3 => ?_) (fun hc3 => absurd (by decide) hc3)
  refine Z_run C it_Mm_putLeader 3 (f2 := (69, [some (.ref (D.1 37)), some (.int (nI a)), some (.int (nI b)), some (.int xc)], [.int (nI 3), .int (nI 1), .ref (D.1 37)])) rfl ?_
  refine Zr_callV C it_Mm_putLeader hD rfl p_Mm_asksThen ml_Mm_97 37 (by decide) rfl rfl [.int (nI 1), .int (nI 3)] (ct_Mm_asksThen_k C.ev C.l hD (vset (vset V 37 8 (nI 1)) 37 8 (nI 1)) P _ 1 (by decide) (by decide) (nI 1) 3 rfl _) rfl rfl ⟨by decide, by decide, by decide, by decide⟩ (Nat.le_of_ble_eq_true rfl) rfl ?_
  show Z E G (HM D (vset (vset (vset V 37 8 (nI 1)) 37 8 (nI 1)) 37 8 (nI 1)) P PH) sz 0 0 (72, [some (.ref (D.1 37)), some (.int (nI a)), some (.int (nI b)), some (.int xc)], [.int (nI 0)])
  refine Z_br C it_Mm_putLeader rfl rfl (fun hc4 => ?_) (fun hc4 => absurd (by decide) hc4)
  refine Z_run C it_Mm_putLeader 1 (f2 := (87, [some (.ref (D.1 37)), some (.int (nI a)), some (.int (nI b)), some (.int xc)], [.int (nI 0)])) rfl ?_
  exact Z_iret C q.e it_Mm_putLeader rfl (zRet_iH rfl (by first | rfl | (simp only [vset_2]))) (by decide) (by decide)
set_option maxRecDepth 20000 in
theorem ct_Mm_putLeader_x3 {E : zE} (hE : zEv E) {l : Launch} (hl : l.stackTraces = false) {D : zD} (hD : zDok E D) (V : Nat → Nat → Int32) (P : Nat → Nat → Value) (PH : aH) (a : Nat) (ha : a < 2) (b : Nat) (hb : b < 36) (c : Nat) (h32 : c < 4294967296) (hc : c < 1 ∨ 31 < c) (sz : Nat) : zM E l y_Mm_putLeader [.code y_Mm_putLeader c_Mm_putLeader 4 (some .int)] rm_Mm_putLeader [.ref (D.1 37), .int (nI a), .int (nI b), .int (nI c)] (HM D V P PH) sz (zRet (some (.int (nI 0))) (HM D (vset V 37 8 (nI 2)) P PH) sz) := by
  refine zM_of hE hl (by decide +kernel) [some (.ref (D.1 37)), some (.int (nI a)), some (.int (nI b)), some (.int (nI c))] ⟨rfl, rfl, Nat.le_of_ble_eq_true rfl⟩ ?_
  intro G C q htb
  refine Z_run C it_Mm_putLeader 2 (f2 := (2, [some (.ref (D.1 37)), some (.int (nI a)), some (.int (nI b)), some (.int (nI c))], [.int (nI a), .ref (D.1 37)])) rfl ?_
  refine Zr_callS C it_Mm_putLeader rfl p_Mm_isSide ml_Mm_91 [.int (nI a)] (ct_Mm_isSide_t C.ev C.l a (by omega) (HM D V P PH) _) rfl rfl ⟨by decide, by decide, by decide, by decide⟩ (Nat.le_of_ble_eq_true rfl) rfl ?_
  show Z E G (HM D V P PH) sz 0 0 (5, [some (.ref (D.1 37)), some (.int (nI a)), some (.int (nI b)), some (.int (nI c))], [.int (nI 1), .ref (D.1 37)])
  refine Z_br C it_Mm_putLeader rfl rfl (fun hc1 => absurd hc1 (by decide)) (fun hc1 => ?_)
  refine Z_run C it_Mm_putLeader 1 (f2 := (9, [some (.ref (D.1 37)), some (.int (nI a)), some (.int (nI b)), some (.int (nI c))], [.int (nI b), .ref (D.1 37)])) rfl ?_
  refine Zr_callS C it_Mm_putLeader rfl p_Mm_isSquare ml_Mm_94 [.int (nI b)] (ct_Mm_isSquare_t C.ev C.l b (by omega) (HM D V P PH) _) rfl rfl ⟨by decide, by decide, by decide, by decide⟩ (Nat.le_of_ble_eq_true rfl) rfl ?_
  show Z E G (HM D V P PH) sz 0 0 (12, [some (.ref (D.1 37)), some (.int (nI a)), some (.int (nI b)), some (.int (nI c))], [.int (nI 1), .ref (D.1 37)])
  refine Z_br C it_Mm_putLeader rfl rfl (fun hc2 => absurd hc2 (by decide)) (fun hc2 => ?_)
  refine Z_run C it_Mm_putLeader 2 (f2 := (20, [some (.ref (D.1 37)), some (.int (nI a)), some (.int (nI b)), some (.int (nI c))], [.int (nI 1), .ref (D.1 37)])) rfl ?_
  refine Zr_callV C it_Mm_putLeader hD rfl p_Mm_asks ml_Mm_40 37 (by decide) rfl rfl [.int (nI 1)] (ct_Mm_asks_t C.ev C.l hD V P _ _) rfl rfl ⟨by decide, by decide, by decide, by decide⟩ (Nat.le_of_ble_eq_true rfl) rfl ?_
  show Z E G (HM D (vset V 37 8 (nI 0)) P PH) sz 0 0 (23, [some (.ref (D.1 37)), some (.int (nI a)), some (.int (nI b)), some (.int (nI c))], [.int (nI 1)])
  refine Z_run C it_Mm_putLeader 5 (f2 := (29, [some (.ref (D.1 37)), some (.int (nI a)), some (.int (nI b)), some (.int (nI c))], [.int (nI 31), .int (nI 1), .int (nI c), .ref (D.1 37)])) rfl ?_
  refine Zr_callS C it_Mm_putLeader rfl p_Mm_in ml_Mm_33 [.int (nI c), .int (nI 1), .int (nI 31)] (ct_Mm_in_f C.ev C.l c 1 31 (by omega) (by omega) (by omega) (by omega) (HM D (vset V 37 8 (nI 0)) P PH) _) rfl rfl ⟨by decide, by decide, by decide, by decide⟩ (Nat.le_of_ble_eq_true rfl) rfl ?_
  show Z E G (HM D (vset V 37 8 (nI 0)) P PH) sz 0 0 (32, [some (.ref (D.1 37)), some (.int (nI a)), some (.int (nI b)), some (.int (nI c))], [.int (nI 0), .ref (D.1 37)])
  refine Z_run C it_Mm_putLeader 1 (f2 := (33, [some (.ref (D.1 37)), some (.int (nI a)), some (.int (nI b)), some (.int (nI c))], [.int (nI 2), .int (nI 0), .ref (D.1 37)])) rfl ?_
  refine Zr_callV C it_Mm_putLeader hD rfl p_Mm_asksThen ml_Mm_97 37 (by decide) rfl rfl [.int (nI 0), .int (nI 2)] (ct_Mm_asksThen_f C.ev C.l hD (vset V 37 8 (nI 0)) P _ 2 (by decide) (by decide) rfl _) rfl rfl ⟨by decide, by decide, by decide, by decide⟩ (Nat.le_of_ble_eq_true rfl) rfl ?_
  show Z E G (HM D (vset (vset V 37 8 (nI 0)) 37 8 (nI 2)) P PH) sz 0 0 (36, [some (.ref (D.1 37)), some (.int (nI a)), some (.int (nI b)), some (.int (nI c))], [.int (nI 0)])
  refine Z_run C it_Mm_putLeader 3 (f2 := (39, [some (.ref (D.1 37)), some (.int (nI a)), some (.int (nI b)), some (.int (nI c))], [.ref (D.1 37), .ref (D.1 37)])) rfl ?_
  refine Zm_get C it_Mm_putLeader hD rfl 37 wi_Mm (by decide) rfl rfl (j := 8) (by decide) fl_Mm_29 (v := .int (nI 2)) rfl ?_
  refine Z_br C it_Mm_putLeader rfl rfl (fun hc3 => ?_) (fun hc3 => absurd (by decide) hc3)
  refine Z_run C it_Mm_putLeader 3 (f2 := (69, [some (.ref (D.1 37)), some (.int (nI a)), some (.int (nI b)), some (.int (nI c))], [.int (nI 3), .int (nI 1), .ref (D.1 37)])) rfl ?_
  refine Zr_callV C it_Mm_putLeader hD rfl p_Mm_asksThen ml_Mm_97 37 (by decide) rfl rfl [.int (nI 1), .int (nI 3)] (ct_Mm_asksThen_k C.ev C.l hD (vset (vset V 37 8 (nI 0)) 37 8 (nI 2)) P _ 2 (by decide) (by decide) (nI 1) 3 rfl _) rfl rfl ⟨by decide, by decide, by decide, by decide⟩ (Nat.le_of_ble_eq_true rfl) rfl ?_
  show Z E G (HM D (vset (vset (vset V 37 8 (nI 0)) 37 8 (nI 2)) 37 8 (nI 2)) P PH) sz 0 0 (72, [some (.ref (D.1 37)), some (.int (nI a)), some (.int (nI b)), some (.int (nI c))], [.int (nI 0)])
  refine Z_br C it_Mm_putLeader rfl rfl (fun hc4 => ?_) (fun hc4 => absurd (by decide) hc4)
  refine Z_run C it_Mm_putLeader 1 (f2 := (87, [some (.ref (D.1 37)), some (.int (nI a)), some (.int (nI b)), some (.int (nI c))], [.int (nI 0)])) rfl ?_
  exact Z_iret C q.e it_Mm_putLeader rfl (zRet_iH rfl (by first | rfl | (simp only [vset_2]))) (by decide) (by decide)
set_option maxRecDepth 20000 in
theorem ct_Mm_putLeader_x4 {E : zE} (hE : zEv E) {l : Launch} (hl : l.stackTraces = false) {D : zD} (hD : zDok E D) (V : Nat → Nat → Int32) (P : Nat → Nat → Value) (PH : aH) (F : Nat → Nat) (hF : okF F) (hz : ∀ k, k < 36 → V 38 k = nI (mo (F k))) (st : Bool) (hst : V 38 36 = bI st) (a : Nat) (ha : a < 2) (b : Nat) (hb : b < 36) (c : Nat) (hc : c < 32) (hc0 : 1 ≤ c) (hcp : cpt st F a b = false) (sz : Nat) : zM E l y_Mm_putLeader [.code y_Mm_putLeader c_Mm_putLeader 4 (some .int)] rm_Mm_putLeader [.ref (D.1 37), .int (nI a), .int (nI b), .int (nI c)] (HM D V P PH) sz (zRet (some (.int (nI 0))) (HM D (vset V 37 8 (nI 3)) P PH) sz) := by
  refine zM_of hE hl (by decide +kernel) [some (.ref (D.1 37)), some (.int (nI a)), some (.int (nI b)), some (.int (nI c))] ⟨rfl, rfl, Nat.le_of_ble_eq_true rfl⟩ ?_
  intro G C q htb
  refine Z_run C it_Mm_putLeader 2 (f2 := (2, [some (.ref (D.1 37)), some (.int (nI a)), some (.int (nI b)), some (.int (nI c))], [.int (nI a), .ref (D.1 37)])) rfl ?_
  refine Zr_callS C it_Mm_putLeader rfl p_Mm_isSide ml_Mm_91 [.int (nI a)] (ct_Mm_isSide_t C.ev C.l a (by omega) (HM D V P PH) _) rfl rfl ⟨by decide, by decide, by decide, by decide⟩ (Nat.le_of_ble_eq_true rfl) rfl ?_
  show Z E G (HM D V P PH) sz 0 0 (5, [some (.ref (D.1 37)), some (.int (nI a)), some (.int (nI b)), some (.int (nI c))], [.int (nI 1), .ref (D.1 37)])
  refine Z_br C it_Mm_putLeader rfl rfl (fun hc1 => absurd hc1 (by decide)) (fun hc1 => ?_)
  refine Z_run C it_Mm_putLeader 1 (f2 := (9, [some (.ref (D.1 37)), some (.int (nI a)), some (.int (nI b)), some (.int (nI c))], [.int (nI b), .ref (D.1 37)])) rfl ?_
  refine Zr_callS C it_Mm_putLeader rfl p_Mm_isSquare ml_Mm_94 [.int (nI b)] (ct_Mm_isSquare_t C.ev C.l b (by omega) (HM D V P PH) _) rfl rfl ⟨by decide, by decide, by decide, by decide⟩ (Nat.le_of_ble_eq_true rfl) rfl ?_
  show Z E G (HM D V P PH) sz 0 0 (12, [some (.ref (D.1 37)), some (.int (nI a)), some (.int (nI b)), some (.int (nI c))], [.int (nI 1), .ref (D.1 37)])
  refine Z_br C it_Mm_putLeader rfl rfl (fun hc2 => absurd hc2 (by decide)) (fun hc2 => ?_)
  refine Z_run C it_Mm_putLeader 2 (f2 := (20, [some (.ref (D.1 37)), some (.int (nI a)), some (.int (nI b)), some (.int (nI c))], [.int (nI 1), .ref (D.1 37)])) rfl ?_
  refine Zr_callV C it_Mm_putLeader hD rfl p_Mm_asks ml_Mm_40 37 (by decide) rfl rfl [.int (nI 1)] (ct_Mm_asks_t C.ev C.l hD V P _ _) rfl rfl ⟨by decide, by decide, by decide, by decide⟩ (Nat.le_of_ble_eq_true rfl) rfl ?_
  show Z E G (HM D (vset V 37 8 (nI 0)) P PH) sz 0 0 (23, [some (.ref (D.1 37)), some (.int (nI a)), some (.int (nI b)), some (.int (nI c))], [.int (nI 1)])
  refine Z_run C it_Mm_putLeader 5 (f2 := (29, [some (.ref (D.1 37)), some (.int (nI a)), some (.int (nI b)), some (.int (nI c))], [.int (nI 31), .int (nI 1), .int (nI c), .ref (D.1 37)])) rfl ?_
  refine Zr_callS C it_Mm_putLeader rfl p_Mm_in ml_Mm_33 [.int (nI c), .int (nI 1), .int (nI 31)] (ct_Mm_in_t C.ev C.l c 1 31 (by omega) (by omega) (by omega) (HM D (vset V 37 8 (nI 0)) P PH) _) rfl rfl ⟨by decide, by decide, by decide, by decide⟩ (Nat.le_of_ble_eq_true rfl) rfl ?_
  show Z E G (HM D (vset V 37 8 (nI 0)) P PH) sz 0 0 (32, [some (.ref (D.1 37)), some (.int (nI a)), some (.int (nI b)), some (.int (nI c))], [.int (nI 1), .ref (D.1 37)])
  refine Z_run C it_Mm_putLeader 1 (f2 := (33, [some (.ref (D.1 37)), some (.int (nI a)), some (.int (nI b)), some (.int (nI c))], [.int (nI 2), .int (nI 1), .ref (D.1 37)])) rfl ?_
  refine Zr_callV C it_Mm_putLeader hD rfl p_Mm_asksThen ml_Mm_97 37 (by decide) rfl rfl [.int (nI 1), .int (nI 2)] (ct_Mm_asksThen_t C.ev C.l hD (vset V 37 8 (nI 0)) P _ 2 rfl _) rfl rfl ⟨by decide, by decide, by decide, by decide⟩ (Nat.le_of_ble_eq_true rfl) rfl ?_
  show Z E G (HM D (vset (vset V 37 8 (nI 0)) 37 8 (nI 0)) P PH) sz 0 0 (36, [some (.ref (D.1 37)), some (.int (nI a)), some (.int (nI b)), some (.int (nI c))], [.int (nI 1)])
  refine Z_run C it_Mm_putLeader 3 (f2 := (39, [some (.ref (D.1 37)), some (.int (nI a)), some (.int (nI b)), some (.int (nI c))], [.ref (D.1 37), .ref (D.1 37)])) rfl ?_
  refine Zm_get C it_Mm_putLeader hD rfl 37 wi_Mm (by decide) rfl rfl (j := 8) (by decide) fl_Mm_29 (v := .int (nI 0)) rfl ?_
  refine Z_br C it_Mm_putLeader rfl rfl (fun hc3 => absurd hc3 (by decide)) (fun hc3 => ?_)
  refine Z_run C it_Mm_putLeader 3 (f2 := (48, [some (.ref (D.1 37)), some (.int (nI a)), some (.int (nI b)), some (.int (nI c))], [.int (nI b), .int (nI a), .ref (D.1 37), .ref (D.1 37)])) rfl ?_
  refine Zr_callV C it_Mm_putLeader hD rfl p_Mm_canPut ml_Mm_101 37 (by decide) rfl rfl [.int (nI a), .int (nI b)] (ct_Mm_canPut_z C.ev C.l hD (vset (vset V 37 8 (nI 0)) 37 8 (nI 0)) P _ F hF hz st hst a (by omega) b (by omega) _) rfl rfl ⟨by decide, by decide, by decide, by decide⟩ (Nat.le_of_ble_eq_true rfl) rfl ?_
  show Z E G (HM D (vset (vset V 37 8 (nI 0)) 37 8 (nI 0)) P PH) sz 0 0 (51, [some (.ref (D.1 37)), some (.int (nI a)), some (.int (nI b)), some (.int (nI c))], [.int (bI (cpt st F a b)), .ref (D.1 37)])
  refine Z_br C it_Mm_putLeader rfl rfl (fun hc4 => ?_) (fun hc4 => ?_)
  · skip
    refine Z_run C it_Mm_putLeader 2 (f2 := (69, [some (.ref (D.1 37)), some (.int (nI a)), some (.int (nI b)), some (.int (nI c))], [.int (nI 3), .int (nI 0), .ref (D.1 37)])) rfl ?_
    refine Zr_callV C it_Mm_putLeader hD rfl p_Mm_asksThen ml_Mm_97 37 (by decide) rfl rfl [.int (nI 0), .int (nI 3)] (ct_Mm_asksThen_f C.ev C.l hD (vset (vset V 37 8 (nI 0)) 37 8 (nI 0)) P _ 3 (by decide) (by decide) rfl _) rfl rfl ⟨by decide, by decide, by decide, by decide⟩ (Nat.le_of_ble_eq_true rfl) rfl ?_
    show Z E G (HM D (vset (vset (vset V 37 8 (nI 0)) 37 8 (nI 0)) 37 8 (nI 3)) P PH) sz 0 0 (72, [some (.ref (D.1 37)), some (.int (nI a)), some (.int (nI b)), some (.int (nI c))], [.int (nI 0)])
    refine Z_br C it_Mm_putLeader rfl rfl (fun hc5 => ?_) (fun hc5 => absurd (by decide) hc5)
    refine Z_run C it_Mm_putLeader 1 (f2 := (87, [some (.ref (D.1 37)), some (.int (nI a)), some (.int (nI b)), some (.int (nI c))], [.int (nI 0)])) rfl ?_
    exact Z_iret C q.e it_Mm_putLeader rfl (zRet_iH rfl (by first | rfl | (simp only [vset_2]))) (by decide) (by decide)
  · exact absurd (bI_1.mp hc4) (by rw [hcp]; decide)
set_option maxRecDepth 20000 in
theorem ct_Mm_putLeader_x5 {E : zE} (hE : zEv E) {l : Launch} (hl : l.stackTraces = false) {D : zD} (hD : zDok E D) (V : Nat → Nat → Int32) (P : Nat → Nat → Value) (PH : aH) (F : Nat → Nat) (hF : okF F) (hz : ∀ k, k < 36 → V 38 k = nI (mo (F k))) (st : Bool) (hst : V 38 36 = bI st) (a : Nat) (ha : a < 2) (b : Nat) (hb : b < 36) (c : Nat) (hc : c < 32) (hc0 : 1 ≤ c) (hcp : cpt st F a b = true) (k : Nat) (hl9 : lls (fun k => hld F k a && ldr (F k)) 36 = some k) (sz : Nat) : zM E l y_Mm_putLeader [.code y_Mm_putLeader c_Mm_putLeader 4 (some .int)] rm_Mm_putLeader [.ref (D.1 37), .int (nI a), .int (nI b), .int (nI c)] (HM D V P PH) sz (zRet (some (.int (nI 0))) (HM D (vset V 37 8 (nI 3)) P PH) sz) := by
  refine zM_of hE hl (by decide +kernel) [some (.ref (D.1 37)), some (.int (nI a)), some (.int (nI b)), some (.int (nI c))] ⟨rfl, rfl, Nat.le_of_ble_eq_true rfl⟩ ?_
  intro G C q htb
  refine Z_run C it_Mm_putLeader 2 (f2 := (2, [some (.ref (D.1 37)), some (.int (nI a)), some (.int (nI b)), some (.int (nI c))], [.int (nI a), .ref (D.1 37)])) rfl ?_
  refine Zr_callS C it_Mm_putLeader rfl p_Mm_isSide ml_Mm_91 [.int (nI a)] (ct_Mm_isSide_t C.ev C.l a (by omega) (HM D V P PH) _) rfl rfl ⟨by decide, by decide, by decide, by decide⟩ (Nat.le_of_ble_eq_true rfl) rfl ?_
  show Z E G (HM D V P PH) sz 0 0 (5, [some (.ref (D.1 37)), some (.int (nI a)), some (.int (nI b)), some (.int (nI c))], [.int (nI 1), .ref (D.1 37)])
  refine Z_br C it_Mm_putLeader rfl rfl (fun hc1 => absurd hc1 (by decide)) (fun hc1 => ?_)
  refine Z_run C it_Mm_putLeader 1 (f2 := (9, [some (.ref (D.1 37)), some (.int (nI a)), some (.int (nI b)), some (.int (nI c))], [.int (nI b), .ref (D.1 37)])) rfl ?_
  refine Zr_callS C it_Mm_putLeader rfl p_Mm_isSquare ml_Mm_94 [.int (nI b)] (ct_Mm_isSquare_t C.ev C.l b (by omega) (HM D V P PH) _) rfl rfl ⟨by decide, by decide, by decide, by decide⟩ (Nat.le_of_ble_eq_true rfl) rfl ?_
  show Z E G (HM D V P PH) sz 0 0 (12, [some (.ref (D.1 37)), some (.int (nI a)), some (.int (nI b)), some (.int (nI c))], [.int (nI 1), .ref (D.1 37)])
  refine Z_br C it_Mm_putLeader rfl rfl (fun hc2 => absurd hc2 (by decide)) (fun hc2 => ?_)
  refine Z_run C it_Mm_putLeader 2 (f2 := (20, [some (.ref (D.1 37)), some (.int (nI a)), some (.int (nI b)), some (.int (nI c))], [.int (nI 1), .ref (D.1 37)])) rfl ?_
  refine Zr_callV C it_Mm_putLeader hD rfl p_Mm_asks ml_Mm_40 37 (by decide) rfl rfl [.int (nI 1)] (ct_Mm_asks_t C.ev C.l hD V P _ _) rfl rfl ⟨by decide, by decide, by decide, by decide⟩ (Nat.le_of_ble_eq_true rfl) rfl ?_
  show Z E G (HM D (vset V 37 8 (nI 0)) P PH) sz 0 0 (23, [some (.ref (D.1 37)), some (.int (nI a)), some (.int (nI b)), some (.int (nI c))], [.int (nI 1)])
  refine Z_run C it_Mm_putLeader 5 (f2 := (29, [some (.ref (D.1 37)), some (.int (nI a)), some (.int (nI b)), some (.int (nI c))], [.int (nI 31), .int (nI 1), .int (nI c), .ref (D.1 37)])) rfl ?_
  refine Zr_callS C it_Mm_putLeader rfl p_Mm_in ml_Mm_33 [.int (nI c), .int (nI 1), .int (nI 31)] (ct_Mm_in_t C.ev C.l c 1 31 (by omega) (by omega) (by omega) (HM D (vset V 37 8 (nI 0)) P PH) _) rfl rfl ⟨by decide, by decide, by decide, by decide⟩ (Nat.le_of_ble_eq_true rfl) rfl ?_
  show Z E G (HM D (vset V 37 8 (nI 0)) P PH) sz 0 0 (32, [some (.ref (D.1 37)), some (.int (nI a)), some (.int (nI b)), some (.int (nI c))], [.int (nI 1), .ref (D.1 37)])
  refine Z_run C it_Mm_putLeader 1 (f2 := (33, [some (.ref (D.1 37)), some (.int (nI a)), some (.int (nI b)), some (.int (nI c))], [.int (nI 2), .int (nI 1), .ref (D.1 37)])) rfl ?_
  refine Zr_callV C it_Mm_putLeader hD rfl p_Mm_asksThen ml_Mm_97 37 (by decide) rfl rfl [.int (nI 1), .int (nI 2)] (ct_Mm_asksThen_t C.ev C.l hD (vset V 37 8 (nI 0)) P _ 2 rfl _) rfl rfl ⟨by decide, by decide, by decide, by decide⟩ (Nat.le_of_ble_eq_true rfl) rfl ?_
  show Z E G (HM D (vset (vset V 37 8 (nI 0)) 37 8 (nI 0)) P PH) sz 0 0 (36, [some (.ref (D.1 37)), some (.int (nI a)), some (.int (nI b)), some (.int (nI c))], [.int (nI 1)])
  refine Z_run C it_Mm_putLeader 3 (f2 := (39, [some (.ref (D.1 37)), some (.int (nI a)), some (.int (nI b)), some (.int (nI c))], [.ref (D.1 37), .ref (D.1 37)])) rfl ?_
  refine Zm_get C it_Mm_putLeader hD rfl 37 wi_Mm (by decide) rfl rfl (j := 8) (by decide) fl_Mm_29 (v := .int (nI 0)) rfl ?_
  refine Z_br C it_Mm_putLeader rfl rfl (fun hc3 => absurd hc3 (by decide)) (fun hc3 => ?_)
  refine Z_run C it_Mm_putLeader 3 (f2 := (48, [some (.ref (D.1 37)), some (.int (nI a)), some (.int (nI b)), some (.int (nI c))], [.int (nI b), .int (nI a), .ref (D.1 37), .ref (D.1 37)])) rfl ?_
  refine Zr_callV C it_Mm_putLeader hD rfl p_Mm_canPut ml_Mm_101 37 (by decide) rfl rfl [.int (nI a), .int (nI b)] (ct_Mm_canPut_z C.ev C.l hD (vset (vset V 37 8 (nI 0)) 37 8 (nI 0)) P _ F hF hz st hst a (by omega) b (by omega) _) rfl rfl ⟨by decide, by decide, by decide, by decide⟩ (Nat.le_of_ble_eq_true rfl) rfl ?_
  show Z E G (HM D (vset (vset V 37 8 (nI 0)) 37 8 (nI 0)) P PH) sz 0 0 (51, [some (.ref (D.1 37)), some (.int (nI a)), some (.int (nI b)), some (.int (nI c))], [.int (bI (cpt st F a b)), .ref (D.1 37)])
  refine Z_br C it_Mm_putLeader rfl rfl (fun hc4 => ?_) (fun hc4 => ?_)
  · exact absurd (bI_0.mp hc4) (by rw [hcp]; decide)
  · skip
    refine Z_run C it_Mm_putLeader 2 (f2 := (56, [some (.ref (D.1 37)), some (.int (nI a)), some (.int (nI b)), some (.int (nI c))], [.int (nI a), .ref (D.1 37), .ref (D.1 37)])) rfl ?_
    refine Zr_callV C it_Mm_putLeader hD rfl p_Mm_leader ml_Mm_108 37 (by decide) rfl rfl [.int (nI a)] (ct_Mm_leader_z C.ev C.l hD (vset (vset V 37 8 (nI 0)) 37 8 (nI 0)) P _ F hF hz a (by first | assumption | omega) _) rfl rfl ⟨by decide, by decide, by decide, by decide⟩ (Nat.le_of_ble_eq_true rfl) rfl ?_
    show Z E G (HM D (vset (vset V 37 8 (nI 0)) 37 8 (nI 0)) P PH) sz 0 0 (59, [some (.ref (D.1 37)), some (.int (nI a)), some (.int (nI b)), some (.int (nI c))], [.int (oI (lls (fun k => hld F k a && ldr (F k)) 36)), .ref (D.1 37)])
    refine Z_run C it_Mm_putLeader 1 (f2 := (60, [some (.ref (D.1 37)), some (.int (nI a)), some (.int (nI b)), some (.int (nI c))], [.int ((-1)), .int (oI (lls (fun k => hld F k a && ldr (F k)) 36)), .ref (D.1 37)])) rfl ?_
    refine Z_br C it_Mm_putLeader rfl rfl (fun hc5 => ?_) (fun hc5 => ?_)
    · skip
      refine Z_run C it_Mm_putLeader 2 (f2 := (69, [some (.ref (D.1 37)), some (.int (nI a)), some (.int (nI b)), some (.int (nI c))], [.int (nI 3), .int (nI 0), .ref (D.1 37)])) rfl ?_
      refine Zr_callV C it_Mm_putLeader hD rfl p_Mm_asksThen ml_Mm_97 37 (by decide) rfl rfl [.int (nI 0), .int (nI 3)] (ct_Mm_asksThen_f C.ev C.l hD (vset (vset V 37 8 (nI 0)) 37 8 (nI 0)) P _ 3 (by decide) (by decide) rfl _) rfl rfl ⟨by decide, by decide, by decide, by decide⟩ (Nat.le_of_ble_eq_true rfl) rfl ?_
      show Z E G (HM D (vset (vset (vset V 37 8 (nI 0)) 37 8 (nI 0)) 37 8 (nI 3)) P PH) sz 0 0 (72, [some (.ref (D.1 37)), some (.int (nI a)), some (.int (nI b)), some (.int (nI c))], [.int (nI 0)])
      refine Z_br C it_Mm_putLeader rfl rfl (fun hc6 => ?_) (fun hc6 => absurd (by decide) hc6)
      refine Z_run C it_Mm_putLeader 1 (f2 := (87, [some (.ref (D.1 37)), some (.int (nI a)), some (.int (nI b)), some (.int (nI c))], [.int (nI 0)])) rfl ?_
      exact Z_iret C q.e it_Mm_putLeader rfl (zRet_iH rfl (by first | rfl | (simp only [vset_2]))) (by decide) (by decide)
    · exact absurd (Classical.not_not.mp hc5) (by rw [hl9]; exact nI_m1 (by have := lls_lt hl9; omega))
set_option maxRecDepth 20000 in
theorem ct_Mm_takeAway {E : zE} (hE : zEv E) {l : Launch} (hl : l.stackTraces = false) {D : zD} (hD : zDok E D) (V : Nat → Nat → Int32) (P : Nat → Nat → Value) (PH : aH) (F : Nat → Nat) (hF : okF F) (hz : ∀ k, k < 36 → V 38 k = nI (mo (F k))) (n : Nat) (hp : V 37 2 = nI n) (hn5 : n ≤ 5) (hst : V 38 36 = nI 0) (a : Nat) (ha : a < 36) (ha0 : F a ≠ 0) (sz : Nat) : zM E l y_Mm_takeAway [.code y_Mm_takeAway c_Mm_takeAway 3 (some .int)] rm_Mm_takeAway [.ref (D.1 37), .int (nI a)] (HM D V P PH) sz (zRet (some (.int (nI (wr (F a))))) (HM D (vset (vset (recM (vset V 37 8 (nI 0)) n) 38 (42 + sd (F a)) ((recM (vset V 37 8 (nI 0)) n) 38 (42 + sd (F a)) - nI (wr (F a)))) 38 a (nI 0)) P PH) sz) := by
  refine zM_of hE hl (by decide +kernel) [some (.ref (D.1 37)), some (.int (nI a)), none] ⟨rfl, rfl, Nat.le_of_ble_eq_true rfl⟩ ?_
  intro G C q htb
  have hFa := hF a ha
  have hsd := sd_le (F a)
  refine Z_run C it_Mm_takeAway 2 (f2 := (2, [some (.ref (D.1 37)), some (.int (nI a)), none], [.int (nI a), .ref (D.1 37)])) rfl ?_
  refine Zr_callS C it_Mm_takeAway rfl p_Mm_isSquare ml_Mm_94 [.int (nI a)] (ct_Mm_isSquare_t C.ev C.l a (by omega) (HM D V P PH) _) rfl rfl ⟨by decide, by decide, by decide, by decide⟩ (Nat.le_of_ble_eq_true rfl) rfl ?_
  show Z E G (HM D V P PH) sz 0 0 (5, [some (.ref (D.1 37)), some (.int (nI a)), none], [.int (nI 1), .ref (D.1 37)])
  refine Zr_callV C it_Mm_takeAway hD rfl p_Mm_asks ml_Mm_40 37 (by decide) rfl rfl [.int (nI 1)] (ct_Mm_asks_t C.ev C.l hD V P _ _) rfl rfl ⟨by decide, by decide, by decide, by decide⟩ (Nat.le_of_ble_eq_true rfl) rfl ?_
  show Z E G (HM D (vset V 37 8 (nI 0)) P PH) sz 0 0 (8, [some (.ref (D.1 37)), some (.int (nI a)), none], [.int (nI 1)])
  refine Z_run C it_Mm_takeAway 3 (f2 := (11, [some (.ref (D.1 37)), some (.int (nI a)), none], [.ref (D.1 37), .ref (D.1 37)])) rfl ?_
  refine Zm_get C it_Mm_takeAway hD rfl 37 wi_Mm (by decide) rfl rfl (j := 8) (by decide) fl_Mm_29 (v := .int (nI 0)) rfl ?_
  refine Z_br C it_Mm_takeAway rfl rfl (fun hc1 => absurd hc1 (by decide)) (fun hc1 => ?_)
  refine Z_run C it_Mm_takeAway 1 (f2 := (18, [some (.ref (D.1 37)), some (.int (nI a)), none], [.ref (D.1 37), .ref (D.1 37)])) rfl ?_
  refine Zm_get C it_Mm_takeAway hD rfl 37 wi_Mm (by decide) rfl rfl (j := 0) (by decide) fl_Mm_7 (v := .ref (D.1 38)) rfl ?_
  refine Z_run C it_Mm_takeAway 1 (f2 := (23, [some (.ref (D.1 37)), some (.int (nI a)), none], [.int (nI 36), .ref (D.1 38), .ref (D.1 37)])) rfl ?_
  refine Zm_ald C it_Mm_takeAway hD 38 10 rfl (by decide) rfl (by decide) (by decide) rfl (j := 36) (by omega) (v := .int (nI 0)) (congrArg Value.int hst) ?_
  refine Z_br C it_Mm_takeAway rfl rfl (fun hc2 => absurd hc2 (by decide)) (fun hc2 => ?_)
  refine Z_run C it_Mm_takeAway 1 (f2 := (28, [some (.ref (D.1 37)), some (.int (nI a)), none], [.ref (D.1 37), .ref (D.1 37)])) rfl ?_
  refine Zm_get C it_Mm_takeAway hD rfl 37 wi_Mm (by decide) rfl rfl (j := 0) (by decide) fl_Mm_7 (v := .ref (D.1 38)) rfl ?_
  refine Z_run C it_Mm_takeAway 1 (f2 := (32, [some (.ref (D.1 37)), some (.int (nI a)), none], [.int (nI a), .ref (D.1 38), .ref (D.1 37)])) rfl ?_
  refine Zm_ald C it_Mm_takeAway hD 38 10 rfl (by decide) rfl (by decide) (by decide) rfl (j := a) (by omega) (v := .int (nI (mo (F a)))) (congrArg Value.int (hz a (by omega))) ?_
  refine Z_br C it_Mm_takeAway rfl rfl (fun hc3 => ?_) (fun hc3 => ?_)
  · exact absurd ((mo_le0 (hF a ha)).mp hc3) ha0
  · skip
    refine Z_run C it_Mm_takeAway 3 (f2 := (42, [some (.ref (D.1 37)), some (.int (nI a)), none], [.int (nI 2), .int (nI 1), .ref (D.1 37)])) rfl ?_
    refine Zr_callV C it_Mm_takeAway hD rfl p_Mm_asksThen ml_Mm_97 37 (by decide) rfl rfl [.int (nI 1), .int (nI 2)] (ct_Mm_asksThen_t C.ev C.l hD (vset V 37 8 (nI 0)) P _ 2 rfl _) rfl rfl ⟨by decide, by decide, by decide, by decide⟩ (Nat.le_of_ble_eq_true rfl) rfl ?_
    show Z E G (HM D (vset (vset V 37 8 (nI 0)) 37 8 (nI 0)) P PH) sz 0 0 (45, [some (.ref (D.1 37)), some (.int (nI a)), none], [.int (nI 1)])
    refine Z_br C it_Mm_takeAway rfl rfl (fun hc4 => ?_) (fun hc4 => absurd (by decide) hc4)
    refine Z_run C it_Mm_takeAway 1 (f2 := (51, [some (.ref (D.1 37)), some (.int (nI a)), none], [.ref (D.1 37)])) rfl ?_
    refine Zr_callV C it_Mm_takeAway hD rfl p_Mm_record ml_Mm_85 37 (by decide) rfl rfl [] (ct_Mm_record C.ev C.l hD (vset (vset V 37 8 (nI 0)) 37 8 (nI 0)) P _ n hp hn5 _) rfl rfl ⟨by decide, by decide, by decide, by decide⟩ (Nat.le_of_ble_eq_true rfl) rfl ?_
    show Z E G (HM D (recM (vset (vset V 37 8 (nI 0)) 37 8 (nI 0)) n) P PH) sz 0 0 (54, [some (.ref (D.1 37)), some (.int (nI a)), none], [])
    have hzr : ∀ k, k < 36 → (recM (vset (vset V 37 8 (nI 0)) 37 8 (nI 0)) n) 38 k = nI (mo (F k)) := fun k hk => by rw [recM_o (by decide) (by decide)]; exact hz k hk
    refine Z_run C it_Mm_takeAway 1 (f2 := (55, [some (.ref (D.1 37)), some (.int (nI a)), none], [.ref (D.1 37)])) rfl ?_
    refine Zm_get C it_Mm_takeAway hD rfl 37 wi_Mm (by decide) rfl rfl (j := 0) (by decide) fl_Mm_7 (v := .ref (D.1 38)) rfl ?_
    refine Z_run C it_Mm_takeAway 1 (f2 := (59, [some (.ref (D.1 37)), some (.int (nI a)), none], [.int (nI a), .ref (D.1 38)])) rfl ?_
    refine Zm_ald C it_Mm_takeAway hD 38 10 rfl (by decide) rfl (by decide) (by decide) rfl (j := a) (by omega) (v := .int (nI (mo (F a)))) (congrArg Value.int (hzr a (by omega))) ?_
    refine Zr_callS C it_Mm_takeAway rfl p_Mm_worthOf ml_Mm_88 [.int (nI (mo (F a)))] (ct_Mm_worthOf C.ev C.l (F a) (by first | assumption | omega | exact hF _ (by omega)) (HM D (recM (vset (vset V 37 8 (nI 0)) 37 8 (nI 0)) n) P PH) _) rfl rfl ⟨by decide, by decide, by decide, by decide⟩ (Nat.le_of_ble_eq_true rfl) rfl ?_
    show Z E G (HM D (recM (vset (vset V 37 8 (nI 0)) 37 8 (nI 0)) n) P PH) sz 0 0 (63, [some (.ref (D.1 37)), some (.int (nI a)), none], [.int (nI (wr (F a)))])
    refine Z_run C it_Mm_takeAway 2 (f2 := (65, [some (.ref (D.1 37)), some (.int (nI a)), some (.int (nI (wr (F a))))], [.ref (D.1 37)])) rfl ?_
    refine Zm_get C it_Mm_takeAway hD rfl 37 wi_Mm (by decide) rfl rfl (j := 0) (by decide) fl_Mm_7 (v := .ref (D.1 38)) rfl ?_
    refine Z_run C it_Mm_takeAway 2 (f2 := (71, [some (.ref (D.1 37)), some (.int (nI a)), some (.int (nI (wr (F a))))], [.ref (D.1 37), .int (nI 42), .ref (D.1 38)])) rfl ?_
    refine Zm_get C it_Mm_takeAway hD rfl 37 wi_Mm (by decide) rfl rfl (j := 0) (by decide) fl_Mm_7 (v := .ref (D.1 38)) rfl ?_
    refine Z_run C it_Mm_takeAway 1 (f2 := (75, [some (.ref (D.1 37)), some (.int (nI a)), some (.int (nI (wr (F a))))], [.int (nI a), .ref (D.1 38), .int (nI 42), .ref (D.1 38)])) rfl ?_
    refine Zm_ald C it_Mm_takeAway hD 38 10 rfl (by decide) rfl (by decide) (by decide) rfl (j := a) (by omega) (v := .int (nI (mo (F a)))) (congrArg Value.int (hzr a (by omega))) ?_
    refine Zr_callS C it_Mm_takeAway rfl p_Mm_sideOf ml_Mm_58 [.int (nI (mo (F a)))] (ct_Mm_sideOf C.ev C.l (F a) (by first | assumption | omega | exact hF _ (by omega)) (HM D (recM (vset (vset V 37 8 (nI 0)) 37 8 (nI 0)) n) P PH) _) rfl rfl ⟨by decide, by decide, by decide, by decide⟩ (Nat.le_of_ble_eq_true rfl) rfl ?_
    show Z E G (HM D (recM (vset (vset V 37 8 (nI 0)) 37 8 (nI 0)) n) P PH) sz 0 0 (79, [some (.ref (D.1 37)), some (.int (nI a)), some (.int (nI (wr (F a))))], [.int (oI (sdo (F a))), .int (nI 42), .ref (D.1 38)])
    have e1 : oI (sdo (F a)) = nI (sd (F a)) := sdo_t ha0
    rw [e1]
    refine Z_run C it_Mm_takeAway 1 (f2 := (80, [some (.ref (D.1 37)), some (.int (nI a)), some (.int (nI (wr (F a))))], [.int (nI 42 + nI (sd (F a))), .ref (D.1 38)])) rfl ?_
    rw [nI_add 42 (sd (F a))]
    refine Z_run C it_Mm_takeAway 1 (f2 := (81, [some (.ref (D.1 37)), some (.int (nI a)), some (.int (nI (wr (F a))))], [.int (nI (42 + sd (F a))), .ref (D.1 38), .int (nI (42 + sd (F a))), .ref (D.1 38)])) rfl ?_
    refine Zm_ald C it_Mm_takeAway hD 38 10 rfl (by decide) rfl (by decide) (by decide) rfl (j := 42 + sd (F a)) (by omega) (v := .int ((recM (vset (vset V 37 8 (nI 0)) 37 8 (nI 0)) n) 38 (42 + sd (F a)))) rfl ?_
    refine Z_run C it_Mm_takeAway 2 (f2 := (84, [some (.ref (D.1 37)), some (.int (nI a)), some (.int (nI (wr (F a))))], [.int ((recM (vset (vset V 37 8 (nI 0)) 37 8 (nI 0)) n) 38 (42 + sd (F a)) - nI (wr (F a))), .int (nI (42 + sd (F a))), .ref (D.1 38)])) rfl ?_
    refine Zm_ast C it_Mm_takeAway hD 38 10 rfl (by first | decide | exact isB_k hb | omega) rfl (by decide) rfl (j := 42 + sd (F a)) (by omega) trivial rfl ?_
    refine Z_run C it_Mm_takeAway 1 (f2 := (86, [some (.ref (D.1 37)), some (.int (nI a)), some (.int (nI (wr (F a))))], [.ref (D.1 37)])) rfl ?_
    refine Zm_get C it_Mm_takeAway hD rfl 37 wi_Mm (by decide) rfl rfl (j := 0) (by decide) fl_Mm_7 (v := .ref (D.1 38)) rfl ?_
    refine Z_run C it_Mm_takeAway 2 (f2 := (91, [some (.ref (D.1 37)), some (.int (nI a)), some (.int (nI (wr (F a))))], [.int (nI 0), .int (nI a), .ref (D.1 38)])) rfl ?_
    refine Zm_ast C it_Mm_takeAway hD 38 10 rfl (by first | decide | exact isB_k hb | omega) rfl (by decide) rfl (j := a) (by omega) trivial rfl ?_
    refine Z_run C it_Mm_takeAway 1 (f2 := (93, [some (.ref (D.1 37)), some (.int (nI a)), some (.int (nI (wr (F a))))], [.int (nI (wr (F a)))])) rfl ?_
    exact Z_iret C q.e it_Mm_takeAway rfl (zRet_iH rfl (by simp only [vset_2])) (by decide) (by decide)
set_option maxRecDepth 20000 in
theorem ct_Mm_takeAway_x2 {E : zE} (hE : zEv E) {l : Launch} (hl : l.stackTraces = false) {D : zD} (hD : zDok E D) (V : Nat → Nat → Int32) (P : Nat → Nat → Value) (PH : aH) (F : Nat → Nat) (hF : okF F) (hz : ∀ k, k < 36 → V 38 k = nI (mo (F k))) (hst : V 38 36 = nI 1) (a : Nat) (ha : a < 36) (sz : Nat) : zM E l y_Mm_takeAway [.code y_Mm_takeAway c_Mm_takeAway 3 (some .int)] rm_Mm_takeAway [.ref (D.1 37), .int (nI a)] (HM D V P PH) sz (zRet (some (.int (nI 0))) (HM D (vset V 37 8 (nI 2)) P PH) sz) := by
  refine zM_of hE hl (by decide +kernel) [some (.ref (D.1 37)), some (.int (nI a)), none] ⟨rfl, rfl, Nat.le_of_ble_eq_true rfl⟩ ?_
  intro G C q htb
  refine Z_run C it_Mm_takeAway 2 (f2 := (2, [some (.ref (D.1 37)), some (.int (nI a)), none], [.int (nI a), .ref (D.1 37)])) rfl ?_
  refine Zr_callS C it_Mm_takeAway rfl p_Mm_isSquare ml_Mm_94 [.int (nI a)] (ct_Mm_isSquare_t C.ev C.l a (by omega) (HM D V P PH) _) rfl rfl ⟨by decide, by decide, by decide, by decide⟩ (Nat.le_of_ble_eq_true rfl) rfl ?_
  show Z E G (HM D V P PH) sz 0 0 (5, [some (.ref (D.1 37)), some (.int (nI a)), none], [.int (nI 1), .ref (D.1 37)])
  refine Zr_callV C it_Mm_takeAway hD rfl p_Mm_asks ml_Mm_40 37 (by decide) rfl rfl [.int (nI 1)] (ct_Mm_asks_t C.ev C.l hD V P _ _) rfl rfl ⟨by decide, by decide, by decide, by decide⟩ (Nat.le_of_ble_eq_true rfl) rfl ?_
  show Z E G (HM D (vset V 37 8 (nI 0)) P PH) sz 0 0 (8, [some (.ref (D.1 37)), some (.int (nI a)), none], [.int (nI 1)])
  refine Z_run C it_Mm_takeAway 3 (f2 := (11, [some (.ref (D.1 37)), some (.int (nI a)), none], [.ref (D.1 37), .ref (D.1 37)])) rfl ?_
  refine Zm_get C it_Mm_takeAway hD rfl 37 wi_Mm (by decide) rfl rfl (j := 8) (by decide) fl_Mm_29 (v := .int (nI 0)) rfl ?_
  refine Z_br C it_Mm_takeAway rfl rfl (fun hc1 => absurd hc1 (by decide)) (fun hc1 => ?_)
  refine Z_run C it_Mm_takeAway 1 (f2 := (18, [some (.ref (D.1 37)), some (.int (nI a)), none], [.ref (D.1 37), .ref (D.1 37)])) rfl ?_
  refine Zm_get C it_Mm_takeAway hD rfl 37 wi_Mm (by decide) rfl rfl (j := 0) (by decide) fl_Mm_7 (v := .ref (D.1 38)) rfl ?_
  refine Z_run C it_Mm_takeAway 1 (f2 := (23, [some (.ref (D.1 37)), some (.int (nI a)), none], [.int (nI 36), .ref (D.1 38), .ref (D.1 37)])) rfl ?_
  refine Zm_ald C it_Mm_takeAway hD 38 10 rfl (by decide) rfl (by decide) (by decide) rfl (j := 36) (by omega) (v := .int (nI 1)) (congrArg Value.int hst) ?_
  refine Z_br C it_Mm_takeAway rfl rfl (fun hc2 => ?_) (fun hc2 => absurd (by decide) hc2)
  refine Z_run C it_Mm_takeAway 2 (f2 := (42, [some (.ref (D.1 37)), some (.int (nI a)), none], [.int (nI 2), .int (nI 0), .ref (D.1 37)])) rfl ?_
  refine Zr_callV C it_Mm_takeAway hD rfl p_Mm_asksThen ml_Mm_97 37 (by decide) rfl rfl [.int (nI 0), .int (nI 2)] (ct_Mm_asksThen_f C.ev C.l hD (vset V 37 8 (nI 0)) P _ 2 (by decide) (by decide) rfl _) rfl rfl ⟨by decide, by decide, by decide, by decide⟩ (Nat.le_of_ble_eq_true rfl) rfl ?_
  show Z E G (HM D (vset (vset V 37 8 (nI 0)) 37 8 (nI 2)) P PH) sz 0 0 (45, [some (.ref (D.1 37)), some (.int (nI a)), none], [.int (nI 0)])
  refine Z_br C it_Mm_takeAway rfl rfl (fun hc3 => absurd hc3 (by decide)) (fun hc3 => ?_)
  refine Z_run C it_Mm_takeAway 1 (f2 := (49, [some (.ref (D.1 37)), some (.int (nI a)), none], [.int (nI 0)])) rfl ?_
  exact Z_iret C q.e it_Mm_takeAway rfl (zRet_iH rfl (by first | rfl | (simp only [vset_2]))) (by decide) (by decide)
set_option maxRecDepth 20000 in
theorem ct_Mm_takeAway_x3 {E : zE} (hE : zEv E) {l : Launch} (hl : l.stackTraces = false) {D : zD} (hD : zDok E D) (V : Nat → Nat → Int32) (P : Nat → Nat → Value) (PH : aH) (F : Nat → Nat) (hF : okF F) (hz : ∀ k, k < 36 → V 38 k = nI (mo (F k))) (hst : V 38 36 = nI 0) (a : Nat) (ha : a < 36) (ha0 : F a = 0) (sz : Nat) : zM E l y_Mm_takeAway [.code y_Mm_takeAway c_Mm_takeAway 3 (some .int)] rm_Mm_takeAway [.ref (D.1 37), .int (nI a)] (HM D V P PH) sz (zRet (some (.int (nI 0))) (HM D (vset V 37 8 (nI 2)) P PH) sz) := by
  refine zM_of hE hl (by decide +kernel) [some (.ref (D.1 37)), some (.int (nI a)), none] ⟨rfl, rfl, Nat.le_of_ble_eq_true rfl⟩ ?_
  intro G C q htb
  refine Z_run C it_Mm_takeAway 2 (f2 := (2, [some (.ref (D.1 37)), some (.int (nI a)), none], [.int (nI a), .ref (D.1 37)])) rfl ?_
  refine Zr_callS C it_Mm_takeAway rfl p_Mm_isSquare ml_Mm_94 [.int (nI a)] (ct_Mm_isSquare_t C.ev C.l a (by omega) (HM D V P PH) _) rfl rfl ⟨by decide, by decide, by decide, by decide⟩ (Nat.le_of_ble_eq_true rfl) rfl ?_
  show Z E G (HM D V P PH) sz 0 0 (5, [some (.ref (D.1 37)), some (.int (nI a)), none], [.int (nI 1), .ref (D.1 37)])
  refine Zr_callV C it_Mm_takeAway hD rfl p_Mm_asks ml_Mm_40 37 (by decide) rfl rfl [.int (nI 1)] (ct_Mm_asks_t C.ev C.l hD V P _ _) rfl rfl ⟨by decide, by decide, by decide, by decide⟩ (Nat.le_of_ble_eq_true rfl) rfl ?_
  show Z E G (HM D (vset V 37 8 (nI 0)) P PH) sz 0 0 (8, [some (.ref (D.1 37)), some (.int (nI a)), none], [.int (nI 1)])
  refine Z_run C it_Mm_takeAway 3 (f2 := (11, [some (.ref (D.1 37)), some (.int (nI a)), none], [.ref (D.1 37), .ref (D.1 37)])) rfl ?_
  refine Zm_get C it_Mm_takeAway hD rfl 37 wi_Mm (by decide) rfl rfl (j := 8) (by decide) fl_Mm_29 (v := .int (nI 0)) rfl ?_
  refine Z_br C it_Mm_takeAway rfl rfl (fun hc1 => absurd hc1 (by decide)) (fun hc1 => ?_)
  refine Z_run C it_Mm_takeAway 1 (f2 := (18, [some (.ref (D.1 37)), some (.int (nI a)), none], [.ref (D.1 37), .ref (D.1 37)])) rfl ?_
  refine Zm_get C it_Mm_takeAway hD rfl 37 wi_Mm (by decide) rfl rfl (j := 0) (by decide) fl_Mm_7 (v := .ref (D.1 38)) rfl ?_
  refine Z_run C it_Mm_takeAway 1 (f2 := (23, [some (.ref (D.1 37)), some (.int (nI a)), none], [.int (nI 36), .ref (D.1 38), .ref (D.1 37)])) rfl ?_
  refine Zm_ald C it_Mm_takeAway hD 38 10 rfl (by decide) rfl (by decide) (by decide) rfl (j := 36) (by omega) (v := .int (nI 0)) (congrArg Value.int hst) ?_
  refine Z_br C it_Mm_takeAway rfl rfl (fun hc2 => absurd hc2 (by decide)) (fun hc2 => ?_)
  refine Z_run C it_Mm_takeAway 1 (f2 := (28, [some (.ref (D.1 37)), some (.int (nI a)), none], [.ref (D.1 37), .ref (D.1 37)])) rfl ?_
  refine Zm_get C it_Mm_takeAway hD rfl 37 wi_Mm (by decide) rfl rfl (j := 0) (by decide) fl_Mm_7 (v := .ref (D.1 38)) rfl ?_
  refine Z_run C it_Mm_takeAway 1 (f2 := (32, [some (.ref (D.1 37)), some (.int (nI a)), none], [.int (nI a), .ref (D.1 38), .ref (D.1 37)])) rfl ?_
  refine Zm_ald C it_Mm_takeAway hD 38 10 rfl (by decide) rfl (by decide) (by decide) rfl (j := a) (by omega) (v := .int (nI (mo (F a)))) (congrArg Value.int (hz a (by omega))) ?_
  refine Z_br C it_Mm_takeAway rfl rfl (fun hc3 => ?_) (fun hc3 => ?_)
  · skip
    refine Z_run C it_Mm_takeAway 2 (f2 := (42, [some (.ref (D.1 37)), some (.int (nI a)), none], [.int (nI 2), .int (nI 0), .ref (D.1 37)])) rfl ?_
    refine Zr_callV C it_Mm_takeAway hD rfl p_Mm_asksThen ml_Mm_97 37 (by decide) rfl rfl [.int (nI 0), .int (nI 2)] (ct_Mm_asksThen_f C.ev C.l hD (vset V 37 8 (nI 0)) P _ 2 (by decide) (by decide) rfl _) rfl rfl ⟨by decide, by decide, by decide, by decide⟩ (Nat.le_of_ble_eq_true rfl) rfl ?_
    show Z E G (HM D (vset (vset V 37 8 (nI 0)) 37 8 (nI 2)) P PH) sz 0 0 (45, [some (.ref (D.1 37)), some (.int (nI a)), none], [.int (nI 0)])
    refine Z_br C it_Mm_takeAway rfl rfl (fun hc4 => absurd hc4 (by decide)) (fun hc4 => ?_)
    refine Z_run C it_Mm_takeAway 1 (f2 := (49, [some (.ref (D.1 37)), some (.int (nI a)), none], [.int (nI 0)])) rfl ?_
    exact Z_iret C q.e it_Mm_takeAway rfl (zRet_iH rfl (by first | rfl | (simp only [vset_2]))) (by decide) (by decide)
  · exact absurd ((mo_le0 (hF a ha)).mpr ha0) hc3
set_option maxRecDepth 20000 in
theorem ct_Mm_takeAway_x1 {E : zE} (hE : zEv E) {l : Launch} (hl : l.stackTraces = false) {D : zD} (hD : zDok E D) (V : Nat → Nat → Int32) (P : Nat → Nat → Value) (PH : aH) (a : Nat) (h32 : a < 4294967296) (ha : 36 ≤ a) (sz : Nat) : zM E l y_Mm_takeAway [.code y_Mm_takeAway c_Mm_takeAway 3 (some .int)] rm_Mm_takeAway [.ref (D.1 37), .int (nI a)] (HM D V P PH) sz (zRet (some (.int (nI 0))) (HM D (vset V 37 8 (nI 1)) P PH) sz) := by
  refine zM_of hE hl (by decide +kernel) [some (.ref (D.1 37)), some (.int (nI a)), none] ⟨rfl, rfl, Nat.le_of_ble_eq_true rfl⟩ ?_
  intro G C q htb
  refine Z_run C it_Mm_takeAway 2 (f2 := (2, [some (.ref (D.1 37)), some (.int (nI a)), none], [.int (nI a), .ref (D.1 37)])) rfl ?_
  refine Zr_callS C it_Mm_takeAway rfl p_Mm_isSquare ml_Mm_94 [.int (nI a)] (ct_Mm_isSquare_f C.ev C.l a (by omega) (by omega) (HM D V P PH) _) rfl rfl ⟨by decide, by decide, by decide, by decide⟩ (Nat.le_of_ble_eq_true rfl) rfl ?_
  show Z E G (HM D V P PH) sz 0 0 (5, [some (.ref (D.1 37)), some (.int (nI a)), none], [.int (nI 0), .ref (D.1 37)])
  refine Zr_callV C it_Mm_takeAway hD rfl p_Mm_asks ml_Mm_40 37 (by decide) rfl rfl [.int (nI 0)] (ct_Mm_asks_f C.ev C.l hD V P _ _) rfl rfl ⟨by decide, by decide, by decide, by decide⟩ (Nat.le_of_ble_eq_true rfl) rfl ?_
  show Z E G (HM D (vset V 37 8 (nI 1)) P PH) sz 0 0 (8, [some (.ref (D.1 37)), some (.int (nI a)), none], [.int (nI 0)])
  refine Z_run C it_Mm_takeAway 3 (f2 := (11, [some (.ref (D.1 37)), some (.int (nI a)), none], [.ref (D.1 37), .ref (D.1 37)])) rfl ?_
  refine Zm_get C it_Mm_takeAway hD rfl 37 wi_Mm (by decide) rfl rfl (j := 8) (by decide) fl_Mm_29 (v := .int (nI 1)) rfl ?_
  refine Z_br C it_Mm_takeAway rfl rfl (fun hc1 => ?_) (fun hc1 => absurd (by decide) hc1)
  refine Z_run C it_Mm_takeAway 3 (f2 := (42, [some (.ref (D.1 37)), some (.int (nI a)), none], [.int (nI 2), .int (nI 1), .ref (D.1 37)])) rfl ?_
  refine Zr_callV C it_Mm_takeAway hD rfl p_Mm_asksThen ml_Mm_97 37 (by decide) rfl rfl [.int (nI 1), .int (nI 2)] (ct_Mm_asksThen_k C.ev C.l hD (vset V 37 8 (nI 1)) P _ 1 (by decide) (by decide) (nI 1) 2 rfl _) rfl rfl ⟨by decide, by decide, by decide, by decide⟩ (Nat.le_of_ble_eq_true rfl) rfl ?_
  show Z E G (HM D (vset (vset V 37 8 (nI 1)) 37 8 (nI 1)) P PH) sz 0 0 (45, [some (.ref (D.1 37)), some (.int (nI a)), none], [.int (nI 0)])
  refine Z_br C it_Mm_takeAway rfl rfl (fun hc2 => absurd hc2 (by decide)) (fun hc2 => ?_)
  refine Z_run C it_Mm_takeAway 1 (f2 := (49, [some (.ref (D.1 37)), some (.int (nI a)), none], [.int (nI 0)])) rfl ?_
  exact Z_iret C q.e it_Mm_takeAway rfl (zRet_iH rfl (by first | rfl | (simp only [vset_2]))) (by decide) (by decide)
set_option maxRecDepth 20000 in
theorem ct_Mm_move {E : zE} (hE : zEv E) {l : Launch} (hl : l.stackTraces = false) {D : zD} (hD : zDok E D) (V : Nat → Nat → Int32) (P : Nat → Nat → Value) (PH : aH) (F : Nat → Nat) (hF : okF F) (hz : ∀ k, k < 36 → V 38 k = nI (mo (F k))) (n : Nat) (hp : V 37 2 = nI n) (hn5 : n ≤ 5) (st : Bool) (hst : V 38 36 = bI st) (ov : Bool) (hov : V 38 37 = bI ov) (mv : Nat → Nat) (tn md bs : Nat) (htn : tn < 2) (hmd9 : md < 6300) (hbm : bs ≤ md) (hml : ∀ k, k < md → mv k < 1296) (htn9 : V 38 39 = nI tn) (hmd : V 38 40 = nI md) (hbs : V 38 41 = nI bs) (hmv : ∀ k, k < md → V 40 k = nI (mv k)) (a : Nat) (ha : a < 36) (ha0 : F a ≠ 0) (b : Nat) (hb : b < 36) (hab : a ≠ b) (hw0 : whm st ov F tn a b = 0) (sz : Nat) : zM E l y_Mm_move [.code y_Mm_move c_Mm_move 3 (some .int)] rm_Mm_move [.ref (D.1 37), .int (nI a), .int (nI b)] (HM D V P PH) sz (zEmv D (recM (vset V 37 8 (nI 0)) n) P PH sz (nI (wr (F b))) (mvR (V 38) F mv tn md bs a b) (upd (V 40) md (nI (36 * a + b)))) := by
  refine zM_of hE hl (by decide +kernel) [some (.ref (D.1 37)), some (.int (nI a)), some (.int (nI b))] ⟨rfl, rfl, Nat.le_of_ble_eq_true rfl⟩ ?_
  intro G C q htb
  refine Z_run C it_Mm_move 2 (f2 := (2, [some (.ref (D.1 37)), some (.int (nI a)), some (.int (nI b))], [.int (nI a), .ref (D.1 37)])) rfl ?_
  refine Zr_callS C it_Mm_move rfl p_Mm_isSquare ml_Mm_94 [.int (nI a)] (ct_Mm_isSquare_t C.ev C.l a (by omega) (HM D V P PH) _) rfl rfl ⟨by decide, by decide, by decide, by decide⟩ (Nat.le_of_ble_eq_true rfl) rfl ?_
  show Z E G (HM D V P PH) sz 0 0 (5, [some (.ref (D.1 37)), some (.int (nI a)), some (.int (nI b))], [.int (nI 1), .ref (D.1 37)])
  refine Z_br C it_Mm_move rfl rfl (fun hc1 => absurd hc1 (by decide)) (fun hc1 => ?_)
  refine Z_run C it_Mm_move 1 (f2 := (9, [some (.ref (D.1 37)), some (.int (nI a)), some (.int (nI b))], [.int (nI b), .ref (D.1 37)])) rfl ?_
  refine Zr_callS C it_Mm_move rfl p_Mm_isSquare ml_Mm_94 [.int (nI b)] (ct_Mm_isSquare_t C.ev C.l b (by omega) (HM D V P PH) _) rfl rfl ⟨by decide, by decide, by decide, by decide⟩ (Nat.le_of_ble_eq_true rfl) rfl ?_
  show Z E G (HM D V P PH) sz 0 0 (12, [some (.ref (D.1 37)), some (.int (nI a)), some (.int (nI b))], [.int (nI 1), .ref (D.1 37)])
  refine Z_br C it_Mm_move rfl rfl (fun hc2 => absurd hc2 (by decide)) (fun hc2 => ?_)
  refine Z_run C it_Mm_move 2 (f2 := (20, [some (.ref (D.1 37)), some (.int (nI a)), some (.int (nI b))], [.int (nI 1), .ref (D.1 37)])) rfl ?_
  refine Zr_callV C it_Mm_move hD rfl p_Mm_asks ml_Mm_40 37 (by decide) rfl rfl [.int (nI 1)] (ct_Mm_asks_t C.ev C.l hD V P _ _) rfl rfl ⟨by decide, by decide, by decide, by decide⟩ (Nat.le_of_ble_eq_true rfl) rfl ?_
  show Z E G (HM D (vset V 37 8 (nI 0)) P PH) sz 0 0 (23, [some (.ref (D.1 37)), some (.int (nI a)), some (.int (nI b))], [.int (nI 1)])
  refine Z_run C it_Mm_move 3 (f2 := (26, [some (.ref (D.1 37)), some (.int (nI a)), some (.int (nI b))], [.ref (D.1 37), .ref (D.1 37)])) rfl ?_
  refine Zm_get C it_Mm_move hD rfl 37 wi_Mm (by decide) rfl rfl (j := 8) (by decide) fl_Mm_29 (v := .int (nI 0)) rfl ?_
  refine Z_br C it_Mm_move rfl rfl (fun hc3 => absurd hc3 (by decide)) (fun hc3 => ?_)
  refine Z_run C it_Mm_move 3 (f2 := (35, [some (.ref (D.1 37)), some (.int (nI a)), some (.int (nI b))], [.int (nI b), .int (nI a), .ref (D.1 37), .ref (D.1 37)])) rfl ?_
  refine Zr_callV C it_Mm_move hD rfl p_Mm_why ml_Mm_122 37 (by decide) rfl rfl [.int (nI a), .int (nI b)] (ct_Mm_why_z C.ev C.l hD (vset V 37 8 (nI 0)) P _ F hF hz st hst ov hov tn htn htn9 a (by omega) b (by omega) _) rfl rfl ⟨by decide, by decide, by decide, by decide⟩ (Nat.le_of_ble_eq_true rfl) rfl ?_
  show Z E G (HM D (vset V 37 8 (nI 0)) P PH) sz 0 0 (38, [some (.ref (D.1 37)), some (.int (nI a)), some (.int (nI b))], [.int (nI (whm st ov F tn a b)), .ref (D.1 37)])
  refine Z_br C it_Mm_move rfl rfl (fun hc4 => ?_) (fun hc4 => ?_)
  · exact absurd (show nI (whm st ov F tn a b) = 0 by rw [hw0]; rfl) hc4
  · skip
    refine Z_run C it_Mm_move 3 (f2 := (47, [some (.ref (D.1 37)), some (.int (nI a)), some (.int (nI b))], [.int (nI 2), .int (nI 1), .ref (D.1 37)])) rfl ?_
    refine Zr_callV C it_Mm_move hD rfl p_Mm_asksThen ml_Mm_97 37 (by decide) rfl rfl [.int (nI 1), .int (nI 2)] (ct_Mm_asksThen_t C.ev C.l hD (vset V 37 8 (nI 0)) P _ 2 rfl _) rfl rfl ⟨by decide, by decide, by decide, by decide⟩ (Nat.le_of_ble_eq_true rfl) rfl ?_
    show Z E G (HM D (vset (vset V 37 8 (nI 0)) 37 8 (nI 0)) P PH) sz 0 0 (50, [some (.ref (D.1 37)), some (.int (nI a)), some (.int (nI b))], [.int (nI 1)])
    refine Z_br C it_Mm_move rfl rfl (fun hc5 => ?_) (fun hc5 => absurd (by decide) hc5)
    refine Z_run C it_Mm_move 1 (f2 := (56, [some (.ref (D.1 37)), some (.int (nI a)), some (.int (nI b))], [.ref (D.1 37)])) rfl ?_
    refine Zr_callV C it_Mm_move hD rfl p_Mm_record ml_Mm_85 37 (by decide) rfl rfl [] (ct_Mm_record C.ev C.l hD (vset (vset V 37 8 (nI 0)) 37 8 (nI 0)) P _ n hp hn5 _) rfl rfl ⟨by decide, by decide, by decide, by decide⟩ (Nat.le_of_ble_eq_true rfl) rfl ?_
    show Z E G (HM D (recM (vset (vset V 37 8 (nI 0)) 37 8 (nI 0)) n) P PH) sz 0 0 (59, [some (.ref (D.1 37)), some (.int (nI a)), some (.int (nI b))], [])
    have hzr : ∀ k, k < 36 → (recM (vset (vset V 37 8 (nI 0)) 37 8 (nI 0)) n) 38 k = nI (mo (F k)) := fun k hk => by rw [recM_o (by decide) (by decide)]; exact hz k hk
    refine Z_run C it_Mm_move 3 (f2 := (62, [some (.ref (D.1 37)), some (.int (nI a)), some (.int (nI b))], [.int (nI b), .int (nI a), .ref (D.1 37)])) rfl ?_
    refine Zr_emV C it_Mm_move hD rfl p_Mm_moves ml_Mm_125 37 (by decide) rfl rfl [.int (nI a), .int (nI b)] (ct_Mm_moves C.ev C.l hD (recM (vset (vset V 37 8 (nI 0)) 37 8 (nI 0)) n) P _ F hF hzr mv tn md bs htn hmd9 hbm hml (by rw [recM_o (by decide) (by decide)]; exact htn9) (by rw [recM_o (by decide) (by decide)]; exact hmd) (by rw [recM_o (by decide) (by decide)]; exact hbs) (fun k hk => by rw [recM_o (by decide) (by decide)]; exact hmv k hk) a ha ha0 b hb hab _) rfl rfl ⟨by decide, by decide, by decide, by decide⟩ (Nat.le_of_ble_eq_true rfl) rfl (fun V2 hV2 h38 h40 => ?_)
    show Z E G (HM D V2 P PH) sz 0 0 (65, [some (.ref (D.1 37)), some (.int (nI a)), some (.int (nI b))], [.int (nI (wr (F b)))])
    exact Z_iret C q.e it_Mm_move rfl (⟨rfl, rfl, _, rfl, fun c h1 h2 h3 h4 => by rw [hV2 c h1 h2 h3 h4]; simp only [vset_2], by rw [h38, recM_o (by decide) (by decide)]; rfl, by rw [h40, recM_o (by decide) (by decide)]; rfl⟩) (by decide) (by decide)
set_option maxRecDepth 20000 in
theorem ct_Mm_move_x3 {E : zE} (hE : zEv E) {l : Launch} (hl : l.stackTraces = false) {D : zD} (hD : zDok E D) (V : Nat → Nat → Int32) (P : Nat → Nat → Value) (PH : aH) (F : Nat → Nat) (hF : okF F) (hz : ∀ k, k < 36 → V 38 k = nI (mo (F k))) (st : Bool) (hst : V 38 36 = bI st) (ov : Bool) (hov : V 38 37 = bI ov) (tn : Nat) (htn : tn < 2) (htn9 : V 38 39 = nI tn) (a : Nat) (ha : a < 36) (b : Nat) (hb : b < 36) (hw0 : whm st ov F tn a b ≠ 0) (hw9 : whm st ov F tn a b < 100) (sz : Nat) : zM E l y_Mm_move [.code y_Mm_move c_Mm_move 3 (some .int)] rm_Mm_move [.ref (D.1 37), .int (nI a), .int (nI b)] (HM D V P PH) sz (zRet (some (.int (nI 0))) (HM D (vset V 37 8 (nI 2)) P PH) sz) := by
  refine zM_of hE hl (by decide +kernel) [some (.ref (D.1 37)), some (.int (nI a)), some (.int (nI b))] ⟨rfl, rfl, Nat.le_of_ble_eq_true rfl⟩ ?_
  intro G C q htb
  refine Z_run C it_Mm_move 2 (f2 := (2, [some (.ref (D.1 37)), some (.int (nI a)), some (.int (nI b))], [.int (nI a), .ref (D.1 37)])) rfl ?_
  refine Zr_callS C it_Mm_move rfl p_Mm_isSquare ml_Mm_94 [.int (nI a)] (ct_Mm_isSquare_t C.ev C.l a (by omega) (HM D V P PH) _) rfl rfl ⟨by decide, by decide, by decide, by decide⟩ (Nat.le_of_ble_eq_true rfl) rfl ?_
  show Z E G (HM D V P PH) sz 0 0 (5, [some (.ref (D.1 37)), some (.int (nI a)), some (.int (nI b))], [.int (nI 1), .ref (D.1 37)])
  refine Z_br C it_Mm_move rfl rfl (fun hc1 => absurd hc1 (by decide)) (fun hc1 => ?_)
  refine Z_run C it_Mm_move 1 (f2 := (9, [some (.ref (D.1 37)), some (.int (nI a)), some (.int (nI b))], [.int (nI b), .ref (D.1 37)])) rfl ?_
  refine Zr_callS C it_Mm_move rfl p_Mm_isSquare ml_Mm_94 [.int (nI b)] (ct_Mm_isSquare_t C.ev C.l b (by omega) (HM D V P PH) _) rfl rfl ⟨by decide, by decide, by decide, by decide⟩ (Nat.le_of_ble_eq_true rfl) rfl ?_
  show Z E G (HM D V P PH) sz 0 0 (12, [some (.ref (D.1 37)), some (.int (nI a)), some (.int (nI b))], [.int (nI 1), .ref (D.1 37)])
  refine Z_br C it_Mm_move rfl rfl (fun hc2 => absurd hc2 (by decide)) (fun hc2 => ?_)
  refine Z_run C it_Mm_move 2 (f2 := (20, [some (.ref (D.1 37)), some (.int (nI a)), some (.int (nI b))], [.int (nI 1), .ref (D.1 37)])) rfl ?_
  refine Zr_callV C it_Mm_move hD rfl p_Mm_asks ml_Mm_40 37 (by decide) rfl rfl [.int (nI 1)] (ct_Mm_asks_t C.ev C.l hD V P _ _) rfl rfl ⟨by decide, by decide, by decide, by decide⟩ (Nat.le_of_ble_eq_true rfl) rfl ?_
  show Z E G (HM D (vset V 37 8 (nI 0)) P PH) sz 0 0 (23, [some (.ref (D.1 37)), some (.int (nI a)), some (.int (nI b))], [.int (nI 1)])
  refine Z_run C it_Mm_move 3 (f2 := (26, [some (.ref (D.1 37)), some (.int (nI a)), some (.int (nI b))], [.ref (D.1 37), .ref (D.1 37)])) rfl ?_
  refine Zm_get C it_Mm_move hD rfl 37 wi_Mm (by decide) rfl rfl (j := 8) (by decide) fl_Mm_29 (v := .int (nI 0)) rfl ?_
  refine Z_br C it_Mm_move rfl rfl (fun hc3 => absurd hc3 (by decide)) (fun hc3 => ?_)
  refine Z_run C it_Mm_move 3 (f2 := (35, [some (.ref (D.1 37)), some (.int (nI a)), some (.int (nI b))], [.int (nI b), .int (nI a), .ref (D.1 37), .ref (D.1 37)])) rfl ?_
  refine Zr_callV C it_Mm_move hD rfl p_Mm_why ml_Mm_122 37 (by decide) rfl rfl [.int (nI a), .int (nI b)] (ct_Mm_why_z C.ev C.l hD (vset V 37 8 (nI 0)) P _ F hF hz st hst ov hov tn htn htn9 a (by omega) b (by omega) _) rfl rfl ⟨by decide, by decide, by decide, by decide⟩ (Nat.le_of_ble_eq_true rfl) rfl ?_
  show Z E G (HM D (vset V 37 8 (nI 0)) P PH) sz 0 0 (38, [some (.ref (D.1 37)), some (.int (nI a)), some (.int (nI b))], [.int (nI (whm st ov F tn a b)), .ref (D.1 37)])
  refine Z_br C it_Mm_move rfl rfl (fun hc4 => ?_) (fun hc4 => ?_)
  · skip
    refine Z_run C it_Mm_move 2 (f2 := (47, [some (.ref (D.1 37)), some (.int (nI a)), some (.int (nI b))], [.int (nI 2), .int (nI 0), .ref (D.1 37)])) rfl ?_
    refine Zr_callV C it_Mm_move hD rfl p_Mm_asksThen ml_Mm_97 37 (by decide) rfl rfl [.int (nI 0), .int (nI 2)] (ct_Mm_asksThen_f C.ev C.l hD (vset V 37 8 (nI 0)) P _ 2 (by decide) (by decide) rfl _) rfl rfl ⟨by decide, by decide, by decide, by decide⟩ (Nat.le_of_ble_eq_true rfl) rfl ?_
    show Z E G (HM D (vset (vset V 37 8 (nI 0)) 37 8 (nI 2)) P PH) sz 0 0 (50, [some (.ref (D.1 37)), some (.int (nI a)), some (.int (nI b))], [.int (nI 0)])
    refine Z_br C it_Mm_move rfl rfl (fun hc5 => absurd hc5 (by decide)) (fun hc5 => ?_)
    refine Z_run C it_Mm_move 1 (f2 := (54, [some (.ref (D.1 37)), some (.int (nI a)), some (.int (nI b))], [.int (nI 0)])) rfl ?_
    exact Z_iret C q.e it_Mm_move rfl (zRet_iH rfl (by first | rfl | (simp only [vset_2]))) (by decide) (by decide)
  · exact absurd ((nI_e0 (by omega)).mp (Classical.not_not.mp hc4)) hw0
set_option maxRecDepth 20000 in
theorem ct_Mm_move_x1 {E : zE} (hE : zEv E) {l : Launch} (hl : l.stackTraces = false) {D : zD} (hD : zDok E D) (V : Nat → Nat → Int32) (P : Nat → Nat → Value) (PH : aH) (a : Nat) (h32 : a < 4294967296) (ha : 36 ≤ a) (xb : Int32) (sz : Nat) : zM E l y_Mm_move [.code y_Mm_move c_Mm_move 3 (some .int)] rm_Mm_move [.ref (D.1 37), .int (nI a), .int xb] (HM D V P PH) sz (zRet (some (.int (nI 0))) (HM D (vset V 37 8 (nI 1)) P PH) sz) := by
  refine zM_of hE hl (by decide +kernel) [some (.ref (D.1 37)), some (.int (nI a)), some (.int xb)] ⟨rfl, rfl, Nat.le_of_ble_eq_true rfl⟩ ?_
  intro G C q htb
  refine Z_run C it_Mm_move 2 (f2 := (2, [some (.ref (D.1 37)), some (.int (nI a)), some (.int xb)], [.int (nI a), .ref (D.1 37)])) rfl ?_
  refine Zr_callS C it_Mm_move rfl p_Mm_isSquare ml_Mm_94 [.int (nI a)] (ct_Mm_isSquare_f C.ev C.l a (by omega) (by omega) (HM D V P PH) _) rfl rfl ⟨by decide, by decide, by decide, by decide⟩ (Nat.le_of_ble_eq_true rfl) rfl ?_
  show Z E G (HM D V P PH) sz 0 0 (5, [some (.ref (D.1 37)), some (.int (nI a)), some (.int xb)], [.int (nI 0), .ref (D.1 37)])
  refine Z_br C it_Mm_move rfl rfl (fun hc1 => ?_) (fun hc1 => absurd (by decide) hc1)
  refine Z_run C it_Mm_move 1 (f2 := (20, [some (.ref (D.1 37)), some (.int (nI a)), some (.int xb)], [.int (nI 0), .ref (D.1 37)])) rfl ?_
  refine Zr_callV C it_Mm_move hD rfl p_Mm_asks ml_Mm_40 37 (by decide) rfl rfl [.int (nI 0)] (ct_Mm_asks_f C.ev C.l hD V P _ _) rfl rfl ⟨by decide, by decide, by decide, by decide⟩ (Nat.le_of_ble_eq_true rfl) rfl ?_
  show Z E G (HM D (vset V 37 8 (nI 1)) P PH) sz 0 0 (23, [some (.ref (D.1 37)), some (.int (nI a)), some (.int xb)], [.int (nI 0)])
  refine Z_run C it_Mm_move 3 (f2 := (26, [some (.ref (D.1 37)), some (.int (nI a)), some (.int xb)], [.ref (D.1 37), .ref (D.1 37)])) rfl ?_
  refine Zm_get C it_Mm_move hD rfl 37 wi_Mm (by decide) rfl rfl (j := 8) (by decide) fl_Mm_29 (v := .int (nI 1)) rfl ?_
  refine Z_br C it_Mm_move rfl rfl (fun hc2 => ?_) (fun hc2 => absurd (by decide) hc2)
  refine Z_run C it_Mm_move 3 (f2 := (47, [some (.ref (D.1 37)), some (.int (nI a)), some (.int xb)], [.int (nI 2), .int (nI 1), .ref (D.1 37)])) rfl ?_
  refine Zr_callV C it_Mm_move hD rfl p_Mm_asksThen ml_Mm_97 37 (by decide) rfl rfl [.int (nI 1), .int (nI 2)] (ct_Mm_asksThen_k C.ev C.l hD (vset V 37 8 (nI 1)) P _ 1 (by decide) (by decide) (nI 1) 2 rfl _) rfl rfl ⟨by decide, by decide, by decide, by decide⟩ (Nat.le_of_ble_eq_true rfl) rfl ?_
  show Z E G (HM D (vset (vset V 37 8 (nI 1)) 37 8 (nI 1)) P PH) sz 0 0 (50, [some (.ref (D.1 37)), some (.int (nI a)), some (.int xb)], [.int (nI 0)])
  refine Z_br C it_Mm_move rfl rfl (fun hc3 => absurd hc3 (by decide)) (fun hc3 => ?_)
  refine Z_run C it_Mm_move 1 (f2 := (54, [some (.ref (D.1 37)), some (.int (nI a)), some (.int xb)], [.int (nI 0)])) rfl ?_
  exact Z_iret C q.e it_Mm_move rfl (zRet_iH rfl (by first | rfl | (simp only [vset_2]))) (by decide) (by decide)
set_option maxRecDepth 20000 in
theorem ct_Mm_move_x2 {E : zE} (hE : zEv E) {l : Launch} (hl : l.stackTraces = false) {D : zD} (hD : zDok E D) (V : Nat → Nat → Int32) (P : Nat → Nat → Value) (PH : aH) (a : Nat) (ha : a < 36) (b : Nat) (h32 : b < 4294967296) (hb : 36 ≤ b) (sz : Nat) : zM E l y_Mm_move [.code y_Mm_move c_Mm_move 3 (some .int)] rm_Mm_move [.ref (D.1 37), .int (nI a), .int (nI b)] (HM D V P PH) sz (zRet (some (.int (nI 0))) (HM D (vset V 37 8 (nI 1)) P PH) sz) := by
  refine zM_of hE hl (by decide +kernel) [some (.ref (D.1 37)), some (.int (nI a)), some (.int (nI b))] ⟨rfl, rfl, Nat.le_of_ble_eq_true rfl⟩ ?_
  intro G C q htb
  refine Z_run C it_Mm_move 2 (f2 := (2, [some (.ref (D.1 37)), some (.int (nI a)), some (.int (nI b))], [.int (nI a), .ref (D.1 37)])) rfl ?_
  refine Zr_callS C it_Mm_move rfl p_Mm_isSquare ml_Mm_94 [.int (nI a)] (ct_Mm_isSquare_t C.ev C.l a (by omega) (HM D V P PH) _) rfl rfl ⟨by decide, by decide, by decide, by decide⟩ (Nat.le_of_ble_eq_true rfl) rfl ?_
  show Z E G (HM D V P PH) sz 0 0 (5, [some (.ref (D.1 37)), some (.int (nI a)), some (.int (nI b))], [.int (nI 1), .ref (D.1 37)])
  refine Z_br C it_Mm_move rfl rfl (fun hc1 => absurd hc1 (by decide)) (fun hc1 => ?_)
  refine Z_run C it_Mm_move 1 (f2 := (9, [some (.ref (D.1 37)), some (.int (nI a)), some (.int (nI b))], [.int (nI b), .ref (D.1 37)])) rfl ?_
  refine Zr_callS C it_Mm_move rfl p_Mm_isSquare ml_Mm_94 [.int (nI b)] (ct_Mm_isSquare_f C.ev C.l b (by omega) (by omega) (HM D V P PH) _) rfl rfl ⟨by decide, by decide, by decide, by decide⟩ (Nat.le_of_ble_eq_true rfl) rfl ?_
  show Z E G (HM D V P PH) sz 0 0 (12, [some (.ref (D.1 37)), some (.int (nI a)), some (.int (nI b))], [.int (nI 0), .ref (D.1 37)])
  refine Z_br C it_Mm_move rfl rfl (fun hc2 => ?_) (fun hc2 => absurd (by decide) hc2)
  refine Z_run C it_Mm_move 1 (f2 := (20, [some (.ref (D.1 37)), some (.int (nI a)), some (.int (nI b))], [.int (nI 0), .ref (D.1 37)])) rfl ?_
  refine Zr_callV C it_Mm_move hD rfl p_Mm_asks ml_Mm_40 37 (by decide) rfl rfl [.int (nI 0)] (ct_Mm_asks_f C.ev C.l hD V P _ _) rfl rfl ⟨by decide, by decide, by decide, by decide⟩ (Nat.le_of_ble_eq_true rfl) rfl ?_
  show Z E G (HM D (vset V 37 8 (nI 1)) P PH) sz 0 0 (23, [some (.ref (D.1 37)), some (.int (nI a)), some (.int (nI b))], [.int (nI 0)])
  refine Z_run C it_Mm_move 3 (f2 := (26, [some (.ref (D.1 37)), some (.int (nI a)), some (.int (nI b))], [.ref (D.1 37), .ref (D.1 37)])) rfl ?_
  refine Zm_get C it_Mm_move hD rfl 37 wi_Mm (by decide) rfl rfl (j := 8) (by decide) fl_Mm_29 (v := .int (nI 1)) rfl ?_
  refine Z_br C it_Mm_move rfl rfl (fun hc3 => ?_) (fun hc3 => absurd (by decide) hc3)
  refine Z_run C it_Mm_move 3 (f2 := (47, [some (.ref (D.1 37)), some (.int (nI a)), some (.int (nI b))], [.int (nI 2), .int (nI 1), .ref (D.1 37)])) rfl ?_
  refine Zr_callV C it_Mm_move hD rfl p_Mm_asksThen ml_Mm_97 37 (by decide) rfl rfl [.int (nI 1), .int (nI 2)] (ct_Mm_asksThen_k C.ev C.l hD (vset V 37 8 (nI 1)) P _ 1 (by decide) (by decide) (nI 1) 2 rfl _) rfl rfl ⟨by decide, by decide, by decide, by decide⟩ (Nat.le_of_ble_eq_true rfl) rfl ?_
  show Z E G (HM D (vset (vset V 37 8 (nI 1)) 37 8 (nI 1)) P PH) sz 0 0 (50, [some (.ref (D.1 37)), some (.int (nI a)), some (.int (nI b))], [.int (nI 0)])
  refine Z_br C it_Mm_move rfl rfl (fun hc4 => absurd hc4 (by decide)) (fun hc4 => ?_)
  refine Z_run C it_Mm_move 1 (f2 := (54, [some (.ref (D.1 37)), some (.int (nI a)), some (.int (nI b))], [.int (nI 0)])) rfl ?_
  exact Z_iret C q.e it_Mm_move rfl (zRet_iH rfl (by first | rfl | (simp only [vset_2]))) (by decide) (by decide)
