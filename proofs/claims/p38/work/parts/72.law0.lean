/-! ===== the law: from its set up to its loop ===== -/
set_option maxRecDepth 20000 in
theorem gd_106 {E : zE} {G : zG} {nm : String} (C : zCx E G code 19 R_Lw nm (some .boolean) room_1) {D : zD} (hD : zDok E D) (hL : D.2.2.1 ≤ 260) {V : Nat → Nat → Int32} {P : Nat → Nat → Value} {PH : aH} {sz : Nat} {F : Nat → Nat} (hG : GS D V P PH sz F [(0, pq4 F, 1)] 0 0 (mvs F 0 36 == 0) none) (hpq : okpq F (V 37) (V 38)) (h39 : V 39 2 = -101 ∧ V 39 3 = nI 0 ∧ V 39 4 = nI 0) (hac : ∀ s, s < 2 → V 5 s = V 39 (7 + s) ∧ V 4 s = V 39 (5 + s) - V 39 (8 - s) + V 39 (9 + s)) (hld0 : ∃ x, x < 36 ∧ F x ≠ 0) {k n : Nat} (hk : k ≤ 600000) (hn : n ≤ 7300000) (kk : ∀ (V2 : Nat → Nat → Int32) (P2 : Nat → Nat → Value), LW D V2 P2 PH sz F (fun _ => F) 0 (mvs F 0 36 == 0) none → Z E G (HM D V2 P2 PH) sz k n (173, [some (.ref (D.1 52)), some (.ref (D.1 0)), some (.ref (D.1 37)), some (.ref (D.1 38)), some (.ref (D.1 39)), some (.ref (D.1 40)), some (.ref (D.1 41)), some (.ref (D.1 42)), some (.ref (D.1 43)), some (.int (nI 1)), some (.int (nI 0)), none, none, none, none, none, none, none, none], [])) : Z E G (HM D V P PH) sz k n (106, [some (.ref (D.1 52)), some (.ref (D.1 0)), some (.ref (D.1 37)), some (.ref (D.1 38)), some (.ref (D.1 39)), some (.ref (D.1 40)), some (.ref (D.1 41)), some (.ref (D.1 42)), some (.ref (D.1 43)), none, none, none, none, none, none, none, none, none, none], []) := by
  have hmv := mvs_le F 0 (Nat.le_refl 36)
  refine Z_run C it_Lb 5 (f2 := (112, [some (.ref (D.1 52)), some (.ref (D.1 0)), some (.ref (D.1 37)), some (.ref (D.1 38)), some (.ref (D.1 39)), some (.ref (D.1 40)), some (.ref (D.1 41)), some (.ref (D.1 42)), some (.ref (D.1 43)), none, none, none, none, none, none, none, none, none, none], [.int (nI 0), .ref (D.1 38), .ref (D.1 37), .int (nI 1), .ref (D.1 39)])) rfl ?_
  refine Zr_callS C it_Lb rfl p_Lw_moves ml_Lw_87 [.ref (D.1 37), .ref (D.1 38), .int (nI 0)] (ct_Lw_moves C.ev C.l F _ _ hpq (HM D V P PH) _ _ (HR_37 hD (show V 37 = V 37 from rfl)) (HR_38 hD (show V 38 = V 38 from rfl)) 0 (by omega) _) rfl rfl ⟨by decide, by decide, by show k + 0 + 0 ≤ 600130; omega, by show n + 0 + 0 ≤ 7301080; omega⟩ (Nat.le_of_ble_eq_true rfl) rfl ?_
  show Z E G (HM D V P PH) sz k n (115, [some (.ref (D.1 52)), some (.ref (D.1 0)), some (.ref (D.1 37)), some (.ref (D.1 38)), some (.ref (D.1 39)), some (.ref (D.1 40)), some (.ref (D.1 41)), some (.ref (D.1 42)), some (.ref (D.1 43)), none, none, none, none, none, none, none, none, none, none], [.int (nI (mvs F 0 36)), .int (nI 1), .ref (D.1 39)])
  refine Z_br C it_Lb rfl rfl (fun hc1 => ?_) (fun hc1 => ?_)
  · replace hc1 : ¬ _ := fun z9 => hc1 ((nI_e0 (a := mvs F 0 36) (by omega)).mpr z9)
    refine Z_run C it_Lb 1 (f2 := (123, [some (.ref (D.1 52)), some (.ref (D.1 0)), some (.ref (D.1 37)), some (.ref (D.1 38)), some (.ref (D.1 39)), some (.ref (D.1 40)), some (.ref (D.1 41)), some (.ref (D.1 42)), some (.ref (D.1 43)), none, none, none, none, none, none, none, none, none, none], [.int (nI 0), .int (nI 1), .ref (D.1 39)])) rfl ?_
    have e9 : nI 0 = bI (mvs F 0 36 == 0) := bI_f (by simp only [beq_iff_eq, beq_eq_false_iff_ne]; omega)
    refine Zm_ast C it_Lb hD 39 10 rfl (by first | decide | exact isB_k hb | omega) rfl (by decide) rfl (j := 1) (by omega) trivial rfl ?_
    refine Z_run C it_Lb 5 (f2 := (130, [some (.ref (D.1 52)), some (.ref (D.1 0)), some (.ref (D.1 37)), some (.ref (D.1 38)), some (.ref (D.1 39)), some (.ref (D.1 40)), some (.ref (D.1 41)), some (.ref (D.1 42)), some (.ref (D.1 43)), none, none, none, none, none, none, none, none, none, none], [.int (nI 0), .ref (D.1 38), .ref (D.1 37), .int (nI 0), .ref (D.1 40)])) rfl ?_
    refine Zr_callS C it_Lb rfl p_Lw_board ml_Lw_145 [.ref (D.1 37), .ref (D.1 38), .int (nI 0)] (ct_Lw_board C.ev C.l F _ _ hpq (HM D (vset V 39 1 (nI 0)) P PH) _ _ (HR_37 hD (show (vset V 39 1 (nI 0)) 37 = V 37 from rfl)) (HR_38 hD (show (vset V 39 1 (nI 0)) 38 = V 38 from rfl)) 0 (by decide) _) rfl rfl ⟨by decide, by decide, by show k + 0 + 0 ≤ 600130; omega, by show n + 0 + 0 ≤ 7301080; omega⟩ (Nat.le_of_ble_eq_true rfl) rfl ?_
    show Z E G (HM D (vset V 39 1 (nI 0)) P PH) sz k n (133, [some (.ref (D.1 52)), some (.ref (D.1 0)), some (.ref (D.1 37)), some (.ref (D.1 38)), some (.ref (D.1 39)), some (.ref (D.1 40)), some (.ref (D.1 41)), some (.ref (D.1 42)), some (.ref (D.1 43)), none, none, none, none, none, none, none, none, none, none], [.long (lN (qtr F 0 9)), .int (nI 0), .ref (D.1 40)])
    refine Zm_astr C it_Lb hD 40 11 rfl (by first | decide | exact isB_k hb | omega) rfl (by decide) rfl (j := 0) (by omega) trivial rfl ?_
    refine Z_run C it_Lb 5 (f2 := (141, [some (.ref (D.1 52)), some (.ref (D.1 0)), some (.ref (D.1 37)), some (.ref (D.1 38)), some (.ref (D.1 39)), some (.ref (D.1 40)), some (.ref (D.1 41)), some (.ref (D.1 42)), some (.ref (D.1 43)), none, none, none, none, none, none, none, none, none, none], [.int (nI 9), .ref (D.1 38), .ref (D.1 37), .int (nI 0), .ref (D.1 41)])) rfl ?_
    refine Zr_callS C it_Lb rfl p_Lw_board ml_Lw_145 [.ref (D.1 37), .ref (D.1 38), .int (nI 9)] (ct_Lw_board C.ev C.l F _ _ hpq (HM D (vset V 39 1 (nI 0)) (pset P 40 0 (.long (lN (qtr F 0 9)))) PH) _ _ (HR_37 hD (show (vset V 39 1 (nI 0)) 37 = V 37 from rfl)) (HR_38 hD (show (vset V 39 1 (nI 0)) 38 = V 38 from rfl)) 1 (by decide) _) rfl rfl ⟨by decide, by decide, by show k + 0 + 0 ≤ 600130; omega, by show n + 0 + 0 ≤ 7301080; omega⟩ (Nat.le_of_ble_eq_true rfl) rfl ?_
    show Z E G (HM D (vset V 39 1 (nI 0)) (pset P 40 0 (.long (lN (qtr F 0 9)))) PH) sz k n (144, [some (.ref (D.1 52)), some (.ref (D.1 0)), some (.ref (D.1 37)), some (.ref (D.1 38)), some (.ref (D.1 39)), some (.ref (D.1 40)), some (.ref (D.1 41)), some (.ref (D.1 42)), some (.ref (D.1 43)), none, none, none, none, none, none, none, none, none, none], [.long (lN (qtr F 1 9)), .int (nI 0), .ref (D.1 41)])
    refine Zm_astr C it_Lb hD 41 11 rfl (by first | decide | exact isB_k hb | omega) rfl (by decide) rfl (j := 0) (by omega) trivial rfl ?_
    refine Z_run C it_Lb 5 (f2 := (152, [some (.ref (D.1 52)), some (.ref (D.1 0)), some (.ref (D.1 37)), some (.ref (D.1 38)), some (.ref (D.1 39)), some (.ref (D.1 40)), some (.ref (D.1 41)), some (.ref (D.1 42)), some (.ref (D.1 43)), none, none, none, none, none, none, none, none, none, none], [.int (nI 18), .ref (D.1 38), .ref (D.1 37), .int (nI 0), .ref (D.1 42)])) rfl ?_
    refine Zr_callS C it_Lb rfl p_Lw_board ml_Lw_145 [.ref (D.1 37), .ref (D.1 38), .int (nI 18)] (ct_Lw_board C.ev C.l F _ _ hpq (HM D (vset V 39 1 (nI 0)) (pset (pset P 40 0 (.long (lN (qtr F 0 9)))) 41 0 (.long (lN (qtr F 1 9)))) PH) _ _ (HR_37 hD (show (vset V 39 1 (nI 0)) 37 = V 37 from rfl)) (HR_38 hD (show (vset V 39 1 (nI 0)) 38 = V 38 from rfl)) 2 (by decide) _) rfl rfl ⟨by decide, by decide, by show k + 0 + 0 ≤ 600130; omega, by show n + 0 + 0 ≤ 7301080; omega⟩ (Nat.le_of_ble_eq_true rfl) rfl ?_
    show Z E G (HM D (vset V 39 1 (nI 0)) (pset (pset P 40 0 (.long (lN (qtr F 0 9)))) 41 0 (.long (lN (qtr F 1 9)))) PH) sz k n (155, [some (.ref (D.1 52)), some (.ref (D.1 0)), some (.ref (D.1 37)), some (.ref (D.1 38)), some (.ref (D.1 39)), some (.ref (D.1 40)), some (.ref (D.1 41)), some (.ref (D.1 42)), some (.ref (D.1 43)), none, none, none, none, none, none, none, none, none, none], [.long (lN (qtr F 2 9)), .int (nI 0), .ref (D.1 42)])
    refine Zm_astr C it_Lb hD 42 11 rfl (by first | decide | exact isB_k hb | omega) rfl (by decide) rfl (j := 0) (by omega) trivial rfl ?_
    refine Z_run C it_Lb 5 (f2 := (163, [some (.ref (D.1 52)), some (.ref (D.1 0)), some (.ref (D.1 37)), some (.ref (D.1 38)), some (.ref (D.1 39)), some (.ref (D.1 40)), some (.ref (D.1 41)), some (.ref (D.1 42)), some (.ref (D.1 43)), none, none, none, none, none, none, none, none, none, none], [.int (nI 27), .ref (D.1 38), .ref (D.1 37), .int (nI 0), .ref (D.1 43)])) rfl ?_
    refine Zr_callS C it_Lb rfl p_Lw_board ml_Lw_145 [.ref (D.1 37), .ref (D.1 38), .int (nI 27)] (ct_Lw_board C.ev C.l F _ _ hpq (HM D (vset V 39 1 (nI 0)) (pset (pset (pset P 40 0 (.long (lN (qtr F 0 9)))) 41 0 (.long (lN (qtr F 1 9)))) 42 0 (.long (lN (qtr F 2 9)))) PH) _ _ (HR_37 hD (show (vset V 39 1 (nI 0)) 37 = V 37 from rfl)) (HR_38 hD (show (vset V 39 1 (nI 0)) 38 = V 38 from rfl)) 3 (by decide) _) rfl rfl ⟨by decide, by decide, by show k + 0 + 0 ≤ 600130; omega, by show n + 0 + 0 ≤ 7301080; omega⟩ (Nat.le_of_ble_eq_true rfl) rfl ?_
    show Z E G (HM D (vset V 39 1 (nI 0)) (pset (pset (pset P 40 0 (.long (lN (qtr F 0 9)))) 41 0 (.long (lN (qtr F 1 9)))) 42 0 (.long (lN (qtr F 2 9)))) PH) sz k n (166, [some (.ref (D.1 52)), some (.ref (D.1 0)), some (.ref (D.1 37)), some (.ref (D.1 38)), some (.ref (D.1 39)), some (.ref (D.1 40)), some (.ref (D.1 41)), some (.ref (D.1 42)), some (.ref (D.1 43)), none, none, none, none, none, none, none, none, none, none], [.long (lN (qtr F 3 9)), .int (nI 0), .ref (D.1 43)])
    refine Zm_astr C it_Lb hD 43 11 rfl (by first | decide | exact isB_k hb | omega) rfl (by decide) rfl (j := 0) (by omega) trivial rfl ?_
    refine Z_run C it_Lb 4 (f2 := (173, [some (.ref (D.1 52)), some (.ref (D.1 0)), some (.ref (D.1 37)), some (.ref (D.1 38)), some (.ref (D.1 39)), some (.ref (D.1 40)), some (.ref (D.1 41)), some (.ref (D.1 42)), some (.ref (D.1 43)), some (.int (nI 1)), some (.int (nI 0)), none, none, none, none, none, none, none, none], [])) rfl ?_
    obtain ⟨V2, eV2⟩ : ∃ V2 : Nat → Nat → Int32, (vset V 39 1 (nI 0)) = V2 := ⟨_, rfl⟩
    obtain ⟨P2, eP2⟩ : ∃ P2 : Nat → Nat → Value, (pset (pset (pset (pset P 40 0 (.long (lN (qtr F 0 9)))) 41 0 (.long (lN (qtr F 1 9)))) 42 0 (.long (lN (qtr F 2 9)))) 43 0 (.long (lN (qtr F 3 9)))) = P2 := ⟨_, rfl⟩
    have g39 : V2 39 = upd (V 39) 1 (bI (mvs F 0 36 == 0)) := by rw [← eV2, ← e9]; rfl
    have gc : ∀ c, c ≠ 39 → V2 c = V c := fun c h9 => by rw [← eV2, vset_n h9]
    have gp : ∀ c, c ≤ 33 → P2 c = P c := fun c h9 => by rw [← eP2, pset_n (by omega), pset_n (by omega), pset_n (by omega), pset_n (by omega)]
    have p0 : P2 40 = updV (P 40) 0 (.long (lN (qtr F 0 9))) := by rw [← eP2]; rfl
    have p1 : P2 41 = updV (P 41) 0 (.long (lN (qtr F 1 9))) := by rw [← eP2]; rfl
    have p2 : P2 42 = updV (P 42) 0 (.long (lN (qtr F 2 9))) := by rw [← eP2]; rfl
    have p3 : P2 43 = updV (P 43) 0 (.long (lN (qtr F 3 9))) := by rw [← eP2]; rfl
    rw [eV2, eP2]
    refine kk V2 P2 ⟨⟨GS_fr hG (fun c h9 => gc c (by omega)) gp, by rw [gc 37 (by decide), gc 38 (by decide)]; exact hpq, ⟨?_, ?_, ?_, ?_⟩, fun s hs => ?_, fun j hj i hi => ?_⟩, ⟨rfl, fun _ => hpq.1⟩, fun _ => rfl, hld0⟩
    · rw [g39, upd_s]
    · rw [g39, upd_n (by decide)]; exact h39.1
    · rw [g39, upd_n (by decide)]; exact h39.2.1
    · rw [g39, upd_n (by decide)]; exact h39.2.2
    · rw [gc 4 (by decide), gc 5 (by decide), g39, upd_n (by omega), upd_n (by omega), upd_n (by omega), upd_n (by omega)]; exact hac s hs
    · rw [show j = 0 by omega]
      rcases (show i = 0 ∨ i = 1 ∨ i = 2 ∨ i = 3 by omega) with rfl | rfl | rfl | rfl
      · rw [p0, updV_s9]; rfl
      · rw [p1, updV_s9]; rfl
      · rw [p2, updV_s9]; rfl
      · rw [p3, updV_s9]; rfl
  · replace hc1 := Classical.not_not.mp hc1
    replace hc1 := (nI_e0 (a := mvs F 0 36) (by omega)).mp hc1
    refine Z_run C it_Lb 2 (f2 := (123, [some (.ref (D.1 52)), some (.ref (D.1 0)), some (.ref (D.1 37)), some (.ref (D.1 38)), some (.ref (D.1 39)), some (.ref (D.1 40)), some (.ref (D.1 41)), some (.ref (D.1 42)), some (.ref (D.1 43)), none, none, none, none, none, none, none, none, none, none], [.int (nI 1), .int (nI 1), .ref (D.1 39)])) rfl ?_
    have e9 : nI 1 = bI (mvs F 0 36 == 0) := bI_t (by simp only [beq_iff_eq, beq_eq_false_iff_ne]; omega)
    refine Zm_ast C it_Lb hD 39 10 rfl (by first | decide | exact isB_k hb | omega) rfl (by decide) rfl (j := 1) (by omega) trivial rfl ?_
    refine Z_run C it_Lb 5 (f2 := (130, [some (.ref (D.1 52)), some (.ref (D.1 0)), some (.ref (D.1 37)), some (.ref (D.1 38)), some (.ref (D.1 39)), some (.ref (D.1 40)), some (.ref (D.1 41)), some (.ref (D.1 42)), some (.ref (D.1 43)), none, none, none, none, none, none, none, none, none, none], [.int (nI 0), .ref (D.1 38), .ref (D.1 37), .int (nI 0), .ref (D.1 40)])) rfl ?_
    refine Zr_callS C it_Lb rfl p_Lw_board ml_Lw_145 [.ref (D.1 37), .ref (D.1 38), .int (nI 0)] (ct_Lw_board C.ev C.l F _ _ hpq (HM D (vset V 39 1 (nI 1)) P PH) _ _ (HR_37 hD (show (vset V 39 1 (nI 1)) 37 = V 37 from rfl)) (HR_38 hD (show (vset V 39 1 (nI 1)) 38 = V 38 from rfl)) 0 (by decide) _) rfl rfl ⟨by decide, by decide, by show k + 0 + 0 ≤ 600130; omega, by show n + 0 + 0 ≤ 7301080; omega⟩ (Nat.le_of_ble_eq_true rfl) rfl ?_
    show Z E G (HM D (vset V 39 1 (nI 1)) P PH) sz k n (133, [some (.ref (D.1 52)), some (.ref (D.1 0)), some (.ref (D.1 37)), some (.ref (D.1 38)), some (.ref (D.1 39)), some (.ref (D.1 40)), some (.ref (D.1 41)), some (.ref (D.1 42)), some (.ref (D.1 43)), none, none, none, none, none, none, none, none, none, none], [.long (lN (qtr F 0 9)), .int (nI 0), .ref (D.1 40)])
    refine Zm_astr C it_Lb hD 40 11 rfl (by first | decide | exact isB_k hb | omega) rfl (by decide) rfl (j := 0) (by omega) trivial rfl ?_
    refine Z_run C it_Lb 5 (f2 := (141, [some (.ref (D.1 52)), some (.ref (D.1 0)), some (.ref (D.1 37)), some (.ref (D.1 38)), some (.ref (D.1 39)), some (.ref (D.1 40)), some (.ref (D.1 41)), some (.ref (D.1 42)), some (.ref (D.1 43)), none, none, none, none, none, none, none, none, none, none], [.int (nI 9), .ref (D.1 38), .ref (D.1 37), .int (nI 0), .ref (D.1 41)])) rfl ?_
    refine Zr_callS C it_Lb rfl p_Lw_board ml_Lw_145 [.ref (D.1 37), .ref (D.1 38), .int (nI 9)] (ct_Lw_board C.ev C.l F _ _ hpq (HM D (vset V 39 1 (nI 1)) (pset P 40 0 (.long (lN (qtr F 0 9)))) PH) _ _ (HR_37 hD (show (vset V 39 1 (nI 1)) 37 = V 37 from rfl)) (HR_38 hD (show (vset V 39 1 (nI 1)) 38 = V 38 from rfl)) 1 (by decide) _) rfl rfl ⟨by decide, by decide, by show k + 0 + 0 ≤ 600130; omega, by show n + 0 + 0 ≤ 7301080; omega⟩ (Nat.le_of_ble_eq_true rfl) rfl ?_
    show Z E G (HM D (vset V 39 1 (nI 1)) (pset P 40 0 (.long (lN (qtr F 0 9)))) PH) sz k n (144, [some (.ref (D.1 52)), some (.ref (D.1 0)), some (.ref (D.1 37)), some (.ref (D.1 38)), some (.ref (D.1 39)), some (.ref (D.1 40)), some (.ref (D.1 41)), some (.ref (D.1 42)), some (.ref (D.1 43)), none, none, none, none, none, none, none, none, none, none], [.long (lN (qtr F 1 9)), .int (nI 0), .ref (D.1 41)])
    refine Zm_astr C it_Lb hD 41 11 rfl (by first | decide | exact isB_k hb | omega) rfl (by decide) rfl (j := 0) (by omega) trivial rfl ?_
    refine Z_run C it_Lb 5 (f2 := (152, [some (.ref (D.1 52)), some (.ref (D.1 0)), some (.ref (D.1 37)), some (.ref (D.1 38)), some (.ref (D.1 39)), some (.ref (D.1 40)), some (.ref (D.1 41)), some (.ref (D.1 42)), some (.ref (D.1 43)), none, none, none, none, none, none, none, none, none, none], [.int (nI 18), .ref (D.1 38), .ref (D.1 37), .int (nI 0), .ref (D.1 42)])) rfl ?_
    refine Zr_callS C it_Lb rfl p_Lw_board ml_Lw_145 [.ref (D.1 37), .ref (D.1 38), .int (nI 18)] (ct_Lw_board C.ev C.l F _ _ hpq (HM D (vset V 39 1 (nI 1)) (pset (pset P 40 0 (.long (lN (qtr F 0 9)))) 41 0 (.long (lN (qtr F 1 9)))) PH) _ _ (HR_37 hD (show (vset V 39 1 (nI 1)) 37 = V 37 from rfl)) (HR_38 hD (show (vset V 39 1 (nI 1)) 38 = V 38 from rfl)) 2 (by decide) _) rfl rfl ⟨by decide, by decide, by show k + 0 + 0 ≤ 600130; omega, by show n + 0 + 0 ≤ 7301080; omega⟩ (Nat.le_of_ble_eq_true rfl) rfl ?_
    show Z E G (HM D (vset V 39 1 (nI 1)) (pset (pset P 40 0 (.long (lN (qtr F 0 9)))) 41 0 (.long (lN (qtr F 1 9)))) PH) sz k n (155, [some (.ref (D.1 52)), some (.ref (D.1 0)), some (.ref (D.1 37)), some (.ref (D.1 38)), some (.ref (D.1 39)), some (.ref (D.1 40)), some (.ref (D.1 41)), some (.ref (D.1 42)), some (.ref (D.1 43)), none, none, none, none, none, none, none, none, none, none], [.long (lN (qtr F 2 9)), .int (nI 0), .ref (D.1 42)])
    refine Zm_astr C it_Lb hD 42 11 rfl (by first | decide | exact isB_k hb | omega) rfl (by decide) rfl (j := 0) (by omega) trivial rfl ?_
    refine Z_run C it_Lb 5 (f2 := (163, [some (.ref (D.1 52)), some (.ref (D.1 0)), some (.ref (D.1 37)), some (.ref (D.1 38)), some (.ref (D.1 39)), some (.ref (D.1 40)), some (.ref (D.1 41)), some (.ref (D.1 42)), some (.ref (D.1 43)), none, none, none, none, none, none, none, none, none, none], [.int (nI 27), .ref (D.1 38), .ref (D.1 37), .int (nI 0), .ref (D.1 43)])) rfl ?_
    refine Zr_callS C it_Lb rfl p_Lw_board ml_Lw_145 [.ref (D.1 37), .ref (D.1 38), .int (nI 27)] (ct_Lw_board C.ev C.l F _ _ hpq (HM D (vset V 39 1 (nI 1)) (pset (pset (pset P 40 0 (.long (lN (qtr F 0 9)))) 41 0 (.long (lN (qtr F 1 9)))) 42 0 (.long (lN (qtr F 2 9)))) PH) _ _ (HR_37 hD (show (vset V 39 1 (nI 1)) 37 = V 37 from rfl)) (HR_38 hD (show (vset V 39 1 (nI 1)) 38 = V 38 from rfl)) 3 (by decide) _) rfl rfl ⟨by decide, by decide, by show k + 0 + 0 ≤ 600130; omega, by show n + 0 + 0 ≤ 7301080; omega⟩ (Nat.le_of_ble_eq_true rfl) rfl ?_
    show Z E G (HM D (vset V 39 1 (nI 1)) (pset (pset (pset P 40 0 (.long (lN (qtr F 0 9)))) 41 0 (.long (lN (qtr F 1 9)))) 42 0 (.long (lN (qtr F 2 9)))) PH) sz k n (166, [some (.ref (D.1 52)), some (.ref (D.1 0)), some (.ref (D.1 37)), some (.ref (D.1 38)), some (.ref (D.1 39)), some (.ref (D.1 40)), some (.ref (D.1 41)), some (.ref (D.1 42)), some (.ref (D.1 43)), none, none, none, none, none, none, none, none, none, none], [.long (lN (qtr F 3 9)), .int (nI 0), .ref (D.1 43)])
    refine Zm_astr C it_Lb hD 43 11 rfl (by first | decide | exact isB_k hb | omega) rfl (by decide) rfl (j := 0) (by omega) trivial rfl ?_
    refine Z_run C it_Lb 4 (f2 := (173, [some (.ref (D.1 52)), some (.ref (D.1 0)), some (.ref (D.1 37)), some (.ref (D.1 38)), some (.ref (D.1 39)), some (.ref (D.1 40)), some (.ref (D.1 41)), some (.ref (D.1 42)), some (.ref (D.1 43)), some (.int (nI 1)), some (.int (nI 0)), none, none, none, none, none, none, none, none], [])) rfl ?_
    obtain ⟨V2, eV2⟩ : ∃ V2 : Nat → Nat → Int32, (vset V 39 1 (nI 1)) = V2 := ⟨_, rfl⟩
    obtain ⟨P2, eP2⟩ : ∃ P2 : Nat → Nat → Value, (pset (pset (pset (pset P 40 0 (.long (lN (qtr F 0 9)))) 41 0 (.long (lN (qtr F 1 9)))) 42 0 (.long (lN (qtr F 2 9)))) 43 0 (.long (lN (qtr F 3 9)))) = P2 := ⟨_, rfl⟩
    have g39 : V2 39 = upd (V 39) 1 (bI (mvs F 0 36 == 0)) := by rw [← eV2, ← e9]; rfl
    have gc : ∀ c, c ≠ 39 → V2 c = V c := fun c h9 => by rw [← eV2, vset_n h9]
    have gp : ∀ c, c ≤ 33 → P2 c = P c := fun c h9 => by rw [← eP2, pset_n (by omega), pset_n (by omega), pset_n (by omega), pset_n (by omega)]
    have p0 : P2 40 = updV (P 40) 0 (.long (lN (qtr F 0 9))) := by rw [← eP2]; rfl
    have p1 : P2 41 = updV (P 41) 0 (.long (lN (qtr F 1 9))) := by rw [← eP2]; rfl
    have p2 : P2 42 = updV (P 42) 0 (.long (lN (qtr F 2 9))) := by rw [← eP2]; rfl
    have p3 : P2 43 = updV (P 43) 0 (.long (lN (qtr F 3 9))) := by rw [← eP2]; rfl
    rw [eV2, eP2]
    refine kk V2 P2 ⟨⟨GS_fr hG (fun c h9 => gc c (by omega)) gp, by rw [gc 37 (by decide), gc 38 (by decide)]; exact hpq, ⟨?_, ?_, ?_, ?_⟩, fun s hs => ?_, fun j hj i hi => ?_⟩, ⟨rfl, fun _ => hpq.1⟩, fun _ => rfl, hld0⟩
    · rw [g39, upd_s]
    · rw [g39, upd_n (by decide)]; exact h39.1
    · rw [g39, upd_n (by decide)]; exact h39.2.1
    · rw [g39, upd_n (by decide)]; exact h39.2.2
    · rw [gc 4 (by decide), gc 5 (by decide), g39, upd_n (by omega), upd_n (by omega), upd_n (by omega), upd_n (by omega)]; exact hac s hs
    · rw [show j = 0 by omega]
      rcases (show i = 0 ∨ i = 1 ∨ i = 2 ∨ i = 3 by omega) with rfl | rfl | rfl | rfl
      · rw [p0, updV_s9]; rfl
      · rw [p1, updV_s9]; rfl
      · rw [p2, updV_s9]; rfl
      · rw [p3, updV_s9]; rfl
set_option maxRecDepth 20000 in
theorem gd_54 {E : zE} {G : zG} {nm : String} (C : zCx E G code 19 R_Lw nm (some .boolean) room_1) {D : zD} (hD : zDok E D) (hL : D.2.2.1 ≤ 260) {V : Nat → Nat → Int32} {P : Nat → Nat → Value} {PH : aH} {sz : Nat} {F0 : Nat → Nat} (hS : SU D V P PH sz F0 0) (hend : ∀ (h : aH) (sz k n : Nat) (ls : zL), k ≤ 600130 → n ≤ 7301080 → Z E G h sz k n (1011, ls, [.int (nI 1)])) {K N : Nat} (hK : K ≤ 7000) (hN : N ≤ 60000) : Z E G (HM D V P PH) sz K N (54, [some (.ref (D.1 52)), some (.ref (D.1 0)), some (.ref (D.1 37)), some (.ref (D.1 38)), some (.ref (D.1 39)), some (.ref (D.1 40)), some (.ref (D.1 41)), some (.ref (D.1 42)), some (.ref (D.1 43)), none, none, none, none, none, none, none, none, none, none], []) := by
  refine Z_run C it_La 5 (f2 := (60, [some (.ref (D.1 52)), some (.ref (D.1 0)), some (.ref (D.1 37)), some (.ref (D.1 38)), some (.ref (D.1 39)), some (.ref (D.1 40)), some (.ref (D.1 41)), some (.ref (D.1 42)), some (.ref (D.1 43)), none, none, none, none, none, none, none, none, none, none], [.ref (D.1 52), .ref (D.1 39), .ref (D.1 38), .ref (D.1 37), .ref (D.1 0)])) rfl ?_
  refine Z_callS C it_La rfl p_Lw_setUp ml_Lw_130 [.ref (D.1 0), .ref (D.1 37), .ref (D.1 38), .ref (D.1 39), .ref (D.1 52)] (ct_Lw_setUp C.ev C.l hD hL hS) rfl rfl ⟨by decide, by decide, by show K + 0 + 120 ≤ 600130; omega, by show N + 0 + 720 ≤ 7301080; omega⟩ (Nat.le_of_ble_eq_true rfl) rfl (fun v h3 sz3 hO => ?_) (fun X h3 sz3 hO => by cases hO.1)
  obtain ⟨e1, rfl, V2, P2, F, rfl, hS2⟩ := hO
  cases e1
  have hG := hS2.1
  have hpq := hS2.2.1
  have hls0 := hS2.2.2.2.2 0 (by decide) (by decide)
  have hls1 := hS2.2.2.2.2 1 (by decide) (by decide)
  obtain ⟨t2, t3, t4, t5⟩ := hS2.2.2.1
  show Z E G (HM D V2 P2 PH) sz3 (K + 120) (N + 720) (63, [some (.ref (D.1 52)), some (.ref (D.1 0)), some (.ref (D.1 37)), some (.ref (D.1 38)), some (.ref (D.1 39)), some (.ref (D.1 40)), some (.ref (D.1 41)), some (.ref (D.1 42)), some (.ref (D.1 43)), none, none, none, none, none, none, none, none, none, none], [.int (nI 1)])
  refine Z_br C it_La rfl rfl (fun hc1 => ?_) (fun hc1 => ?_)
  · exact absurd hc1 (by decide)
  · skip
    refine Z_run C it_La 3 (f2 := (69, [some (.ref (D.1 52)), some (.ref (D.1 0)), some (.ref (D.1 37)), some (.ref (D.1 38)), some (.ref (D.1 39)), some (.ref (D.1 40)), some (.ref (D.1 41)), some (.ref (D.1 42)), some (.ref (D.1 43)), none, none, none, none, none, none, none, none, none, none], [.ref (D.1 38), .ref (D.1 37), .ref (D.1 0)])) rfl ?_
    refine Zr_eoV C it_La rfl p_Lw_squares ml_Lw_134 [.ref (D.1 0), .ref (D.1 37), .ref (D.1 38)] (ct_Lw_squares C.ev C.l hD (LB_of hG) hpq (GS_pcs hG) _) rfl rfl ⟨by decide, by decide, by show K + 120 + 468 ≤ 600130; omega, by show N + 720 + 5472 ≤ 7301080; omega⟩ (Nat.le_of_ble_eq_true rfl) rfl (fun V3 hV3 => ?_)
    have hG3 := GS_fr hG (fun c h9 => hV3 c (by omega)) (fun _ _ => rfl)
    show Z E G (HM D V3 P2 PH) sz3 (K + 588) (N + 6192) (72, [some (.ref (D.1 52)), some (.ref (D.1 0)), some (.ref (D.1 37)), some (.ref (D.1 38)), some (.ref (D.1 39)), some (.ref (D.1 40)), some (.ref (D.1 41)), some (.ref (D.1 42)), some (.ref (D.1 43)), none, none, none, none, none, none, none, none, none, none], [.int (nI 1)])
    refine Z_br C it_La rfl rfl (fun hc2 => ?_) (fun hc2 => ?_)
    · exact absurd hc2 (by decide)
    · skip
      refine Z_run C it_La 1 (f2 := (76, [some (.ref (D.1 52)), some (.ref (D.1 0)), some (.ref (D.1 37)), some (.ref (D.1 38)), some (.ref (D.1 39)), some (.ref (D.1 40)), some (.ref (D.1 41)), some (.ref (D.1 42)), some (.ref (D.1 43)), none, none, none, none, none, none, none, none, none, none], [.ref (D.1 0)])) rfl ?_
      refine Zr_callV C it_La hD rfl p_Xx_repetitions ml_Lw_138 0 (by decide) rfl rfl [] (gs_rep C.ev C.l hD hG3) rfl rfl ⟨by decide, by decide, by show K + 588 + 0 ≤ 600130; omega, by show N + 6192 + 0 ≤ 7301080; omega⟩ (Nat.le_of_ble_eq_true rfl) rfl ?_
      show Z E G (HM D V3 P2 PH) sz3 (K + 588) (N + 6192) (79, [some (.ref (D.1 52)), some (.ref (D.1 0)), some (.ref (D.1 37)), some (.ref (D.1 38)), some (.ref (D.1 39)), some (.ref (D.1 40)), some (.ref (D.1 41)), some (.ref (D.1 42)), some (.ref (D.1 43)), none, none, none, none, none, none, none, none, none, none], [.int (nI 0)])
      refine Z_br C it_La rfl rfl (fun hc3 => ?_) (fun hc3 => ?_)
      · exact absurd rfl hc3
      · skip
        refine Z_run C it_La 1 (f2 := (83, [some (.ref (D.1 52)), some (.ref (D.1 0)), some (.ref (D.1 37)), some (.ref (D.1 38)), some (.ref (D.1 39)), some (.ref (D.1 40)), some (.ref (D.1 41)), some (.ref (D.1 42)), some (.ref (D.1 43)), none, none, none, none, none, none, none, none, none, none], [.ref (D.1 0)])) rfl ?_
        refine Z_callSX C it_La rfl p_Lw_starts ml_Lw_141 [.ref (D.1 0)] (gs_start C.ev C.l hD hG3 hls0 hls1) rfl rfl ⟨by decide, by decide, by show K + 588 + 2 ≤ 600130; omega, by show N + 6192 + 13 ≤ 7301080; omega⟩ (Nat.le_of_ble_eq_true rfl) rfl (fun v h4 sz4 hO => ?_) (fun X h3 sz3 hO => by cases hO.1)
        obtain ⟨e1, V4, P4, PH4, rfl, hG4, hV4, hP4, hA4, hA5⟩ := hO
        cases e1
        have hpq4 : okpq F (V4 37) (V4 38) := by rw [hV4 37 (by decide), hV4 38 (by decide), hV3 37 (by decide), hV3 38 (by decide)]; exact hpq
        show Z E G (HM D V4 P4 PH4) sz4 (K + 590) (N + 6205) (86, [some (.ref (D.1 52)), some (.ref (D.1 0)), some (.ref (D.1 37)), some (.ref (D.1 38)), some (.ref (D.1 39)), some (.ref (D.1 40)), some (.ref (D.1 41)), some (.ref (D.1 42)), some (.ref (D.1 43)), none, none, none, none, none, none, none, none, none, none], [.int (nI (mvs F 0 36))])
        refine Z_run C it_La 3 (f2 := (89, [some (.ref (D.1 52)), some (.ref (D.1 0)), some (.ref (D.1 37)), some (.ref (D.1 38)), some (.ref (D.1 39)), some (.ref (D.1 40)), some (.ref (D.1 41)), some (.ref (D.1 42)), some (.ref (D.1 43)), none, none, none, none, none, none, none, none, none, none], [.int (nI 0), .ref (D.1 38), .ref (D.1 37), .int (nI (mvs F 0 36))])) rfl ?_
        refine Zr_callS C it_La rfl p_Lw_moves ml_Lw_87 [.ref (D.1 37), .ref (D.1 38), .int (nI 0)] (ct_Lw_moves C.ev C.l F _ _ hpq4 (HM D V4 P4 PH4) _ _ (HR_37 hD (show V4 37 = V4 37 from rfl)) (HR_38 hD (show V4 38 = V4 38 from rfl)) 0 (by omega) _) rfl rfl ⟨by decide, by decide, by show K + 590 + 0 ≤ 600130; omega, by show N + 6205 + 0 ≤ 7301080; omega⟩ (Nat.le_of_ble_eq_true rfl) rfl ?_
        show Z E G (HM D V4 P4 PH4) sz4 (K + 590) (N + 6205) (92, [some (.ref (D.1 52)), some (.ref (D.1 0)), some (.ref (D.1 37)), some (.ref (D.1 38)), some (.ref (D.1 39)), some (.ref (D.1 40)), some (.ref (D.1 41)), some (.ref (D.1 42)), some (.ref (D.1 43)), none, none, none, none, none, none, none, none, none, none], [.int (nI (mvs F 0 36)), .int (nI (mvs F 0 36))])
        refine Z_br C it_La rfl rfl (fun hc4 => ?_) (fun hc4 => ?_)
        · exact absurd rfl hc4
        · skip
          refine Z_run C it_La 1 (f2 := (96, [some (.ref (D.1 52)), some (.ref (D.1 0)), some (.ref (D.1 37)), some (.ref (D.1 38)), some (.ref (D.1 39)), some (.ref (D.1 40)), some (.ref (D.1 41)), some (.ref (D.1 42)), some (.ref (D.1 43)), none, none, none, none, none, none, none, none, none, none], [.ref (D.1 0)])) rfl ?_
          refine Z_callSX C it_La rfl p_Lw_starts ml_Lw_141 [.ref (D.1 0)] (gs_startx C.ev C.l hD hG4 rfl) rfl rfl ⟨by decide, by decide, by show K + 590 + 2 ≤ 600130; omega, by show N + 6205 + 13 ≤ 7301080; omega⟩ (Nat.le_of_ble_eq_true rfl) rfl (fun v h5 sz5 hO => ?_) (fun X h3 sz3 hO => by cases hO.1)
          obtain ⟨e1, rfl, e2⟩ := hO
          cases e1
          rw [e2]
          show Z E G (HM D V4 P4 PH4) sz4 (K + 592) (N + 6218) (99, [some (.ref (D.1 52)), some (.ref (D.1 0)), some (.ref (D.1 37)), some (.ref (D.1 38)), some (.ref (D.1 39)), some (.ref (D.1 40)), some (.ref (D.1 41)), some (.ref (D.1 42)), some (.ref (D.1 43)), none, none, none, none, none, none, none, none, none, none], [.int ((-101))])
          refine Z_run C it_La 1 (f2 := (101, [some (.ref (D.1 52)), some (.ref (D.1 0)), some (.ref (D.1 37)), some (.ref (D.1 38)), some (.ref (D.1 39)), some (.ref (D.1 40)), some (.ref (D.1 41)), some (.ref (D.1 42)), some (.ref (D.1 43)), none, none, none, none, none, none, none, none, none, none], [.int ((-101)), .int ((-101))])) rfl ?_
          refine Z_br C it_La rfl rfl (fun hc5 => ?_) (fun hc5 => ?_)
          · skip
            have h39 : V4 39 = V2 39 := (hV4 39 (by decide)).trans (hV3 39 (by decide))
            refine gd_106 C hD hL hG4 hpq4 (by rw [h39]; exact ⟨t2, t3, t4⟩) (fun s hs => ?_) ?_ (by omega) (by omega) (fun V5 P5 hW => ?_)
            · rw [hA4, hA5, hV3 4 (by decide), hV3 5 (by decide), h39]
              have a1 := t5 s hs
              have a2 := t5 (1 - s) (by omega)
              rw [show 7 + (1 - s) = 8 - s by omega] at a2
              refine ⟨a1.2.2.2.trans a1.1.symm, ?_⟩
              rw [a2.1, a1.2.1, a1.2.2.1]
              exact ((Int32.add_zero _).trans (Int32.sub_zero _)).symm
            · cases h9 : lsq F 0 with
              | none => rw [h9] at hls0; cases hls0
              | some x =>
                obtain ⟨q1, q2, q3⟩ := ffr_lt h9
                rw [Bool.and_eq_true] at q3
                exact ⟨x, by omega, (hld_sd q3.1).1⟩
            refine Z_widen (k2 := 9000 + 0 * 1300) (n2 := 90000 + 0 * 21000) (by omega) (by omega) ?_
            exact law_loop C hD hL hend (K := 9000) (N := 90000) (by decide) (by decide) 61 0 V5 P5 PH4 sz4 F (fun _ => F) 0 _ none (by decide) (by decide) (Nat.le_refl _) hW
          · exact absurd rfl hc5
