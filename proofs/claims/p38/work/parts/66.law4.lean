/-! ===== the law's body: the end of a step, its loop ===== -/
set_option maxRecDepth 20000 in
theorem gc_737l {E : zE} {G : zG} {nm : String} (C : zCx E G code 19 R_Lw nm (some .boolean) room_1) {D : zD} (hD : zDok E D) (hL : D.2.2.1 ≤ 260) {V : Nat → Nat → Int32} {P : Nat → Nat → Value} {PH : aH} {sz : Nat} {F : Nat → Nat} {L : List zPos} {tn1 md1 : Nat} {ov : Bool} {ch : Option Nat} {Bd : Nat → Nat → Nat} {nb : Nat} {v1 v2 v4 : Int32} (htn1 : tn1 < 2) (hX : LX D V P PH sz F L tn1 md1 ov ch Bd nb v1 v2 (nI tn1) v4) {w nm1 e : Nat} (hw : w ≤ 1000) (he : e < 60) (hnm : nm1 ≤ 100) (hov : ov = (true || (decide (3 ≤ w) || (mvs F tn1 36 == 0)))) (hch : nI (1 - tn1) = chI ch) (htm : tmz L = w) {k n : Nat} (hk : k + 1228 ≤ 600000) (hn : n + 20772 ≤ 7300000) (kk : ∀ V2 : Nat → Nat → Int32, LX D V2 P PH sz F L tn1 md1 ov ch Bd nb (bI ov) (chI ch) (nI tn1) v4 → Z E G (HM D V2 P PH) sz (k + 1228) (n + 20772) (830, [some (.ref (D.1 52)), some (.ref (D.1 0)), some (.ref (D.1 37)), some (.ref (D.1 38)), some (.ref (D.1 39)), some (.ref (D.1 40)), some (.ref (D.1 41)), some (.ref (D.1 42)), some (.ref (D.1 43)), some (.int (nI (nm1 + 1))), some (.int (nI e)), none, none, none, none, none, none, none, none], [])) : Z E G (HM D V P PH) sz k n (737, [some (.ref (D.1 52)), some (.ref (D.1 0)), some (.ref (D.1 37)), some (.ref (D.1 38)), some (.ref (D.1 39)), some (.ref (D.1 40)), some (.ref (D.1 41)), some (.ref (D.1 42)), some (.ref (D.1 43)), some (.int (nI nm1)), some (.int (nI e)), none, none, none, none, none, some (.int (bI true)), some (.int (nI w)), none], []) := by
  have hpq := hX.2.1
  have hmv := mvs_le F tn1 (Nat.le_refl 36)
  refine Z_run C it_Lh 1 (f2 := (740, [some (.ref (D.1 52)), some (.ref (D.1 0)), some (.ref (D.1 37)), some (.ref (D.1 38)), some (.ref (D.1 39)), some (.ref (D.1 40)), some (.ref (D.1 41)), some (.ref (D.1 42)), some (.ref (D.1 43)), some (.int (nI nm1 + nI 1)), some (.int (nI e)), none, none, none, none, none, some (.int (bI true)), some (.int (nI w)), none], [])) rfl ?_
  rw [nI_add nm1 1]
  refine Z_run C it_Lh 3 (f2 := (745, [some (.ref (D.1 52)), some (.ref (D.1 0)), some (.ref (D.1 37)), some (.ref (D.1 38)), some (.ref (D.1 39)), some (.ref (D.1 40)), some (.ref (D.1 41)), some (.ref (D.1 42)), some (.ref (D.1 43)), some (.int (nI (nm1 + 1))), some (.int (nI e)), none, none, none, none, none, some (.int (bI true)), some (.int (nI w)), none], [.int (bI true), .int (nI 1), .ref (D.1 39)])) rfl ?_
  refine Z_br C it_Lh rfl rfl (fun hc1 => ?_) (fun hc1 => ?_)
  · skip
    refine Z_run C it_Lh 2 (f2 := (771, [some (.ref (D.1 52)), some (.ref (D.1 0)), some (.ref (D.1 37)), some (.ref (D.1 38)), some (.ref (D.1 39)), some (.ref (D.1 40)), some (.ref (D.1 41)), some (.ref (D.1 42)), some (.ref (D.1 43)), some (.int (nI (nm1 + 1))), some (.int (nI e)), none, none, none, none, none, some (.int (bI true)), some (.int (nI w)), none], [.int (nI 1), .int (nI 1), .ref (D.1 39)])) rfl ?_
    have e9 : nI 1 = bI ov := bI_t (by rw [hov]; rfl)
    refine Zm_ast C it_Lh hD 39 10 rfl (by first | decide | exact isB_k hb | omega) rfl (by decide) rfl (j := 1) (by omega) trivial rfl ?_
    refine Z_run C it_Lh 3 (f2 := (777, [some (.ref (D.1 52)), some (.ref (D.1 0)), some (.ref (D.1 37)), some (.ref (D.1 38)), some (.ref (D.1 39)), some (.ref (D.1 40)), some (.ref (D.1 41)), some (.ref (D.1 42)), some (.ref (D.1 43)), some (.int (nI (nm1 + 1))), some (.int (nI e)), none, none, none, none, none, some (.int (bI true)), some (.int (nI w)), none], [.int (bI true), .int (nI 2), .ref (D.1 39)])) rfl ?_
    refine Z_br C it_Lh rfl rfl (fun hc2 => ?_) (fun hc2 => ?_)
    · exact absurd hc2 (by decide)
    · skip
      refine Z_run C it_Lh 3 (f2 := (784, [some (.ref (D.1 52)), some (.ref (D.1 0)), some (.ref (D.1 37)), some (.ref (D.1 38)), some (.ref (D.1 39)), some (.ref (D.1 40)), some (.ref (D.1 41)), some (.ref (D.1 42)), some (.ref (D.1 43)), some (.int (nI (nm1 + 1))), some (.int (nI e)), none, none, none, none, none, some (.int (bI true)), some (.int (nI w)), none], [.int (nI 3), .ref (D.1 39), .int (nI 1), .int (nI 2), .ref (D.1 39)])) rfl ?_
      refine Zm_ald C it_Lh hD 39 10 rfl (by decide) rfl (by decide) (by decide) rfl (j := 3) (by omega) (v := .int (nI tn1)) (congrArg Value.int (by first | exact hX.2.2.1.2.2.1 | exact (show upd (V 39) 1 (nI 1) 3 = nI tn1 from hX.2.2.1.2.2.1))) ?_
      refine Z_run C it_Lh 2 (f2 := (793, [some (.ref (D.1 52)), some (.ref (D.1 0)), some (.ref (D.1 37)), some (.ref (D.1 38)), some (.ref (D.1 39)), some (.ref (D.1 40)), some (.ref (D.1 41)), some (.ref (D.1 42)), some (.ref (D.1 43)), some (.int (nI (nm1 + 1))), some (.int (nI e)), none, none, none, none, none, some (.int (bI true)), some (.int (nI w)), none], [.int (nI 1 - nI tn1), .int (nI 2), .ref (D.1 39)])) rfl ?_
      have e8 : nI 1 - nI tn1 = chI ch := by rw [← hch, nI_sub (by omega)]
      refine Zm_ast C it_Lh hD 39 10 rfl (by first | decide | exact isB_k hb | omega) rfl (by decide) rfl (j := 2) (by omega) trivial rfl ?_
      obtain ⟨V2, eV2⟩ : ∃ V2 : Nat → Nat → Int32, (vset (vset V 39 1 (nI 1)) 39 2 (nI 1 - nI tn1)) = V2 := ⟨_, rfl⟩
      have g39 : V2 39 = upd (upd (V 39) 1 (bI ov)) 2 (chI ch) := by rw [← eV2, ← e9, ← e8]; rfl
      have gc : ∀ c, c ≠ 39 → V2 c = V c := fun c h9 => by rw [← eV2, vset_n h9, vset_n h9]
      rw [eV2]
      have hX2 : LX D V2 P PH sz F L tn1 md1 ov ch Bd nb (bI ov) (chI ch) (nI tn1) v4 := by
        obtain ⟨x1, x2, x3, x4, x5⟩ := hX
        refine ⟨GS_fr x1 (fun c h9 => gc c (by omega)) (fun _ _ => rfl), by rw [gc 37 (by decide), gc 38 (by decide)]; exact x2, ⟨?_, ?_, ?_, ?_⟩, fun s hs => ?_, x5⟩
        · rw [g39, upd_n (by decide), upd_s]
        · rw [g39, upd_s]
        · rw [g39, upd_n (by decide), upd_n (by decide)]; exact x3.2.2.1
        · rw [g39, upd_n (by decide), upd_n (by decide)]; exact x3.2.2.2
        · rw [gc 4 (by decide), gc 5 (by decide), g39, upd_n (by omega), upd_n (by omega), upd_n (by omega), upd_n (by omega), upd_n (by omega), upd_n (by omega), upd_n (by omega), upd_n (by omega)]; exact x4 s hs
      have hLB2 := LB_of hX2.1
      refine Z_run C it_Lh 1 (f2 := (795, [some (.ref (D.1 52)), some (.ref (D.1 0)), some (.ref (D.1 37)), some (.ref (D.1 38)), some (.ref (D.1 39)), some (.ref (D.1 40)), some (.ref (D.1 41)), some (.ref (D.1 42)), some (.ref (D.1 43)), some (.int (nI (nm1 + 1))), some (.int (nI e)), none, none, none, none, none, some (.int (bI true)), some (.int (nI w)), none], [.ref (D.1 0)])) rfl ?_
      refine Zr_callV C it_Lh hD rfl p_Xx_repetitions ml_Lw_138 0 (by decide) rfl rfl [] (gs_rep C.ev C.l hD hX2.1) rfl rfl ⟨by decide, by decide, by show k + 0 + 0 ≤ 600130; omega, by show n + 0 + 0 ≤ 7301080; omega⟩ (Nat.le_of_ble_eq_true rfl) rfl ?_
      show Z E G (HM D V2 P PH) sz k n (798, [some (.ref (D.1 52)), some (.ref (D.1 0)), some (.ref (D.1 37)), some (.ref (D.1 38)), some (.ref (D.1 39)), some (.ref (D.1 40)), some (.ref (D.1 41)), some (.ref (D.1 42)), some (.ref (D.1 43)), some (.int (nI (nm1 + 1))), some (.int (nI e)), none, none, none, none, none, some (.int (bI true)), some (.int (nI w)), none], [.int (nI (tmz L))])
      refine Z_run C it_Lh 1 (f2 := (800, [some (.ref (D.1 52)), some (.ref (D.1 0)), some (.ref (D.1 37)), some (.ref (D.1 38)), some (.ref (D.1 39)), some (.ref (D.1 40)), some (.ref (D.1 41)), some (.ref (D.1 42)), some (.ref (D.1 43)), some (.int (nI (nm1 + 1))), some (.int (nI e)), none, none, none, none, none, some (.int (bI true)), some (.int (nI w)), none], [.int (nI w), .int (nI (tmz L))])) rfl ?_
      refine Z_br C it_Lh rfl rfl (fun hc3 => ?_) (fun hc3 => ?_)
      · exact absurd (by rw [htm]) hc3
      · skip
        refine Z_run C it_Lh 3 (f2 := (807, [some (.ref (D.1 52)), some (.ref (D.1 0)), some (.ref (D.1 37)), some (.ref (D.1 38)), some (.ref (D.1 39)), some (.ref (D.1 40)), some (.ref (D.1 41)), some (.ref (D.1 42)), some (.ref (D.1 43)), some (.int (nI (nm1 + 1))), some (.int (nI e)), none, none, none, none, none, some (.int (bI true)), some (.int (nI w)), none], [.int (nI e % nI 4)])) rfl ?_
        rw [nI_mod (a := e) (d := 4) (by omega) (by omega) (by omega)]
        refine Z_br C it_Lh rfl rfl (fun hc4 => ?_) (fun hc4 => ?_)
        · replace hc4 : ¬ _ := fun z9 => hc4 ((nI_e0 (a := e % 4) (by omega)).mpr z9)
          refine Z_sub (ls2 := [some (.ref (D.1 52)), some (.ref (D.1 0)), some (.ref (D.1 37)), some (.ref (D.1 38)), some (.ref (D.1 39)), some (.ref (D.1 40)), some (.ref (D.1 41)), some (.ref (D.1 42)), some (.ref (D.1 43)), some (.int (nI (nm1 + 1))), some (.int (nI e)), none, none, none, none, none, none, none, none]) ⟨rfl, rfl, rfl, rfl, rfl, rfl, rfl, rfl, rfl, rfl, rfl, trivial⟩ ?_
          refine Z_widen (k2 := k + 1228) (n2 := n + 20772) (by omega) (by omega) ?_
          exact kk V2 hX2
        · replace hc4 := Classical.not_not.mp hc4
          replace hc4 := (nI_e0 (a := e % 4) (by omega)).mp hc4
          refine Z_run C it_Lh 3 (f2 := (813, [some (.ref (D.1 52)), some (.ref (D.1 0)), some (.ref (D.1 37)), some (.ref (D.1 38)), some (.ref (D.1 39)), some (.ref (D.1 40)), some (.ref (D.1 41)), some (.ref (D.1 42)), some (.ref (D.1 43)), some (.int (nI (nm1 + 1))), some (.int (nI e)), none, none, none, none, none, some (.int (bI true)), some (.int (nI w)), none], [.ref (D.1 38), .ref (D.1 37), .ref (D.1 0)])) rfl ?_
          refine Zr_eoV C it_Lh rfl p_Lw_squares ml_Lw_134 [.ref (D.1 0), .ref (D.1 37), .ref (D.1 38)] (ct_Lw_squares C.ev C.l hD (LB_of hX2.1) hX2.2.1 (GS_pcs hX2.1) _) rfl rfl ⟨by decide, by decide, by show k + 0 + 468 ≤ 600130; omega, by show n + 0 + 5472 ≤ 7301080; omega⟩ (Nat.le_of_ble_eq_true rfl) rfl (fun V3 hV3 => ?_)
          have hX3 := LX_fr hX2 hV3
          show Z E G (HM D V3 P PH) sz (k + 468) (n + 5472) (816, [some (.ref (D.1 52)), some (.ref (D.1 0)), some (.ref (D.1 37)), some (.ref (D.1 38)), some (.ref (D.1 39)), some (.ref (D.1 40)), some (.ref (D.1 41)), some (.ref (D.1 42)), some (.ref (D.1 43)), some (.int (nI (nm1 + 1))), some (.int (nI e)), none, none, none, none, none, some (.int (bI true)), some (.int (nI w)), none], [.int (nI 1)])
          refine Z_br C it_Lh rfl rfl (fun hc5 => ?_) (fun hc5 => ?_)
          · exact absurd hc5 (by decide)
          · skip
            refine Z_run C it_Lh 3 (f2 := (822, [some (.ref (D.1 52)), some (.ref (D.1 0)), some (.ref (D.1 37)), some (.ref (D.1 38)), some (.ref (D.1 39)), some (.ref (D.1 40)), some (.ref (D.1 41)), some (.ref (D.1 42)), some (.ref (D.1 43)), some (.int (nI (nm1 + 1))), some (.int (nI e)), none, none, none, none, none, some (.int (bI true)), some (.int (nI w)), none], [.ref (D.1 38), .ref (D.1 37), .ref (D.1 0)])) rfl ?_
            refine Zr_eoV C it_Lh rfl p_Lw_sides ml_Lw_154 [.ref (D.1 0), .ref (D.1 37), .ref (D.1 38)] (ct_Lw_sides C.ev C.l hD (LB_of hX3.1) hX3.2.1 (GS_pcs hX3.1) hX3.1.2.2.2.2.2.2.2 _) rfl rfl ⟨by decide, by decide, by show k + 468 + 760 ≤ 600130; omega, by show n + 5472 + 15300 ≤ 7301080; omega⟩ (Nat.le_of_ble_eq_true rfl) rfl (fun V4 hV4 => ?_)
            have hX4 := LX_fr hX3 hV4
            show Z E G (HM D V4 P PH) sz (k + 1228) (n + 20772) (825, [some (.ref (D.1 52)), some (.ref (D.1 0)), some (.ref (D.1 37)), some (.ref (D.1 38)), some (.ref (D.1 39)), some (.ref (D.1 40)), some (.ref (D.1 41)), some (.ref (D.1 42)), some (.ref (D.1 43)), some (.int (nI (nm1 + 1))), some (.int (nI e)), none, none, none, none, none, some (.int (bI true)), some (.int (nI w)), none], [.int (nI 1)])
            refine Z_br C it_Lh rfl rfl (fun hc6 => ?_) (fun hc6 => ?_)
            · skip
              refine Z_sub (ls2 := [some (.ref (D.1 52)), some (.ref (D.1 0)), some (.ref (D.1 37)), some (.ref (D.1 38)), some (.ref (D.1 39)), some (.ref (D.1 40)), some (.ref (D.1 41)), some (.ref (D.1 42)), some (.ref (D.1 43)), some (.int (nI (nm1 + 1))), some (.int (nI e)), none, none, none, none, none, none, none, none]) ⟨rfl, rfl, rfl, rfl, rfl, rfl, rfl, rfl, rfl, rfl, rfl, trivial⟩ ?_
              exact kk V4 hX4
            · exact absurd (Classical.not_not.mp hc6) (by decide)
  · exact absurd (Classical.not_not.mp hc1) (by decide)
set_option maxRecDepth 20000 in
theorem gc_737o {E : zE} {G : zG} {nm : String} (C : zCx E G code 19 R_Lw nm (some .boolean) room_1) {D : zD} (hD : zDok E D) (hL : D.2.2.1 ≤ 260) {V : Nat → Nat → Int32} {P : Nat → Nat → Value} {PH : aH} {sz : Nat} {F : Nat → Nat} {L : List zPos} {tn1 md1 : Nat} {ov : Bool} {ch : Option Nat} {Bd : Nat → Nat → Nat} {nb : Nat} {v1 v2 v4 : Int32} (htn1 : tn1 < 2) (hX : LX D V P PH sz F L tn1 md1 ov ch Bd nb v1 v2 (nI tn1) v4) {w nm1 e : Nat} (hw : w ≤ 1000) (he : e < 60) (hnm : nm1 ≤ 100) (hov : ov = (false || (decide (3 ≤ w) || (mvs F tn1 36 == 0)))) (hch : v2 = chI ch) (htm : tmz L = w) {k n : Nat} (hk : k + 1228 ≤ 600000) (hn : n + 20772 ≤ 7300000) (kk : ∀ V2 : Nat → Nat → Int32, LX D V2 P PH sz F L tn1 md1 ov ch Bd nb (bI ov) (chI ch) (nI tn1) v4 → Z E G (HM D V2 P PH) sz (k + 1228) (n + 20772) (830, [some (.ref (D.1 52)), some (.ref (D.1 0)), some (.ref (D.1 37)), some (.ref (D.1 38)), some (.ref (D.1 39)), some (.ref (D.1 40)), some (.ref (D.1 41)), some (.ref (D.1 42)), some (.ref (D.1 43)), some (.int (nI (nm1 + 1))), some (.int (nI e)), none, none, none, none, none, none, none, none], [])) : Z E G (HM D V P PH) sz k n (737, [some (.ref (D.1 52)), some (.ref (D.1 0)), some (.ref (D.1 37)), some (.ref (D.1 38)), some (.ref (D.1 39)), some (.ref (D.1 40)), some (.ref (D.1 41)), some (.ref (D.1 42)), some (.ref (D.1 43)), some (.int (nI nm1)), some (.int (nI e)), none, none, none, none, none, some (.int (bI false)), some (.int (nI w)), none], []) := by
  have hpq := hX.2.1
  have hmv := mvs_le F tn1 (Nat.le_refl 36)
  refine Z_run C it_Lh 1 (f2 := (740, [some (.ref (D.1 52)), some (.ref (D.1 0)), some (.ref (D.1 37)), some (.ref (D.1 38)), some (.ref (D.1 39)), some (.ref (D.1 40)), some (.ref (D.1 41)), some (.ref (D.1 42)), some (.ref (D.1 43)), some (.int (nI nm1 + nI 1)), some (.int (nI e)), none, none, none, none, none, some (.int (bI false)), some (.int (nI w)), none], [])) rfl ?_
  rw [nI_add nm1 1]
  refine Z_run C it_Lh 3 (f2 := (745, [some (.ref (D.1 52)), some (.ref (D.1 0)), some (.ref (D.1 37)), some (.ref (D.1 38)), some (.ref (D.1 39)), some (.ref (D.1 40)), some (.ref (D.1 41)), some (.ref (D.1 42)), some (.ref (D.1 43)), some (.int (nI (nm1 + 1))), some (.int (nI e)), none, none, none, none, none, some (.int (bI false)), some (.int (nI w)), none], [.int (bI false), .int (nI 1), .ref (D.1 39)])) rfl ?_
  refine Z_br C it_Lh rfl rfl (fun hc1 => ?_) (fun hc1 => ?_)
  · exact absurd rfl hc1
  · skip
    refine Z_run C it_Lh 2 (f2 := (751, [some (.ref (D.1 52)), some (.ref (D.1 0)), some (.ref (D.1 37)), some (.ref (D.1 38)), some (.ref (D.1 39)), some (.ref (D.1 40)), some (.ref (D.1 41)), some (.ref (D.1 42)), some (.ref (D.1 43)), some (.int (nI (nm1 + 1))), some (.int (nI e)), none, none, none, none, none, some (.int (bI false)), some (.int (nI w)), none], [.int (nI 2), .int (nI w), .int (nI 1), .ref (D.1 39)])) rfl ?_
    refine Z_br C it_Lh rfl rfl (fun hc2 => ?_) (fun hc2 => ?_)
    · replace hc2 := (nI_ltI (a := 2) (b := w) (by omega) (by omega)).mp hc2
      refine Z_run C it_Lh 2 (f2 := (771, [some (.ref (D.1 52)), some (.ref (D.1 0)), some (.ref (D.1 37)), some (.ref (D.1 38)), some (.ref (D.1 39)), some (.ref (D.1 40)), some (.ref (D.1 41)), some (.ref (D.1 42)), some (.ref (D.1 43)), some (.int (nI (nm1 + 1))), some (.int (nI e)), none, none, none, none, none, some (.int (bI false)), some (.int (nI w)), none], [.int (nI 1), .int (nI 1), .ref (D.1 39)])) rfl ?_
      have e9 : nI 1 = bI ov := bI_t (by rw [hov]; simp only [Bool.false_or, Bool.or_eq_true, decide_eq_true_eq, beq_iff_eq]; omega)
      refine Zm_ast C it_Lh hD 39 10 rfl (by first | decide | exact isB_k hb | omega) rfl (by decide) rfl (j := 1) (by omega) trivial rfl ?_
      refine Z_run C it_Lh 3 (f2 := (777, [some (.ref (D.1 52)), some (.ref (D.1 0)), some (.ref (D.1 37)), some (.ref (D.1 38)), some (.ref (D.1 39)), some (.ref (D.1 40)), some (.ref (D.1 41)), some (.ref (D.1 42)), some (.ref (D.1 43)), some (.int (nI (nm1 + 1))), some (.int (nI e)), none, none, none, none, none, some (.int (bI false)), some (.int (nI w)), none], [.int (bI false), .int (nI 2), .ref (D.1 39)])) rfl ?_
      refine Z_br C it_Lh rfl rfl (fun hc3 => ?_) (fun hc3 => ?_)
      · skip
        refine Z_run C it_Lh 2 (f2 := (792, [some (.ref (D.1 52)), some (.ref (D.1 0)), some (.ref (D.1 37)), some (.ref (D.1 38)), some (.ref (D.1 39)), some (.ref (D.1 40)), some (.ref (D.1 41)), some (.ref (D.1 42)), some (.ref (D.1 43)), some (.int (nI (nm1 + 1))), some (.int (nI e)), none, none, none, none, none, some (.int (bI false)), some (.int (nI w)), none], [.int (nI 2), .ref (D.1 39), .int (nI 2), .ref (D.1 39)])) rfl ?_
        refine Zm_ald C it_Lh hD 39 10 rfl (by decide) rfl (by decide) (by decide) rfl (j := 2) (by omega) (v := .int v2) (congrArg Value.int (show upd (V 39) 1 (nI 1) 2 = v2 from hX.2.2.1.2.1)) ?_
        have e8 : v2 = chI ch := hch
        refine Zm_ast C it_Lh hD 39 10 rfl (by first | decide | exact isB_k hb | omega) rfl (by decide) rfl (j := 2) (by omega) trivial rfl ?_
        obtain ⟨V2, eV2⟩ : ∃ V2 : Nat → Nat → Int32, (vset (vset V 39 1 (nI 1)) 39 2 v2) = V2 := ⟨_, rfl⟩
        have g39 : V2 39 = upd (upd (V 39) 1 (bI ov)) 2 (chI ch) := by rw [← eV2, ← e9, ← e8]; rfl
        have gc : ∀ c, c ≠ 39 → V2 c = V c := fun c h9 => by rw [← eV2, vset_n h9, vset_n h9]
        rw [eV2]
        have hX2 : LX D V2 P PH sz F L tn1 md1 ov ch Bd nb (bI ov) (chI ch) (nI tn1) v4 := by
          obtain ⟨x1, x2, x3, x4, x5⟩ := hX
          refine ⟨GS_fr x1 (fun c h9 => gc c (by omega)) (fun _ _ => rfl), by rw [gc 37 (by decide), gc 38 (by decide)]; exact x2, ⟨?_, ?_, ?_, ?_⟩, fun s hs => ?_, x5⟩
          · rw [g39, upd_n (by decide), upd_s]
          · rw [g39, upd_s]
          · rw [g39, upd_n (by decide), upd_n (by decide)]; exact x3.2.2.1
          · rw [g39, upd_n (by decide), upd_n (by decide)]; exact x3.2.2.2
          · rw [gc 4 (by decide), gc 5 (by decide), g39, upd_n (by omega), upd_n (by omega), upd_n (by omega), upd_n (by omega), upd_n (by omega), upd_n (by omega), upd_n (by omega), upd_n (by omega)]; exact x4 s hs
        have hLB2 := LB_of hX2.1
        refine Z_run C it_Lh 1 (f2 := (795, [some (.ref (D.1 52)), some (.ref (D.1 0)), some (.ref (D.1 37)), some (.ref (D.1 38)), some (.ref (D.1 39)), some (.ref (D.1 40)), some (.ref (D.1 41)), some (.ref (D.1 42)), some (.ref (D.1 43)), some (.int (nI (nm1 + 1))), some (.int (nI e)), none, none, none, none, none, some (.int (bI false)), some (.int (nI w)), none], [.ref (D.1 0)])) rfl ?_
        refine Zr_callV C it_Lh hD rfl p_Xx_repetitions ml_Lw_138 0 (by decide) rfl rfl [] (gs_rep C.ev C.l hD hX2.1) rfl rfl ⟨by decide, by decide, by show k + 0 + 0 ≤ 600130; omega, by show n + 0 + 0 ≤ 7301080; omega⟩ (Nat.le_of_ble_eq_true rfl) rfl ?_
        show Z E G (HM D V2 P PH) sz k n (798, [some (.ref (D.1 52)), some (.ref (D.1 0)), some (.ref (D.1 37)), some (.ref (D.1 38)), some (.ref (D.1 39)), some (.ref (D.1 40)), some (.ref (D.1 41)), some (.ref (D.1 42)), some (.ref (D.1 43)), some (.int (nI (nm1 + 1))), some (.int (nI e)), none, none, none, none, none, some (.int (bI false)), some (.int (nI w)), none], [.int (nI (tmz L))])
        refine Z_run C it_Lh 1 (f2 := (800, [some (.ref (D.1 52)), some (.ref (D.1 0)), some (.ref (D.1 37)), some (.ref (D.1 38)), some (.ref (D.1 39)), some (.ref (D.1 40)), some (.ref (D.1 41)), some (.ref (D.1 42)), some (.ref (D.1 43)), some (.int (nI (nm1 + 1))), some (.int (nI e)), none, none, none, none, none, some (.int (bI false)), some (.int (nI w)), none], [.int (nI w), .int (nI (tmz L))])) rfl ?_
        refine Z_br C it_Lh rfl rfl (fun hc4 => ?_) (fun hc4 => ?_)
        · exact absurd (by rw [htm]) hc4
        · skip
          refine Z_run C it_Lh 3 (f2 := (807, [some (.ref (D.1 52)), some (.ref (D.1 0)), some (.ref (D.1 37)), some (.ref (D.1 38)), some (.ref (D.1 39)), some (.ref (D.1 40)), some (.ref (D.1 41)), some (.ref (D.1 42)), some (.ref (D.1 43)), some (.int (nI (nm1 + 1))), some (.int (nI e)), none, none, none, none, none, some (.int (bI false)), some (.int (nI w)), none], [.int (nI e % nI 4)])) rfl ?_
          rw [nI_mod (a := e) (d := 4) (by omega) (by omega) (by omega)]
          refine Z_br C it_Lh rfl rfl (fun hc5 => ?_) (fun hc5 => ?_)
          · replace hc5 : ¬ _ := fun z9 => hc5 ((nI_e0 (a := e % 4) (by omega)).mpr z9)
            refine Z_sub (ls2 := [some (.ref (D.1 52)), some (.ref (D.1 0)), some (.ref (D.1 37)), some (.ref (D.1 38)), some (.ref (D.1 39)), some (.ref (D.1 40)), some (.ref (D.1 41)), some (.ref (D.1 42)), some (.ref (D.1 43)), some (.int (nI (nm1 + 1))), some (.int (nI e)), none, none, none, none, none, none, none, none]) ⟨rfl, rfl, rfl, rfl, rfl, rfl, rfl, rfl, rfl, rfl, rfl, trivial⟩ ?_
            refine Z_widen (k2 := k + 1228) (n2 := n + 20772) (by omega) (by omega) ?_
            exact kk V2 hX2
          · replace hc5 := Classical.not_not.mp hc5
            replace hc5 := (nI_e0 (a := e % 4) (by omega)).mp hc5
            refine Z_run C it_Lh 3 (f2 := (813, [some (.ref (D.1 52)), some (.ref (D.1 0)), some (.ref (D.1 37)), some (.ref (D.1 38)), some (.ref (D.1 39)), some (.ref (D.1 40)), some (.ref (D.1 41)), some (.ref (D.1 42)), some (.ref (D.1 43)), some (.int (nI (nm1 + 1))), some (.int (nI e)), none, none, none, none, none, some (.int (bI false)), some (.int (nI w)), none], [.ref (D.1 38), .ref (D.1 37), .ref (D.1 0)])) rfl ?_
            refine Zr_eoV C it_Lh rfl p_Lw_squares ml_Lw_134 [.ref (D.1 0), .ref (D.1 37), .ref (D.1 38)] (ct_Lw_squares C.ev C.l hD (LB_of hX2.1) hX2.2.1 (GS_pcs hX2.1) _) rfl rfl ⟨by decide, by decide, by show k + 0 + 468 ≤ 600130; omega, by show n + 0 + 5472 ≤ 7301080; omega⟩ (Nat.le_of_ble_eq_true rfl) rfl (fun V3 hV3 => ?_)
            have hX3 := LX_fr hX2 hV3
            show Z E G (HM D V3 P PH) sz (k + 468) (n + 5472) (816, [some (.ref (D.1 52)), some (.ref (D.1 0)), some (.ref (D.1 37)), some (.ref (D.1 38)), some (.ref (D.1 39)), some (.ref (D.1 40)), some (.ref (D.1 41)), some (.ref (D.1 42)), some (.ref (D.1 43)), some (.int (nI (nm1 + 1))), some (.int (nI e)), none, none, none, none, none, some (.int (bI false)), some (.int (nI w)), none], [.int (nI 1)])
            refine Z_br C it_Lh rfl rfl (fun hc6 => ?_) (fun hc6 => ?_)
            · exact absurd hc6 (by decide)
            · skip
              refine Z_run C it_Lh 3 (f2 := (822, [some (.ref (D.1 52)), some (.ref (D.1 0)), some (.ref (D.1 37)), some (.ref (D.1 38)), some (.ref (D.1 39)), some (.ref (D.1 40)), some (.ref (D.1 41)), some (.ref (D.1 42)), some (.ref (D.1 43)), some (.int (nI (nm1 + 1))), some (.int (nI e)), none, none, none, none, none, some (.int (bI false)), some (.int (nI w)), none], [.ref (D.1 38), .ref (D.1 37), .ref (D.1 0)])) rfl ?_
              refine Zr_eoV C it_Lh rfl p_Lw_sides ml_Lw_154 [.ref (D.1 0), .ref (D.1 37), .ref (D.1 38)] (ct_Lw_sides C.ev C.l hD (LB_of hX3.1) hX3.2.1 (GS_pcs hX3.1) hX3.1.2.2.2.2.2.2.2 _) rfl rfl ⟨by decide, by decide, by show k + 468 + 760 ≤ 600130; omega, by show n + 5472 + 15300 ≤ 7301080; omega⟩ (Nat.le_of_ble_eq_true rfl) rfl (fun V4 hV4 => ?_)
              have hX4 := LX_fr hX3 hV4
              show Z E G (HM D V4 P PH) sz (k + 1228) (n + 20772) (825, [some (.ref (D.1 52)), some (.ref (D.1 0)), some (.ref (D.1 37)), some (.ref (D.1 38)), some (.ref (D.1 39)), some (.ref (D.1 40)), some (.ref (D.1 41)), some (.ref (D.1 42)), some (.ref (D.1 43)), some (.int (nI (nm1 + 1))), some (.int (nI e)), none, none, none, none, none, some (.int (bI false)), some (.int (nI w)), none], [.int (nI 1)])
              refine Z_br C it_Lh rfl rfl (fun hc7 => ?_) (fun hc7 => ?_)
              · skip
                refine Z_sub (ls2 := [some (.ref (D.1 52)), some (.ref (D.1 0)), some (.ref (D.1 37)), some (.ref (D.1 38)), some (.ref (D.1 39)), some (.ref (D.1 40)), some (.ref (D.1 41)), some (.ref (D.1 42)), some (.ref (D.1 43)), some (.int (nI (nm1 + 1))), some (.int (nI e)), none, none, none, none, none, none, none, none]) ⟨rfl, rfl, rfl, rfl, rfl, rfl, rfl, rfl, rfl, rfl, rfl, trivial⟩ ?_
                exact kk V4 hX4
              · exact absurd (Classical.not_not.mp hc7) (by decide)
      · exact absurd rfl hc3
    · replace hc2 : ¬ _ := fun z9 => hc2 ((nI_ltI (a := 2) (b := w) (by omega) (by omega)).mpr z9)
      refine Z_run C it_Lh 4 (f2 := (759, [some (.ref (D.1 52)), some (.ref (D.1 0)), some (.ref (D.1 37)), some (.ref (D.1 38)), some (.ref (D.1 39)), some (.ref (D.1 40)), some (.ref (D.1 41)), some (.ref (D.1 42)), some (.ref (D.1 43)), some (.int (nI (nm1 + 1))), some (.int (nI e)), none, none, none, none, none, some (.int (bI false)), some (.int (nI w)), none], [.int (nI 3), .ref (D.1 39), .ref (D.1 38), .ref (D.1 37), .int (nI 1), .ref (D.1 39)])) rfl ?_
      refine Zm_ald C it_Lh hD 39 10 rfl (by decide) rfl (by decide) (by decide) rfl (j := 3) (by omega) (v := .int (nI tn1)) (congrArg Value.int (by first | exact hX.2.2.1.2.2.1 | exact (show upd (V 39) 1 (nI 1) 3 = nI tn1 from hX.2.2.1.2.2.1))) ?_
      refine Zr_callS C it_Lh rfl p_Lw_moves ml_Lw_87 [.ref (D.1 37), .ref (D.1 38), .int (nI tn1)] (ct_Lw_moves C.ev C.l F _ _ hpq (HM D V P PH) _ _ (HR_37 hD (show V 37 = V 37 from rfl)) (HR_38 hD (show V 38 = V 38 from rfl)) tn1 (by omega) _) rfl rfl ⟨by decide, by decide, by show k + 0 + 0 ≤ 600130; omega, by show n + 0 + 0 ≤ 7301080; omega⟩ (Nat.le_of_ble_eq_true rfl) rfl ?_
      show Z E G (HM D V P PH) sz k n (763, [some (.ref (D.1 52)), some (.ref (D.1 0)), some (.ref (D.1 37)), some (.ref (D.1 38)), some (.ref (D.1 39)), some (.ref (D.1 40)), some (.ref (D.1 41)), some (.ref (D.1 42)), some (.ref (D.1 43)), some (.int (nI (nm1 + 1))), some (.int (nI e)), none, none, none, none, none, some (.int (bI false)), some (.int (nI w)), none], [.int (nI (mvs F tn1 36)), .int (nI 1), .ref (D.1 39)])
      refine Z_br C it_Lh rfl rfl (fun hc8 => ?_) (fun hc8 => ?_)
      · replace hc8 : ¬ _ := fun z9 => hc8 ((nI_e0 (a := mvs F tn1 36) (by omega)).mpr z9)
        refine Z_run C it_Lh 1 (f2 := (771, [some (.ref (D.1 52)), some (.ref (D.1 0)), some (.ref (D.1 37)), some (.ref (D.1 38)), some (.ref (D.1 39)), some (.ref (D.1 40)), some (.ref (D.1 41)), some (.ref (D.1 42)), some (.ref (D.1 43)), some (.int (nI (nm1 + 1))), some (.int (nI e)), none, none, none, none, none, some (.int (bI false)), some (.int (nI w)), none], [.int (nI 0), .int (nI 1), .ref (D.1 39)])) rfl ?_
        have e9 : nI 0 = bI ov := bI_f (by rw [hov]; simp only [Bool.false_or, Bool.or_eq_false_iff, decide_eq_false_iff_not, beq_eq_false_iff_ne]; omega)
        refine Zm_ast C it_Lh hD 39 10 rfl (by first | decide | exact isB_k hb | omega) rfl (by decide) rfl (j := 1) (by omega) trivial rfl ?_
        refine Z_run C it_Lh 3 (f2 := (777, [some (.ref (D.1 52)), some (.ref (D.1 0)), some (.ref (D.1 37)), some (.ref (D.1 38)), some (.ref (D.1 39)), some (.ref (D.1 40)), some (.ref (D.1 41)), some (.ref (D.1 42)), some (.ref (D.1 43)), some (.int (nI (nm1 + 1))), some (.int (nI e)), none, none, none, none, none, some (.int (bI false)), some (.int (nI w)), none], [.int (bI false), .int (nI 2), .ref (D.1 39)])) rfl ?_
        refine Z_br C it_Lh rfl rfl (fun hc9 => ?_) (fun hc9 => ?_)
        · skip
          refine Z_run C it_Lh 2 (f2 := (792, [some (.ref (D.1 52)), some (.ref (D.1 0)), some (.ref (D.1 37)), some (.ref (D.1 38)), some (.ref (D.1 39)), some (.ref (D.1 40)), some (.ref (D.1 41)), some (.ref (D.1 42)), some (.ref (D.1 43)), some (.int (nI (nm1 + 1))), some (.int (nI e)), none, none, none, none, none, some (.int (bI false)), some (.int (nI w)), none], [.int (nI 2), .ref (D.1 39), .int (nI 2), .ref (D.1 39)])) rfl ?_
          refine Zm_ald C it_Lh hD 39 10 rfl (by decide) rfl (by decide) (by decide) rfl (j := 2) (by omega) (v := .int v2) (congrArg Value.int (show upd (V 39) 1 (nI 0) 2 = v2 from hX.2.2.1.2.1)) ?_
          have e8 : v2 = chI ch := hch
          refine Zm_ast C it_Lh hD 39 10 rfl (by first | decide | exact isB_k hb | omega) rfl (by decide) rfl (j := 2) (by omega) trivial rfl ?_
          obtain ⟨V2, eV2⟩ : ∃ V2 : Nat → Nat → Int32, (vset (vset V 39 1 (nI 0)) 39 2 v2) = V2 := ⟨_, rfl⟩
          have g39 : V2 39 = upd (upd (V 39) 1 (bI ov)) 2 (chI ch) := by rw [← eV2, ← e9, ← e8]; rfl
          have gc : ∀ c, c ≠ 39 → V2 c = V c := fun c h9 => by rw [← eV2, vset_n h9, vset_n h9]
          rw [eV2]
          have hX2 : LX D V2 P PH sz F L tn1 md1 ov ch Bd nb (bI ov) (chI ch) (nI tn1) v4 := by
            obtain ⟨x1, x2, x3, x4, x5⟩ := hX
            refine ⟨GS_fr x1 (fun c h9 => gc c (by omega)) (fun _ _ => rfl), by rw [gc 37 (by decide), gc 38 (by decide)]; exact x2, ⟨?_, ?_, ?_, ?_⟩, fun s hs => ?_, x5⟩
            · rw [g39, upd_n (by decide), upd_s]
            · rw [g39, upd_s]
            · rw [g39, upd_n (by decide), upd_n (by decide)]; exact x3.2.2.1
            · rw [g39, upd_n (by decide), upd_n (by decide)]; exact x3.2.2.2
            · rw [gc 4 (by decide), gc 5 (by decide), g39, upd_n (by omega), upd_n (by omega), upd_n (by omega), upd_n (by omega), upd_n (by omega), upd_n (by omega), upd_n (by omega), upd_n (by omega)]; exact x4 s hs
          have hLB2 := LB_of hX2.1
          refine Z_run C it_Lh 1 (f2 := (795, [some (.ref (D.1 52)), some (.ref (D.1 0)), some (.ref (D.1 37)), some (.ref (D.1 38)), some (.ref (D.1 39)), some (.ref (D.1 40)), some (.ref (D.1 41)), some (.ref (D.1 42)), some (.ref (D.1 43)), some (.int (nI (nm1 + 1))), some (.int (nI e)), none, none, none, none, none, some (.int (bI false)), some (.int (nI w)), none], [.ref (D.1 0)])) rfl ?_
          refine Zr_callV C it_Lh hD rfl p_Xx_repetitions ml_Lw_138 0 (by decide) rfl rfl [] (gs_rep C.ev C.l hD hX2.1) rfl rfl ⟨by decide, by decide, by show k + 0 + 0 ≤ 600130; omega, by show n + 0 + 0 ≤ 7301080; omega⟩ (Nat.le_of_ble_eq_true rfl) rfl ?_
          show Z E G (HM D V2 P PH) sz k n (798, [some (.ref (D.1 52)), some (.ref (D.1 0)), some (.ref (D.1 37)), some (.ref (D.1 38)), some (.ref (D.1 39)), some (.ref (D.1 40)), some (.ref (D.1 41)), some (.ref (D.1 42)), some (.ref (D.1 43)), some (.int (nI (nm1 + 1))), some (.int (nI e)), none, none, none, none, none, some (.int (bI false)), some (.int (nI w)), none], [.int (nI (tmz L))])
          refine Z_run C it_Lh 1 (f2 := (800, [some (.ref (D.1 52)), some (.ref (D.1 0)), some (.ref (D.1 37)), some (.ref (D.1 38)), some (.ref (D.1 39)), some (.ref (D.1 40)), some (.ref (D.1 41)), some (.ref (D.1 42)), some (.ref (D.1 43)), some (.int (nI (nm1 + 1))), some (.int (nI e)), none, none, none, none, none, some (.int (bI false)), some (.int (nI w)), none], [.int (nI w), .int (nI (tmz L))])) rfl ?_
          refine Z_br C it_Lh rfl rfl (fun hc10 => ?_) (fun hc10 => ?_)
          · exact absurd (by rw [htm]) hc10
          · skip
            refine Z_run C it_Lh 3 (f2 := (807, [some (.ref (D.1 52)), some (.ref (D.1 0)), some (.ref (D.1 37)), some (.ref (D.1 38)), some (.ref (D.1 39)), some (.ref (D.1 40)), some (.ref (D.1 41)), some (.ref (D.1 42)), some (.ref (D.1 43)), some (.int (nI (nm1 + 1))), some (.int (nI e)), none, none, none, none, none, some (.int (bI false)), some (.int (nI w)), none], [.int (nI e % nI 4)])) rfl ?_
            rw [nI_mod (a := e) (d := 4) (by omega) (by omega) (by omega)]
            refine Z_br C it_Lh rfl rfl (fun hc11 => ?_) (fun hc11 => ?_)
            · replace hc11 : ¬ _ := fun z9 => hc11 ((nI_e0 (a := e % 4) (by omega)).mpr z9)
              refine Z_sub (ls2 := [some (.ref (D.1 52)), some (.ref (D.1 0)), some (.ref (D.1 37)), some (.ref (D.1 38)), some (.ref (D.1 39)), some (.ref (D.1 40)), some (.ref (D.1 41)), some (.ref (D.1 42)), some (.ref (D.1 43)), some (.int (nI (nm1 + 1))), some (.int (nI e)), none, none, none, none, none, none, none, none]) ⟨rfl, rfl, rfl, rfl, rfl, rfl, rfl, rfl, rfl, rfl, rfl, trivial⟩ ?_
              refine Z_widen (k2 := k + 1228) (n2 := n + 20772) (by omega) (by omega) ?_
              exact kk V2 hX2
            · replace hc11 := Classical.not_not.mp hc11
              replace hc11 := (nI_e0 (a := e % 4) (by omega)).mp hc11
              refine Z_run C it_Lh 3 (f2 := (813, [some (.ref (D.1 52)), some (.ref (D.1 0)), some (.ref (D.1 37)), some (.ref (D.1 38)), some (.ref (D.1 39)), some (.ref (D.1 40)), some (.ref (D.1 41)), some (.ref (D.1 42)), some (.ref (D.1 43)), some (.int (nI (nm1 + 1))), some (.int (nI e)), none, none, none, none, none, some (.int (bI false)), some (.int (nI w)), none], [.ref (D.1 38), .ref (D.1 37), .ref (D.1 0)])) rfl ?_
              refine Zr_eoV C it_Lh rfl p_Lw_squares ml_Lw_134 [.ref (D.1 0), .ref (D.1 37), .ref (D.1 38)] (ct_Lw_squares C.ev C.l hD (LB_of hX2.1) hX2.2.1 (GS_pcs hX2.1) _) rfl rfl ⟨by decide, by decide, by show k + 0 + 468 ≤ 600130; omega, by show n + 0 + 5472 ≤ 7301080; omega⟩ (Nat.le_of_ble_eq_true rfl) rfl (fun V3 hV3 => ?_)
              have hX3 := LX_fr hX2 hV3
              show Z E G (HM D V3 P PH) sz (k + 468) (n + 5472) (816, [some (.ref (D.1 52)), some (.ref (D.1 0)), some (.ref (D.1 37)), some (.ref (D.1 38)), some (.ref (D.1 39)), some (.ref (D.1 40)), some (.ref (D.1 41)), some (.ref (D.1 42)), some (.ref (D.1 43)), some (.int (nI (nm1 + 1))), some (.int (nI e)), none, none, none, none, none, some (.int (bI false)), some (.int (nI w)), none], [.int (nI 1)])
              refine Z_br C it_Lh rfl rfl (fun hc12 => ?_) (fun hc12 => ?_)
              · exact absurd hc12 (by decide)
              · skip
                refine Z_run C it_Lh 3 (f2 := (822, [some (.ref (D.1 52)), some (.ref (D.1 0)), some (.ref (D.1 37)), some (.ref (D.1 38)), some (.ref (D.1 39)), some (.ref (D.1 40)), some (.ref (D.1 41)), some (.ref (D.1 42)), some (.ref (D.1 43)), some (.int (nI (nm1 + 1))), some (.int (nI e)), none, none, none, none, none, some (.int (bI false)), some (.int (nI w)), none], [.ref (D.1 38), .ref (D.1 37), .ref (D.1 0)])) rfl ?_
                refine Zr_eoV C it_Lh rfl p_Lw_sides ml_Lw_154 [.ref (D.1 0), .ref (D.1 37), .ref (D.1 38)] (ct_Lw_sides C.ev C.l hD (LB_of hX3.1) hX3.2.1 (GS_pcs hX3.1) hX3.1.2.2.2.2.2.2.2 _) rfl rfl ⟨by decide, by decide, by show k + 468 + 760 ≤ 600130; omega, by show n + 5472 + 15300 ≤ 7301080; omega⟩ (Nat.le_of_ble_eq_true rfl) rfl (fun V4 hV4 => ?_)
                have hX4 := LX_fr hX3 hV4
                show Z E G (HM D V4 P PH) sz (k + 1228) (n + 20772) (825, [some (.ref (D.1 52)), some (.ref (D.1 0)), some (.ref (D.1 37)), some (.ref (D.1 38)), some (.ref (D.1 39)), some (.ref (D.1 40)), some (.ref (D.1 41)), some (.ref (D.1 42)), some (.ref (D.1 43)), some (.int (nI (nm1 + 1))), some (.int (nI e)), none, none, none, none, none, some (.int (bI false)), some (.int (nI w)), none], [.int (nI 1)])
                refine Z_br C it_Lh rfl rfl (fun hc13 => ?_) (fun hc13 => ?_)
                · skip
                  refine Z_sub (ls2 := [some (.ref (D.1 52)), some (.ref (D.1 0)), some (.ref (D.1 37)), some (.ref (D.1 38)), some (.ref (D.1 39)), some (.ref (D.1 40)), some (.ref (D.1 41)), some (.ref (D.1 42)), some (.ref (D.1 43)), some (.int (nI (nm1 + 1))), some (.int (nI e)), none, none, none, none, none, none, none, none]) ⟨rfl, rfl, rfl, rfl, rfl, rfl, rfl, rfl, rfl, rfl, rfl, trivial⟩ ?_
                  exact kk V4 hX4
                · exact absurd (Classical.not_not.mp hc13) (by decide)
        · exact absurd rfl hc9
      · replace hc8 := Classical.not_not.mp hc8
        replace hc8 := (nI_e0 (a := mvs F tn1 36) (by omega)).mp hc8
        refine Z_run C it_Lh 2 (f2 := (771, [some (.ref (D.1 52)), some (.ref (D.1 0)), some (.ref (D.1 37)), some (.ref (D.1 38)), some (.ref (D.1 39)), some (.ref (D.1 40)), some (.ref (D.1 41)), some (.ref (D.1 42)), some (.ref (D.1 43)), some (.int (nI (nm1 + 1))), some (.int (nI e)), none, none, none, none, none, some (.int (bI false)), some (.int (nI w)), none], [.int (nI 1), .int (nI 1), .ref (D.1 39)])) rfl ?_
        have e9 : nI 1 = bI ov := bI_t (by rw [hov]; simp only [Bool.false_or, Bool.or_eq_true, decide_eq_true_eq, beq_iff_eq]; omega)
        refine Zm_ast C it_Lh hD 39 10 rfl (by first | decide | exact isB_k hb | omega) rfl (by decide) rfl (j := 1) (by omega) trivial rfl ?_
        refine Z_run C it_Lh 3 (f2 := (777, [some (.ref (D.1 52)), some (.ref (D.1 0)), some (.ref (D.1 37)), some (.ref (D.1 38)), some (.ref (D.1 39)), some (.ref (D.1 40)), some (.ref (D.1 41)), some (.ref (D.1 42)), some (.ref (D.1 43)), some (.int (nI (nm1 + 1))), some (.int (nI e)), none, none, none, none, none, some (.int (bI false)), some (.int (nI w)), none], [.int (bI false), .int (nI 2), .ref (D.1 39)])) rfl ?_
        refine Z_br C it_Lh rfl rfl (fun hc14 => ?_) (fun hc14 => ?_)
        · skip
          refine Z_run C it_Lh 2 (f2 := (792, [some (.ref (D.1 52)), some (.ref (D.1 0)), some (.ref (D.1 37)), some (.ref (D.1 38)), some (.ref (D.1 39)), some (.ref (D.1 40)), some (.ref (D.1 41)), some (.ref (D.1 42)), some (.ref (D.1 43)), some (.int (nI (nm1 + 1))), some (.int (nI e)), none, none, none, none, none, some (.int (bI false)), some (.int (nI w)), none], [.int (nI 2), .ref (D.1 39), .int (nI 2), .ref (D.1 39)])) rfl ?_
          refine Zm_ald C it_Lh hD 39 10 rfl (by decide) rfl (by decide) (by decide) rfl (j := 2) (by omega) (v := .int v2) (congrArg Value.int (show upd (V 39) 1 (nI 1) 2 = v2 from hX.2.2.1.2.1)) ?_
          have e8 : v2 = chI ch := hch
          refine Zm_ast C it_Lh hD 39 10 rfl (by first | decide | exact isB_k hb | omega) rfl (by decide) rfl (j := 2) (by omega) trivial rfl ?_
          obtain ⟨V2, eV2⟩ : ∃ V2 : Nat → Nat → Int32, (vset (vset V 39 1 (nI 1)) 39 2 v2) = V2 := ⟨_, rfl⟩
          have g39 : V2 39 = upd (upd (V 39) 1 (bI ov)) 2 (chI ch) := by rw [← eV2, ← e9, ← e8]; rfl
          have gc : ∀ c, c ≠ 39 → V2 c = V c := fun c h9 => by rw [← eV2, vset_n h9, vset_n h9]
          rw [eV2]
          have hX2 : LX D V2 P PH sz F L tn1 md1 ov ch Bd nb (bI ov) (chI ch) (nI tn1) v4 := by
            obtain ⟨x1, x2, x3, x4, x5⟩ := hX
            refine ⟨GS_fr x1 (fun c h9 => gc c (by omega)) (fun _ _ => rfl), by rw [gc 37 (by decide), gc 38 (by decide)]; exact x2, ⟨?_, ?_, ?_, ?_⟩, fun s hs => ?_, x5⟩
            · rw [g39, upd_n (by decide), upd_s]
            · rw [g39, upd_s]
            · rw [g39, upd_n (by decide), upd_n (by decide)]; exact x3.2.2.1
            · rw [g39, upd_n (by decide), upd_n (by decide)]; exact x3.2.2.2
            · rw [gc 4 (by decide), gc 5 (by decide), g39, upd_n (by omega), upd_n (by omega), upd_n (by omega), upd_n (by omega), upd_n (by omega), upd_n (by omega), upd_n (by omega), upd_n (by omega)]; exact x4 s hs
          have hLB2 := LB_of hX2.1
          refine Z_run C it_Lh 1 (f2 := (795, [some (.ref (D.1 52)), some (.ref (D.1 0)), some (.ref (D.1 37)), some (.ref (D.1 38)), some (.ref (D.1 39)), some (.ref (D.1 40)), some (.ref (D.1 41)), some (.ref (D.1 42)), some (.ref (D.1 43)), some (.int (nI (nm1 + 1))), some (.int (nI e)), none, none, none, none, none, some (.int (bI false)), some (.int (nI w)), none], [.ref (D.1 0)])) rfl ?_
          refine Zr_callV C it_Lh hD rfl p_Xx_repetitions ml_Lw_138 0 (by decide) rfl rfl [] (gs_rep C.ev C.l hD hX2.1) rfl rfl ⟨by decide, by decide, by show k + 0 + 0 ≤ 600130; omega, by show n + 0 + 0 ≤ 7301080; omega⟩ (Nat.le_of_ble_eq_true rfl) rfl ?_
          show Z E G (HM D V2 P PH) sz k n (798, [some (.ref (D.1 52)), some (.ref (D.1 0)), some (.ref (D.1 37)), some (.ref (D.1 38)), some (.ref (D.1 39)), some (.ref (D.1 40)), some (.ref (D.1 41)), some (.ref (D.1 42)), some (.ref (D.1 43)), some (.int (nI (nm1 + 1))), some (.int (nI e)), none, none, none, none, none, some (.int (bI false)), some (.int (nI w)), none], [.int (nI (tmz L))])
          refine Z_run C it_Lh 1 (f2 := (800, [some (.ref (D.1 52)), some (.ref (D.1 0)), some (.ref (D.1 37)), some (.ref (D.1 38)), some (.ref (D.1 39)), some (.ref (D.1 40)), some (.ref (D.1 41)), some (.ref (D.1 42)), some (.ref (D.1 43)), some (.int (nI (nm1 + 1))), some (.int (nI e)), none, none, none, none, none, some (.int (bI false)), some (.int (nI w)), none], [.int (nI w), .int (nI (tmz L))])) rfl ?_
          refine Z_br C it_Lh rfl rfl (fun hc15 => ?_) (fun hc15 => ?_)
          · exact absurd (by rw [htm]) hc15
          · skip
            refine Z_run C it_Lh 3 (f2 := (807, [some (.ref (D.1 52)), some (.ref (D.1 0)), some (.ref (D.1 37)), some (.ref (D.1 38)), some (.ref (D.1 39)), some (.ref (D.1 40)), some (.ref (D.1 41)), some (.ref (D.1 42)), some (.ref (D.1 43)), some (.int (nI (nm1 + 1))), some (.int (nI e)), none, none, none, none, none, some (.int (bI false)), some (.int (nI w)), none], [.int (nI e % nI 4)])) rfl ?_
            rw [nI_mod (a := e) (d := 4) (by omega) (by omega) (by omega)]
            refine Z_br C it_Lh rfl rfl (fun hc16 => ?_) (fun hc16 => ?_)
            · replace hc16 : ¬ _ := fun z9 => hc16 ((nI_e0 (a := e % 4) (by omega)).mpr z9)
              refine Z_sub (ls2 := [some (.ref (D.1 52)), some (.ref (D.1 0)), some (.ref (D.1 37)), some (.ref (D.1 38)), some (.ref (D.1 39)), some (.ref (D.1 40)), some (.ref (D.1 41)), some (.ref (D.1 42)), some (.ref (D.1 43)), some (.int (nI (nm1 + 1))), some (.int (nI e)), none, none, none, none, none, none, none, none]) ⟨rfl, rfl, rfl, rfl, rfl, rfl, rfl, rfl, rfl, rfl, rfl, trivial⟩ ?_
              refine Z_widen (k2 := k + 1228) (n2 := n + 20772) (by omega) (by omega) ?_
              exact kk V2 hX2
            · replace hc16 := Classical.not_not.mp hc16
              replace hc16 := (nI_e0 (a := e % 4) (by omega)).mp hc16
              refine Z_run C it_Lh 3 (f2 := (813, [some (.ref (D.1 52)), some (.ref (D.1 0)), some (.ref (D.1 37)), some (.ref (D.1 38)), some (.ref (D.1 39)), some (.ref (D.1 40)), some (.ref (D.1 41)), some (.ref (D.1 42)), some (.ref (D.1 43)), some (.int (nI (nm1 + 1))), some (.int (nI e)), none, none, none, none, none, some (.int (bI false)), some (.int (nI w)), none], [.ref (D.1 38), .ref (D.1 37), .ref (D.1 0)])) rfl ?_
              refine Zr_eoV C it_Lh rfl p_Lw_squares ml_Lw_134 [.ref (D.1 0), .ref (D.1 37), .ref (D.1 38)] (ct_Lw_squares C.ev C.l hD (LB_of hX2.1) hX2.2.1 (GS_pcs hX2.1) _) rfl rfl ⟨by decide, by decide, by show k + 0 + 468 ≤ 600130; omega, by show n + 0 + 5472 ≤ 7301080; omega⟩ (Nat.le_of_ble_eq_true rfl) rfl (fun V3 hV3 => ?_)
              have hX3 := LX_fr hX2 hV3
              show Z E G (HM D V3 P PH) sz (k + 468) (n + 5472) (816, [some (.ref (D.1 52)), some (.ref (D.1 0)), some (.ref (D.1 37)), some (.ref (D.1 38)), some (.ref (D.1 39)), some (.ref (D.1 40)), some (.ref (D.1 41)), some (.ref (D.1 42)), some (.ref (D.1 43)), some (.int (nI (nm1 + 1))), some (.int (nI e)), none, none, none, none, none, some (.int (bI false)), some (.int (nI w)), none], [.int (nI 1)])
              refine Z_br C it_Lh rfl rfl (fun hc17 => ?_) (fun hc17 => ?_)
              · exact absurd hc17 (by decide)
              · skip
                refine Z_run C it_Lh 3 (f2 := (822, [some (.ref (D.1 52)), some (.ref (D.1 0)), some (.ref (D.1 37)), some (.ref (D.1 38)), some (.ref (D.1 39)), some (.ref (D.1 40)), some (.ref (D.1 41)), some (.ref (D.1 42)), some (.ref (D.1 43)), some (.int (nI (nm1 + 1))), some (.int (nI e)), none, none, none, none, none, some (.int (bI false)), some (.int (nI w)), none], [.ref (D.1 38), .ref (D.1 37), .ref (D.1 0)])) rfl ?_
                refine Zr_eoV C it_Lh rfl p_Lw_sides ml_Lw_154 [.ref (D.1 0), .ref (D.1 37), .ref (D.1 38)] (ct_Lw_sides C.ev C.l hD (LB_of hX3.1) hX3.2.1 (GS_pcs hX3.1) hX3.1.2.2.2.2.2.2.2 _) rfl rfl ⟨by decide, by decide, by show k + 468 + 760 ≤ 600130; omega, by show n + 5472 + 15300 ≤ 7301080; omega⟩ (Nat.le_of_ble_eq_true rfl) rfl (fun V4 hV4 => ?_)
                have hX4 := LX_fr hX3 hV4
                show Z E G (HM D V4 P PH) sz (k + 1228) (n + 20772) (825, [some (.ref (D.1 52)), some (.ref (D.1 0)), some (.ref (D.1 37)), some (.ref (D.1 38)), some (.ref (D.1 39)), some (.ref (D.1 40)), some (.ref (D.1 41)), some (.ref (D.1 42)), some (.ref (D.1 43)), some (.int (nI (nm1 + 1))), some (.int (nI e)), none, none, none, none, none, some (.int (bI false)), some (.int (nI w)), none], [.int (nI 1)])
                refine Z_br C it_Lh rfl rfl (fun hc18 => ?_) (fun hc18 => ?_)
                · skip
                  refine Z_sub (ls2 := [some (.ref (D.1 52)), some (.ref (D.1 0)), some (.ref (D.1 37)), some (.ref (D.1 38)), some (.ref (D.1 39)), some (.ref (D.1 40)), some (.ref (D.1 41)), some (.ref (D.1 42)), some (.ref (D.1 43)), some (.int (nI (nm1 + 1))), some (.int (nI e)), none, none, none, none, none, none, none, none]) ⟨rfl, rfl, rfl, rfl, rfl, rfl, rfl, rfl, rfl, rfl, rfl, trivial⟩ ?_
                  exact kk V4 hX4
                · exact absurd (Classical.not_not.mp hc18) (by decide)
        · exact absurd rfl hc14
set_option maxRecDepth 20000 in
theorem gc_830 {E : zE} {G : zG} {nm : String} (C : zCx E G code 19 R_Lw nm (some .boolean) room_1) {D : zD} (hD : zDok E D) (hL : D.2.2.1 ≤ 260) {V : Nat → Nat → Int32} {P : Nat → Nat → Value} {PH : aH} {sz : Nat} {F : Nat → Nat} {Bd : Nat → Nat → Nat} {md : Nat} {ov : Bool} {ch : Option Nat} (hW : LW D V P PH sz F Bd md ov ch) (hmd : md ≤ 60) {k n : Nat} (hk : k + 20 ≤ 600000) (hn : n + 100 ≤ 7300000) {xm : Int32} {e : Nat} (kk : Z E G (HM D V P PH) sz (k + 20) (n + 100) (1004, [some (.ref (D.1 52)), some (.ref (D.1 0)), some (.ref (D.1 37)), some (.ref (D.1 38)), some (.ref (D.1 39)), some (.ref (D.1 40)), some (.ref (D.1 41)), some (.ref (D.1 42)), some (.ref (D.1 43)), some (.int xm), some (.int (nI e)), none, none, none, none, none, none, none, none], [])) : Z E G (HM D V P PH) sz k n (830, [some (.ref (D.1 52)), some (.ref (D.1 0)), some (.ref (D.1 37)), some (.ref (D.1 38)), some (.ref (D.1 39)), some (.ref (D.1 40)), some (.ref (D.1 41)), some (.ref (D.1 42)), some (.ref (D.1 43)), some (.int xm), some (.int (nI e)), none, none, none, none, none, none, none, none], []) := by
  have hLB := LB_of hW.1.1
  have hpq := hW.1.2.1
  have hF := hpq.1
  have htn : md % 2 < 2 := Nat.mod_lt _ (by decide)
  have hpc := GS_pcs hW.1.1
  have hw0 := wos_le (F := F) (s := 0)
  have hw1 := wos_le (F := F) (s := 1)
  have hboth : 0 < wos F 0 36 + wos F 1 36 := by
    obtain ⟨x, hx, hx0⟩ := hW.2.2.2
    have hs0 : stp (F x) ≠ 0 := fun z => hx0 ((hpq.2 x hx).2.1 z)
    have hwp := wr_pos (hF x hx) hx0 hs0
    have hsx := sd_le (F x)
    rcases (show sd (F x) = 0 ∨ sd (F x) = 1 by omega) with g | g
    · have := wos_pos (s := 0) (hld_t hx0 g) hwp hx; omega
    · have := wos_pos (s := 1) (hld_t hx0 g) hwp hx; omega
  have hc2z : ¬ nI (wos F 0 36 + wos F 1 36) = 0 := fun z => by have := (nI_e0 (by omega)).mp z; omega
  refine Z_run C it_Li 1 (f2 := (831, [some (.ref (D.1 52)), some (.ref (D.1 0)), some (.ref (D.1 37)), some (.ref (D.1 38)), some (.ref (D.1 39)), some (.ref (D.1 40)), some (.ref (D.1 41)), some (.ref (D.1 42)), some (.ref (D.1 43)), some (.int xm), some (.int (nI e)), none, none, none, none, none, none, none, none], [.ref (D.1 0)])) rfl ?_
  refine Zr_callV C it_Li hD rfl p_Xx_isOver ml_Lw_157 0 (by decide) rfl rfl [] (gs_isOver C.ev C.l hD hW.1.1) rfl rfl ⟨by decide, by decide, by show k + 0 + 0 ≤ 600130; omega, by show n + 0 + 0 ≤ 7301080; omega⟩ (Nat.le_of_ble_eq_true rfl) rfl ?_
  show Z E G (HM D V P PH) sz k n (834, [some (.ref (D.1 52)), some (.ref (D.1 0)), some (.ref (D.1 37)), some (.ref (D.1 38)), some (.ref (D.1 39)), some (.ref (D.1 40)), some (.ref (D.1 41)), some (.ref (D.1 42)), some (.ref (D.1 43)), some (.int xm), some (.int (nI e)), none, none, none, none, none, none, none, none], [.int (bI ov)])
  refine Z_run C it_Li 2 (f2 := (837, [some (.ref (D.1 52)), some (.ref (D.1 0)), some (.ref (D.1 37)), some (.ref (D.1 38)), some (.ref (D.1 39)), some (.ref (D.1 40)), some (.ref (D.1 41)), some (.ref (D.1 42)), some (.ref (D.1 43)), some (.int xm), some (.int (nI e)), none, none, none, none, none, none, none, none], [.int (nI 1), .ref (D.1 39), .int (bI ov)])) rfl ?_
  refine Zm_ald C it_Li hD 39 10 rfl (by decide) rfl (by decide) (by decide) rfl (j := 1) (by omega) (v := .int (bI ov)) (congrArg Value.int hW.1.2.2.1.1) ?_
  refine Z_run C it_Li 1 (f2 := (839, [some (.ref (D.1 52)), some (.ref (D.1 0)), some (.ref (D.1 37)), some (.ref (D.1 38)), some (.ref (D.1 39)), some (.ref (D.1 40)), some (.ref (D.1 41)), some (.ref (D.1 42)), some (.ref (D.1 43)), some (.int xm), some (.int (nI e)), none, none, none, none, none, none, none, none], [.int (nI 1), .int (bI ov), .int (bI ov)])) rfl ?_
  refine Z_br C it_Li rfl rfl (fun hc1 => ?_) (fun hc1 => ?_)
  · have hov : ¬ ov = true := fun z => hc1 (bI_eq1.mpr z)
    refine Z_run C it_Li 1 (f2 := (847, [some (.ref (D.1 52)), some (.ref (D.1 0)), some (.ref (D.1 37)), some (.ref (D.1 38)), some (.ref (D.1 39)), some (.ref (D.1 40)), some (.ref (D.1 41)), some (.ref (D.1 42)), some (.ref (D.1 43)), some (.int xm), some (.int (nI e)), none, none, none, none, none, none, none, none], [.int (nI 0), .int (bI ov)])) rfl ?_
    refine Z_br C it_Li rfl rfl (fun hc2 => ?_) (fun hc2 => ?_)
    · exact absurd (by first | (rw [hov]; rfl) | (rw [Bool.eq_false_iff.mpr hov]; rfl)) hc2
    · skip
      refine Z_run C it_Li 1 (f2 := (851, [some (.ref (D.1 52)), some (.ref (D.1 0)), some (.ref (D.1 37)), some (.ref (D.1 38)), some (.ref (D.1 39)), some (.ref (D.1 40)), some (.ref (D.1 41)), some (.ref (D.1 42)), some (.ref (D.1 43)), some (.int xm), some (.int (nI e)), none, none, none, none, none, none, none, none], [.ref (D.1 0)])) rfl ?_
      refine Z_callSX C it_Li rfl p_Lw_winner ml_Lw_161 [.ref (D.1 0)] (gs_winner C.ev C.l hD hW.1.1) rfl rfl ⟨by decide, by decide, by show k + 0 + 1 ≤ 600130; omega, by show n + 0 + 6 ≤ 7301080; omega⟩ (Nat.le_of_ble_eq_true rfl) rfl (fun v h3 sz3 hO => ?_) (fun X h3 sz3 hO => by cases hO.1)
      obtain ⟨e1, rfl, e2⟩ := hO
      cases e1
      rw [e2]
      show Z E G (HM D V P PH) sz (k + 1) (n + 6) (854, [some (.ref (D.1 52)), some (.ref (D.1 0)), some (.ref (D.1 37)), some (.ref (D.1 38)), some (.ref (D.1 39)), some (.ref (D.1 40)), some (.ref (D.1 41)), some (.ref (D.1 42)), some (.ref (D.1 43)), some (.int xm), some (.int (nI e)), none, none, none, none, none, none, none, none], [.int (chI ch)])
      refine Z_run C it_Li 2 (f2 := (857, [some (.ref (D.1 52)), some (.ref (D.1 0)), some (.ref (D.1 37)), some (.ref (D.1 38)), some (.ref (D.1 39)), some (.ref (D.1 40)), some (.ref (D.1 41)), some (.ref (D.1 42)), some (.ref (D.1 43)), some (.int xm), some (.int (nI e)), none, none, none, none, none, none, none, none], [.int (nI 2), .ref (D.1 39), .int (chI ch)])) rfl ?_
      refine Zm_ald C it_Li hD 39 10 rfl (by decide) rfl (by decide) (by decide) rfl (j := 2) (by omega) (v := .int (chI ch)) (congrArg Value.int hW.1.2.2.1.2.1) ?_
      refine Z_br C it_Li rfl rfl (fun hc3 => ?_) (fun hc3 => ?_)
      · exact absurd (rfl) hc3
      · skip
        refine Z_run C it_Li 1 (f2 := (862, [some (.ref (D.1 52)), some (.ref (D.1 0)), some (.ref (D.1 37)), some (.ref (D.1 38)), some (.ref (D.1 39)), some (.ref (D.1 40)), some (.ref (D.1 41)), some (.ref (D.1 42)), some (.ref (D.1 43)), some (.int xm), some (.int (nI e)), none, none, none, none, none, none, none, none], [.ref (D.1 0)])) rfl ?_
        refine Zr_callV C it_Li hD rfl p_Xx_toMove ml_Lw_163 0 (by decide) rfl rfl [] (gs_toMove C.ev C.l hD hW.1.1) rfl rfl ⟨by decide, by decide, by show k + 1 + 0 ≤ 600130; omega, by show n + 6 + 0 ≤ 7301080; omega⟩ (Nat.le_of_ble_eq_true rfl) rfl ?_
        show Z E G (HM D V P PH) sz (k + 1) (n + 6) (865, [some (.ref (D.1 52)), some (.ref (D.1 0)), some (.ref (D.1 37)), some (.ref (D.1 38)), some (.ref (D.1 39)), some (.ref (D.1 40)), some (.ref (D.1 41)), some (.ref (D.1 42)), some (.ref (D.1 43)), some (.int xm), some (.int (nI e)), none, none, none, none, none, none, none, none], [.int (nI (md % 2))])
        refine Z_run C it_Li 2 (f2 := (868, [some (.ref (D.1 52)), some (.ref (D.1 0)), some (.ref (D.1 37)), some (.ref (D.1 38)), some (.ref (D.1 39)), some (.ref (D.1 40)), some (.ref (D.1 41)), some (.ref (D.1 42)), some (.ref (D.1 43)), some (.int xm), some (.int (nI e)), none, none, none, none, none, none, none, none], [.int (nI 3), .ref (D.1 39), .int (nI (md % 2))])) rfl ?_
        refine Zm_ald C it_Li hD 39 10 rfl (by decide) rfl (by decide) (by decide) rfl (j := 3) (by omega) (v := .int (nI (md % 2))) (congrArg Value.int hW.1.2.2.1.2.2.1) ?_
        refine Z_br C it_Li rfl rfl (fun hc4 => ?_) (fun hc4 => ?_)
        · exact absurd (rfl) hc4
        · skip
          refine Z_run C it_Li 1 (f2 := (873, [some (.ref (D.1 52)), some (.ref (D.1 0)), some (.ref (D.1 37)), some (.ref (D.1 38)), some (.ref (D.1 39)), some (.ref (D.1 40)), some (.ref (D.1 41)), some (.ref (D.1 42)), some (.ref (D.1 43)), some (.int xm), some (.int (nI e)), none, none, none, none, none, none, none, none], [.ref (D.1 0)])) rfl ?_
          refine Zr_callV C it_Li hD rfl p_Xx_movesMade ml_Lw_166 0 (by decide) rfl rfl [] (gs_movesMade C.ev C.l hD hW.1.1) rfl rfl ⟨by decide, by decide, by show k + 1 + 0 ≤ 600130; omega, by show n + 6 + 0 ≤ 7301080; omega⟩ (Nat.le_of_ble_eq_true rfl) rfl ?_
          show Z E G (HM D V P PH) sz (k + 1) (n + 6) (876, [some (.ref (D.1 52)), some (.ref (D.1 0)), some (.ref (D.1 37)), some (.ref (D.1 38)), some (.ref (D.1 39)), some (.ref (D.1 40)), some (.ref (D.1 41)), some (.ref (D.1 42)), some (.ref (D.1 43)), some (.int xm), some (.int (nI e)), none, none, none, none, none, none, none, none], [.int (nI md)])
          refine Z_run C it_Li 2 (f2 := (879, [some (.ref (D.1 52)), some (.ref (D.1 0)), some (.ref (D.1 37)), some (.ref (D.1 38)), some (.ref (D.1 39)), some (.ref (D.1 40)), some (.ref (D.1 41)), some (.ref (D.1 42)), some (.ref (D.1 43)), some (.int xm), some (.int (nI e)), none, none, none, none, none, none, none, none], [.int (nI 4), .ref (D.1 39), .int (nI md)])) rfl ?_
          refine Zm_ald C it_Li hD 39 10 rfl (by decide) rfl (by decide) (by decide) rfl (j := 4) (by omega) (v := .int (nI md)) (congrArg Value.int hW.1.2.2.1.2.2.2) ?_
          refine Z_br C it_Li rfl rfl (fun hc5 => ?_) (fun hc5 => ?_)
          · exact absurd (rfl) hc5
          · skip
            refine Z_run C it_Li 2 (f2 := (885, [some (.ref (D.1 52)), some (.ref (D.1 0)), some (.ref (D.1 37)), some (.ref (D.1 38)), some (.ref (D.1 39)), some (.ref (D.1 40)), some (.ref (D.1 41)), some (.ref (D.1 42)), some (.ref (D.1 43)), some (.int xm), some (.int (nI e)), none, none, none, none, none, none, none, none], [.int (nI 0), .ref (D.1 0)])) rfl ?_
            refine Zr_callV C it_Li hD rfl p_Xx_captured ml_Lw_169 0 (by decide) rfl rfl [.int (nI 0)] (ct_Xx_captured C.ev C.l hD _ _ _ 0 (by decide) _) rfl rfl ⟨by decide, by decide, by show k + 1 + 1 ≤ 600130; omega, by show n + 6 + 6 ≤ 7301080; omega⟩ (Nat.le_of_ble_eq_true rfl) rfl ?_
            show Z E G (HM D V P PH) sz (k + 2) (n + 12) (888, [some (.ref (D.1 52)), some (.ref (D.1 0)), some (.ref (D.1 37)), some (.ref (D.1 38)), some (.ref (D.1 39)), some (.ref (D.1 40)), some (.ref (D.1 41)), some (.ref (D.1 42)), some (.ref (D.1 43)), some (.int xm), some (.int (nI e)), none, none, none, none, none, none, none, none], [.int (V 5 0)])
            refine Z_run C it_Li 2 (f2 := (892, [some (.ref (D.1 52)), some (.ref (D.1 0)), some (.ref (D.1 37)), some (.ref (D.1 38)), some (.ref (D.1 39)), some (.ref (D.1 40)), some (.ref (D.1 41)), some (.ref (D.1 42)), some (.ref (D.1 43)), some (.int xm), some (.int (nI e)), none, none, none, none, none, none, none, none], [.int (nI 7), .ref (D.1 39), .int (V 5 0)])) rfl ?_
            refine Zm_ald C it_Li hD 39 10 rfl (by decide) rfl (by decide) (by decide) rfl (j := 7) (by omega) (v := .int (V 39 7)) rfl ?_
            refine Z_br C it_Li rfl rfl (fun hc6 => ?_) (fun hc6 => ?_)
            · exact absurd ((hW.1.2.2.2.1 0 (by decide)).1) hc6
            · skip
              refine Z_run C it_Li 2 (f2 := (898, [some (.ref (D.1 52)), some (.ref (D.1 0)), some (.ref (D.1 37)), some (.ref (D.1 38)), some (.ref (D.1 39)), some (.ref (D.1 40)), some (.ref (D.1 41)), some (.ref (D.1 42)), some (.ref (D.1 43)), some (.int xm), some (.int (nI e)), none, none, none, none, none, none, none, none], [.int (nI 1), .ref (D.1 0)])) rfl ?_
              refine Zr_callV C it_Li hD rfl p_Xx_captured ml_Lw_169 0 (by decide) rfl rfl [.int (nI 1)] (ct_Xx_captured C.ev C.l hD _ _ _ 1 (by decide) _) rfl rfl ⟨by decide, by decide, by show k + 2 + 1 ≤ 600130; omega, by show n + 12 + 6 ≤ 7301080; omega⟩ (Nat.le_of_ble_eq_true rfl) rfl ?_
              show Z E G (HM D V P PH) sz (k + 3) (n + 18) (901, [some (.ref (D.1 52)), some (.ref (D.1 0)), some (.ref (D.1 37)), some (.ref (D.1 38)), some (.ref (D.1 39)), some (.ref (D.1 40)), some (.ref (D.1 41)), some (.ref (D.1 42)), some (.ref (D.1 43)), some (.int xm), some (.int (nI e)), none, none, none, none, none, none, none, none], [.int (V 5 1)])
              refine Z_run C it_Li 2 (f2 := (905, [some (.ref (D.1 52)), some (.ref (D.1 0)), some (.ref (D.1 37)), some (.ref (D.1 38)), some (.ref (D.1 39)), some (.ref (D.1 40)), some (.ref (D.1 41)), some (.ref (D.1 42)), some (.ref (D.1 43)), some (.int xm), some (.int (nI e)), none, none, none, none, none, none, none, none], [.int (nI 8), .ref (D.1 39), .int (V 5 1)])) rfl ?_
              refine Zm_ald C it_Li hD 39 10 rfl (by decide) rfl (by decide) (by decide) rfl (j := 8) (by omega) (v := .int (V 39 8)) rfl ?_
              refine Z_br C it_Li rfl rfl (fun hc7 => ?_) (fun hc7 => ?_)
              · exact absurd ((hW.1.2.2.2.1 1 (by decide)).1) hc7
              · skip
                refine Z_run C it_Li 2 (f2 := (911, [some (.ref (D.1 52)), some (.ref (D.1 0)), some (.ref (D.1 37)), some (.ref (D.1 38)), some (.ref (D.1 39)), some (.ref (D.1 40)), some (.ref (D.1 41)), some (.ref (D.1 42)), some (.ref (D.1 43)), some (.int xm), some (.int (nI e)), none, none, none, none, none, none, none, none], [.int (nI 0), .ref (D.1 0)])) rfl ?_
                refine Zr_callV C it_Li hD rfl p_Xx_worthByAccount ml_Lw_74 0 (by decide) rfl rfl [.int (nI 0)] (ct_Xx_worthByAccount C.ev C.l hD _ _ _ 0 (by decide) _) rfl rfl ⟨by decide, by decide, by show k + 3 + 1 ≤ 600130; omega, by show n + 18 + 6 ≤ 7301080; omega⟩ (Nat.le_of_ble_eq_true rfl) rfl ?_
                show Z E G (HM D V P PH) sz (k + 4) (n + 24) (914, [some (.ref (D.1 52)), some (.ref (D.1 0)), some (.ref (D.1 37)), some (.ref (D.1 38)), some (.ref (D.1 39)), some (.ref (D.1 40)), some (.ref (D.1 41)), some (.ref (D.1 42)), some (.ref (D.1 43)), some (.int xm), some (.int (nI e)), none, none, none, none, none, none, none, none], [.int (V 4 0)])
                refine Z_run C it_Li 2 (f2 := (917, [some (.ref (D.1 52)), some (.ref (D.1 0)), some (.ref (D.1 37)), some (.ref (D.1 38)), some (.ref (D.1 39)), some (.ref (D.1 40)), some (.ref (D.1 41)), some (.ref (D.1 42)), some (.ref (D.1 43)), some (.int xm), some (.int (nI e)), none, none, none, none, none, none, none, none], [.int (nI 5), .ref (D.1 39), .int (V 4 0)])) rfl ?_
                refine Zm_ald C it_Li hD 39 10 rfl (by decide) rfl (by decide) (by decide) rfl (j := 5) (by omega) (v := .int (V 39 5)) rfl ?_
                refine Z_run C it_Li 2 (f2 := (922, [some (.ref (D.1 52)), some (.ref (D.1 0)), some (.ref (D.1 37)), some (.ref (D.1 38)), some (.ref (D.1 39)), some (.ref (D.1 40)), some (.ref (D.1 41)), some (.ref (D.1 42)), some (.ref (D.1 43)), some (.int xm), some (.int (nI e)), none, none, none, none, none, none, none, none], [.int (nI 8), .ref (D.1 39), .int (V 39 5), .int (V 4 0)])) rfl ?_
                refine Zm_ald C it_Li hD 39 10 rfl (by decide) rfl (by decide) (by decide) rfl (j := 8) (by omega) (v := .int (V 39 8)) rfl ?_
                refine Z_run C it_Li 3 (f2 := (928, [some (.ref (D.1 52)), some (.ref (D.1 0)), some (.ref (D.1 37)), some (.ref (D.1 38)), some (.ref (D.1 39)), some (.ref (D.1 40)), some (.ref (D.1 41)), some (.ref (D.1 42)), some (.ref (D.1 43)), some (.int xm), some (.int (nI e)), none, none, none, none, none, none, none, none], [.int (nI 9), .ref (D.1 39), .int (V 39 5 - V 39 8), .int (V 4 0)])) rfl ?_
                refine Zm_ald C it_Li hD 39 10 rfl (by decide) rfl (by decide) (by decide) rfl (j := 9) (by omega) (v := .int (V 39 9)) rfl ?_
                refine Z_run C it_Li 1 (f2 := (930, [some (.ref (D.1 52)), some (.ref (D.1 0)), some (.ref (D.1 37)), some (.ref (D.1 38)), some (.ref (D.1 39)), some (.ref (D.1 40)), some (.ref (D.1 41)), some (.ref (D.1 42)), some (.ref (D.1 43)), some (.int xm), some (.int (nI e)), none, none, none, none, none, none, none, none], [.int ((V 39 5 - V 39 8) + V 39 9), .int (V 4 0)])) rfl ?_
                refine Z_br C it_Li rfl rfl (fun hc8 => ?_) (fun hc8 => ?_)
                · exact absurd ((hW.1.2.2.2.1 0 (by decide)).2) hc8
                · skip
                  refine Z_run C it_Li 2 (f2 := (935, [some (.ref (D.1 52)), some (.ref (D.1 0)), some (.ref (D.1 37)), some (.ref (D.1 38)), some (.ref (D.1 39)), some (.ref (D.1 40)), some (.ref (D.1 41)), some (.ref (D.1 42)), some (.ref (D.1 43)), some (.int xm), some (.int (nI e)), none, none, none, none, none, none, none, none], [.int (nI 1), .ref (D.1 0)])) rfl ?_
                  refine Zr_callV C it_Li hD rfl p_Xx_worthByAccount ml_Lw_74 0 (by decide) rfl rfl [.int (nI 1)] (ct_Xx_worthByAccount C.ev C.l hD _ _ _ 1 (by decide) _) rfl rfl ⟨by decide, by decide, by show k + 4 + 1 ≤ 600130; omega, by show n + 24 + 6 ≤ 7301080; omega⟩ (Nat.le_of_ble_eq_true rfl) rfl ?_
                  show Z E G (HM D V P PH) sz (k + 5) (n + 30) (938, [some (.ref (D.1 52)), some (.ref (D.1 0)), some (.ref (D.1 37)), some (.ref (D.1 38)), some (.ref (D.1 39)), some (.ref (D.1 40)), some (.ref (D.1 41)), some (.ref (D.1 42)), some (.ref (D.1 43)), some (.int xm), some (.int (nI e)), none, none, none, none, none, none, none, none], [.int (V 4 1)])
                  refine Z_run C it_Li 2 (f2 := (942, [some (.ref (D.1 52)), some (.ref (D.1 0)), some (.ref (D.1 37)), some (.ref (D.1 38)), some (.ref (D.1 39)), some (.ref (D.1 40)), some (.ref (D.1 41)), some (.ref (D.1 42)), some (.ref (D.1 43)), some (.int xm), some (.int (nI e)), none, none, none, none, none, none, none, none], [.int (nI 6), .ref (D.1 39), .int (V 4 1)])) rfl ?_
                  refine Zm_ald C it_Li hD 39 10 rfl (by decide) rfl (by decide) (by decide) rfl (j := 6) (by omega) (v := .int (V 39 6)) rfl ?_
                  refine Z_run C it_Li 2 (f2 := (947, [some (.ref (D.1 52)), some (.ref (D.1 0)), some (.ref (D.1 37)), some (.ref (D.1 38)), some (.ref (D.1 39)), some (.ref (D.1 40)), some (.ref (D.1 41)), some (.ref (D.1 42)), some (.ref (D.1 43)), some (.int xm), some (.int (nI e)), none, none, none, none, none, none, none, none], [.int (nI 7), .ref (D.1 39), .int (V 39 6), .int (V 4 1)])) rfl ?_
                  refine Zm_ald C it_Li hD 39 10 rfl (by decide) rfl (by decide) (by decide) rfl (j := 7) (by omega) (v := .int (V 39 7)) rfl ?_
                  refine Z_run C it_Li 3 (f2 := (953, [some (.ref (D.1 52)), some (.ref (D.1 0)), some (.ref (D.1 37)), some (.ref (D.1 38)), some (.ref (D.1 39)), some (.ref (D.1 40)), some (.ref (D.1 41)), some (.ref (D.1 42)), some (.ref (D.1 43)), some (.int xm), some (.int (nI e)), none, none, none, none, none, none, none, none], [.int (nI 10), .ref (D.1 39), .int (V 39 6 - V 39 7), .int (V 4 1)])) rfl ?_
                  refine Zm_ald C it_Li hD 39 10 rfl (by decide) rfl (by decide) (by decide) rfl (j := 10) (by omega) (v := .int (V 39 10)) rfl ?_
                  refine Z_run C it_Li 1 (f2 := (955, [some (.ref (D.1 52)), some (.ref (D.1 0)), some (.ref (D.1 37)), some (.ref (D.1 38)), some (.ref (D.1 39)), some (.ref (D.1 40)), some (.ref (D.1 41)), some (.ref (D.1 42)), some (.ref (D.1 43)), some (.int xm), some (.int (nI e)), none, none, none, none, none, none, none, none], [.int ((V 39 6 - V 39 7) + V 39 10), .int (V 4 1)])) rfl ?_
                  refine Z_br C it_Li rfl rfl (fun hc9 => ?_) (fun hc9 => ?_)
                  · exact absurd ((hW.1.2.2.2.1 1 (by decide)).2) hc9
                  · skip
                    refine Z_run C it_Li 3 (f2 := (965, [some (.ref (D.1 52)), some (.ref (D.1 0)), some (.ref (D.1 37)), some (.ref (D.1 38)), some (.ref (D.1 39)), some (.ref (D.1 40)), some (.ref (D.1 41)), some (.ref (D.1 42)), some (.ref (D.1 43)), some (.int xm), some (.int (nI e)), none, none, none, none, none, some (.int (nI 1)), none, none], [])) rfl ?_
                    refine Z_run C it_Lj 2 (f2 := (967, [some (.ref (D.1 52)), some (.ref (D.1 0)), some (.ref (D.1 37)), some (.ref (D.1 38)), some (.ref (D.1 39)), some (.ref (D.1 40)), some (.ref (D.1 41)), some (.ref (D.1 42)), some (.ref (D.1 43)), some (.int xm), some (.int (nI e)), none, none, none, none, none, some (.int (nI 1)), none, none], [.int (nI 0), .ref (D.1 0)])) rfl ?_
                    refine Zr_callV C it_Lj hD rfl p_Xx_worth ml_Lw_72 0 (by decide) rfl rfl [.int (nI 0)] (gs_worth C.ev C.l hD hW.1.1 0 (by decide)) rfl rfl ⟨by decide, by decide, by show k + 5 + 1 ≤ 600130; omega, by show n + 30 + 6 ≤ 7301080; omega⟩ (Nat.le_of_ble_eq_true rfl) rfl ?_
                    show Z E G (HM D V P PH) sz (k + 6) (n + 36) (970, [some (.ref (D.1 52)), some (.ref (D.1 0)), some (.ref (D.1 37)), some (.ref (D.1 38)), some (.ref (D.1 39)), some (.ref (D.1 40)), some (.ref (D.1 41)), some (.ref (D.1 42)), some (.ref (D.1 43)), some (.int xm), some (.int (nI e)), none, none, none, none, none, some (.int (nI 1)), none, none], [.int (nI (wos F 0 36))])
                    refine Z_run C it_Lj 2 (f2 := (972, [some (.ref (D.1 52)), some (.ref (D.1 0)), some (.ref (D.1 37)), some (.ref (D.1 38)), some (.ref (D.1 39)), some (.ref (D.1 40)), some (.ref (D.1 41)), some (.ref (D.1 42)), some (.ref (D.1 43)), some (.int xm), some (.int (nI e)), none, none, none, none, none, some (.int (nI 1)), none, none], [.int (nI 1), .ref (D.1 0), .int (nI (wos F 0 36))])) rfl ?_
                    refine Zr_callV C it_Lj hD rfl p_Xx_worth ml_Lw_72 0 (by decide) rfl rfl [.int (nI 1)] (gs_worth C.ev C.l hD hW.1.1 1 (by decide)) rfl rfl ⟨by decide, by decide, by show k + 6 + 1 ≤ 600130; omega, by show n + 36 + 6 ≤ 7301080; omega⟩ (Nat.le_of_ble_eq_true rfl) rfl ?_
                    show Z E G (HM D V P PH) sz (k + 7) (n + 42) (975, [some (.ref (D.1 52)), some (.ref (D.1 0)), some (.ref (D.1 37)), some (.ref (D.1 38)), some (.ref (D.1 39)), some (.ref (D.1 40)), some (.ref (D.1 41)), some (.ref (D.1 42)), some (.ref (D.1 43)), some (.int xm), some (.int (nI e)), none, none, none, none, none, some (.int (nI 1)), none, none], [.int (nI (wos F 1 36)), .int (nI (wos F 0 36))])
                    refine Z_run C it_Lj 1 (f2 := (976, [some (.ref (D.1 52)), some (.ref (D.1 0)), some (.ref (D.1 37)), some (.ref (D.1 38)), some (.ref (D.1 39)), some (.ref (D.1 40)), some (.ref (D.1 41)), some (.ref (D.1 42)), some (.ref (D.1 43)), some (.int xm), some (.int (nI e)), none, none, none, none, none, some (.int (nI 1)), none, none], [.int (nI (wos F 0 36) + nI (wos F 1 36))])) rfl ?_
                    rw [nI_add (wos F 0 36) (wos F 1 36)]
                    refine Z_run C it_Lj 2 (f2 := (980, [some (.ref (D.1 52)), some (.ref (D.1 0)), some (.ref (D.1 37)), some (.ref (D.1 38)), some (.ref (D.1 39)), some (.ref (D.1 40)), some (.ref (D.1 41)), some (.ref (D.1 42)), some (.ref (D.1 43)), some (.int xm), some (.int (nI e)), none, none, none, none, none, some (.int (nI 1)), some (.int (nI (wos F 0 36 + wos F 1 36))), none], [.int (nI 1)])) rfl ?_
                    refine Z_br C it_Lj rfl rfl (fun hc10 => ?_) (fun hc10 => ?_)
                    · exact absurd hc10 (by decide)
                    · skip
                      refine Z_run C it_Lj 2 (f2 := (985, [some (.ref (D.1 52)), some (.ref (D.1 0)), some (.ref (D.1 37)), some (.ref (D.1 38)), some (.ref (D.1 39)), some (.ref (D.1 40)), some (.ref (D.1 41)), some (.ref (D.1 42)), some (.ref (D.1 43)), some (.int xm), some (.int (nI e)), none, none, none, none, none, some (.int (nI 1)), some (.int (nI (wos F 0 36 + wos F 1 36))), none], [.int (nI 0), .ref (D.1 0)])) rfl ?_
                      refine Zr_callV C it_Lj hD rfl p_Xx_worthShare ml_Lw_172 0 (by decide) rfl rfl [.int (nI 0)] (gs_share C.ev C.l hD hW.1.1 0 (by decide)) rfl rfl ⟨by decide, by decide, by show k + 7 + 1 ≤ 600130; omega, by show n + 42 + 6 ≤ 7301080; omega⟩ (Nat.le_of_ble_eq_true rfl) rfl ?_
                      show Z E G (HM D V P PH) sz (k + 8) (n + 48) (988, [some (.ref (D.1 52)), some (.ref (D.1 0)), some (.ref (D.1 37)), some (.ref (D.1 38)), some (.ref (D.1 39)), some (.ref (D.1 40)), some (.ref (D.1 41)), some (.ref (D.1 42)), some (.ref (D.1 43)), some (.int xm), some (.int (nI e)), none, none, none, none, none, some (.int (nI 1)), some (.int (nI (wos F 0 36 + wos F 1 36))), none], [.double (shq (wos F 0 36) (wos F 0 36 + wos F 1 36))])
                      have e1 : shq (wos F 0 36) (wos F 0 36 + wos F 1 36) = FP.ddiv (FP.i2d (nI (wos F 0 36))) (FP.i2d (nI (wos F 0 36 + wos F 1 36))) := by unfold shq; rw [if_neg (by omega)]
                      rw [e1]
                      refine Z_run C it_Lj 2 (f2 := (990, [some (.ref (D.1 52)), some (.ref (D.1 0)), some (.ref (D.1 37)), some (.ref (D.1 38)), some (.ref (D.1 39)), some (.ref (D.1 40)), some (.ref (D.1 41)), some (.ref (D.1 42)), some (.ref (D.1 43)), some (.int xm), some (.int (nI e)), none, none, none, none, none, some (.int (nI 1)), some (.int (nI (wos F 0 36 + wos F 1 36))), none], [.int (nI 0), .ref (D.1 0), .double (FP.ddiv (FP.i2d (nI (wos F 0 36))) (FP.i2d (nI (wos F 0 36 + wos F 1 36))))])) rfl ?_
                      refine Zr_callV C it_Lj hD rfl p_Xx_worth ml_Lw_72 0 (by decide) rfl rfl [.int (nI 0)] (gs_worth C.ev C.l hD hW.1.1 0 (by decide)) rfl rfl ⟨by decide, by decide, by show k + 8 + 1 ≤ 600130; omega, by show n + 48 + 6 ≤ 7301080; omega⟩ (Nat.le_of_ble_eq_true rfl) rfl ?_
                      show Z E G (HM D V P PH) sz (k + 9) (n + 54) (993, [some (.ref (D.1 52)), some (.ref (D.1 0)), some (.ref (D.1 37)), some (.ref (D.1 38)), some (.ref (D.1 39)), some (.ref (D.1 40)), some (.ref (D.1 41)), some (.ref (D.1 42)), some (.ref (D.1 43)), some (.int xm), some (.int (nI e)), none, none, none, none, none, some (.int (nI 1)), some (.int (nI (wos F 0 36 + wos F 1 36))), none], [.int (nI (wos F 0 36)), .double (FP.ddiv (FP.i2d (nI (wos F 0 36))) (FP.i2d (nI (wos F 0 36 + wos F 1 36))))])
                      refine Z_run C it_Lj 3 (f2 := (997, [some (.ref (D.1 52)), some (.ref (D.1 0)), some (.ref (D.1 37)), some (.ref (D.1 38)), some (.ref (D.1 39)), some (.ref (D.1 40)), some (.ref (D.1 41)), some (.ref (D.1 42)), some (.ref (D.1 43)), some (.int xm), some (.int (nI e)), none, none, none, none, none, some (.int (nI 1)), some (.int (nI (wos F 0 36 + wos F 1 36))), none], [.double (FP.i2d (nI (wos F 0 36 + wos F 1 36))), .double (FP.i2d (nI (wos F 0 36))), .double (FP.ddiv (FP.i2d (nI (wos F 0 36))) (FP.i2d (nI (wos F 0 36 + wos F 1 36))))])) rfl ?_
                      refine Z_ddiv C it_Lj rfl (fq_n (fun z9 => hc2z z9)) ?_
                      refine Z_run C it_Lj 1 (f2 := (999, [some (.ref (D.1 52)), some (.ref (D.1 0)), some (.ref (D.1 37)), some (.ref (D.1 38)), some (.ref (D.1 39)), some (.ref (D.1 40)), some (.ref (D.1 41)), some (.ref (D.1 42)), some (.ref (D.1 43)), some (.int xm), some (.int (nI e)), none, none, none, none, none, some (.int (nI 1)), some (.int (nI (wos F 0 36 + wos F 1 36))), none], [.int (Op.cmpValue (FP.dcmp (FP.ddiv (FP.i2d (nI (wos F 0 36))) (FP.i2d (nI (wos F 0 36 + wos F 1 36)))) (FP.ddiv (FP.i2d (nI (wos F 0 36))) (FP.i2d (nI (wos F 0 36 + wos F 1 36))))) .l)])) rfl ?_
                      refine Z_br C it_Lj rfl rfl (fun hc11 => ?_) (fun hc11 => ?_)
                      · skip
                        refine Z_sub (ls2 := [some (.ref (D.1 52)), some (.ref (D.1 0)), some (.ref (D.1 37)), some (.ref (D.1 38)), some (.ref (D.1 39)), some (.ref (D.1 40)), some (.ref (D.1 41)), some (.ref (D.1 42)), some (.ref (D.1 43)), some (.int xm), some (.int (nI e)), none, none, none, none, none, none, none, none]) ⟨rfl, rfl, rfl, rfl, rfl, rfl, rfl, rfl, rfl, rfl, rfl, trivial⟩ ?_
                        refine Z_widen (k2 := k + 20) (n2 := n + 100) (by omega) (by omega) ?_
                        exact kk
                      · exact absurd (dcm_s hc2z) hc11
  · have hov : ov = true := bI_eq1.mp (Classical.not_not.mp hc1)
    refine Z_run C it_Li 2 (f2 := (847, [some (.ref (D.1 52)), some (.ref (D.1 0)), some (.ref (D.1 37)), some (.ref (D.1 38)), some (.ref (D.1 39)), some (.ref (D.1 40)), some (.ref (D.1 41)), some (.ref (D.1 42)), some (.ref (D.1 43)), some (.int xm), some (.int (nI e)), none, none, none, none, none, none, none, none], [.int (nI 1), .int (bI ov)])) rfl ?_
    refine Z_br C it_Li rfl rfl (fun hc12 => ?_) (fun hc12 => ?_)
    · exact absurd (by first | (rw [hov]; rfl) | (rw [Bool.eq_false_iff.mpr hov]; rfl)) hc12
    · skip
      refine Z_run C it_Li 1 (f2 := (851, [some (.ref (D.1 52)), some (.ref (D.1 0)), some (.ref (D.1 37)), some (.ref (D.1 38)), some (.ref (D.1 39)), some (.ref (D.1 40)), some (.ref (D.1 41)), some (.ref (D.1 42)), some (.ref (D.1 43)), some (.int xm), some (.int (nI e)), none, none, none, none, none, none, none, none], [.ref (D.1 0)])) rfl ?_
      refine Z_callSX C it_Li rfl p_Lw_winner ml_Lw_161 [.ref (D.1 0)] (gs_winner C.ev C.l hD hW.1.1) rfl rfl ⟨by decide, by decide, by show k + 0 + 1 ≤ 600130; omega, by show n + 0 + 6 ≤ 7301080; omega⟩ (Nat.le_of_ble_eq_true rfl) rfl (fun v h3 sz3 hO => ?_) (fun X h3 sz3 hO => by cases hO.1)
      obtain ⟨e1, rfl, e2⟩ := hO
      cases e1
      rw [e2]
      show Z E G (HM D V P PH) sz (k + 1) (n + 6) (854, [some (.ref (D.1 52)), some (.ref (D.1 0)), some (.ref (D.1 37)), some (.ref (D.1 38)), some (.ref (D.1 39)), some (.ref (D.1 40)), some (.ref (D.1 41)), some (.ref (D.1 42)), some (.ref (D.1 43)), some (.int xm), some (.int (nI e)), none, none, none, none, none, none, none, none], [.int (chI ch)])
      refine Z_run C it_Li 2 (f2 := (857, [some (.ref (D.1 52)), some (.ref (D.1 0)), some (.ref (D.1 37)), some (.ref (D.1 38)), some (.ref (D.1 39)), some (.ref (D.1 40)), some (.ref (D.1 41)), some (.ref (D.1 42)), some (.ref (D.1 43)), some (.int xm), some (.int (nI e)), none, none, none, none, none, none, none, none], [.int (nI 2), .ref (D.1 39), .int (chI ch)])) rfl ?_
      refine Zm_ald C it_Li hD 39 10 rfl (by decide) rfl (by decide) (by decide) rfl (j := 2) (by omega) (v := .int (chI ch)) (congrArg Value.int hW.1.2.2.1.2.1) ?_
      refine Z_br C it_Li rfl rfl (fun hc13 => ?_) (fun hc13 => ?_)
      · exact absurd (rfl) hc13
      · skip
        refine Z_run C it_Li 1 (f2 := (862, [some (.ref (D.1 52)), some (.ref (D.1 0)), some (.ref (D.1 37)), some (.ref (D.1 38)), some (.ref (D.1 39)), some (.ref (D.1 40)), some (.ref (D.1 41)), some (.ref (D.1 42)), some (.ref (D.1 43)), some (.int xm), some (.int (nI e)), none, none, none, none, none, none, none, none], [.ref (D.1 0)])) rfl ?_
        refine Zr_callV C it_Li hD rfl p_Xx_toMove ml_Lw_163 0 (by decide) rfl rfl [] (gs_toMove C.ev C.l hD hW.1.1) rfl rfl ⟨by decide, by decide, by show k + 1 + 0 ≤ 600130; omega, by show n + 6 + 0 ≤ 7301080; omega⟩ (Nat.le_of_ble_eq_true rfl) rfl ?_
        show Z E G (HM D V P PH) sz (k + 1) (n + 6) (865, [some (.ref (D.1 52)), some (.ref (D.1 0)), some (.ref (D.1 37)), some (.ref (D.1 38)), some (.ref (D.1 39)), some (.ref (D.1 40)), some (.ref (D.1 41)), some (.ref (D.1 42)), some (.ref (D.1 43)), some (.int xm), some (.int (nI e)), none, none, none, none, none, none, none, none], [.int (nI (md % 2))])
        refine Z_run C it_Li 2 (f2 := (868, [some (.ref (D.1 52)), some (.ref (D.1 0)), some (.ref (D.1 37)), some (.ref (D.1 38)), some (.ref (D.1 39)), some (.ref (D.1 40)), some (.ref (D.1 41)), some (.ref (D.1 42)), some (.ref (D.1 43)), some (.int xm), some (.int (nI e)), none, none, none, none, none, none, none, none], [.int (nI 3), .ref (D.1 39), .int (nI (md % 2))])) rfl ?_
        refine Zm_ald C it_Li hD 39 10 rfl (by decide) rfl (by decide) (by decide) rfl (j := 3) (by omega) (v := .int (nI (md % 2))) (congrArg Value.int hW.1.2.2.1.2.2.1) ?_
        refine Z_br C it_Li rfl rfl (fun hc14 => ?_) (fun hc14 => ?_)
        · exact absurd (rfl) hc14
        · skip
          refine Z_run C it_Li 1 (f2 := (873, [some (.ref (D.1 52)), some (.ref (D.1 0)), some (.ref (D.1 37)), some (.ref (D.1 38)), some (.ref (D.1 39)), some (.ref (D.1 40)), some (.ref (D.1 41)), some (.ref (D.1 42)), some (.ref (D.1 43)), some (.int xm), some (.int (nI e)), none, none, none, none, none, none, none, none], [.ref (D.1 0)])) rfl ?_
          refine Zr_callV C it_Li hD rfl p_Xx_movesMade ml_Lw_166 0 (by decide) rfl rfl [] (gs_movesMade C.ev C.l hD hW.1.1) rfl rfl ⟨by decide, by decide, by show k + 1 + 0 ≤ 600130; omega, by show n + 6 + 0 ≤ 7301080; omega⟩ (Nat.le_of_ble_eq_true rfl) rfl ?_
          show Z E G (HM D V P PH) sz (k + 1) (n + 6) (876, [some (.ref (D.1 52)), some (.ref (D.1 0)), some (.ref (D.1 37)), some (.ref (D.1 38)), some (.ref (D.1 39)), some (.ref (D.1 40)), some (.ref (D.1 41)), some (.ref (D.1 42)), some (.ref (D.1 43)), some (.int xm), some (.int (nI e)), none, none, none, none, none, none, none, none], [.int (nI md)])
          refine Z_run C it_Li 2 (f2 := (879, [some (.ref (D.1 52)), some (.ref (D.1 0)), some (.ref (D.1 37)), some (.ref (D.1 38)), some (.ref (D.1 39)), some (.ref (D.1 40)), some (.ref (D.1 41)), some (.ref (D.1 42)), some (.ref (D.1 43)), some (.int xm), some (.int (nI e)), none, none, none, none, none, none, none, none], [.int (nI 4), .ref (D.1 39), .int (nI md)])) rfl ?_
          refine Zm_ald C it_Li hD 39 10 rfl (by decide) rfl (by decide) (by decide) rfl (j := 4) (by omega) (v := .int (nI md)) (congrArg Value.int hW.1.2.2.1.2.2.2) ?_
          refine Z_br C it_Li rfl rfl (fun hc15 => ?_) (fun hc15 => ?_)
          · exact absurd (rfl) hc15
          · skip
            refine Z_run C it_Li 2 (f2 := (885, [some (.ref (D.1 52)), some (.ref (D.1 0)), some (.ref (D.1 37)), some (.ref (D.1 38)), some (.ref (D.1 39)), some (.ref (D.1 40)), some (.ref (D.1 41)), some (.ref (D.1 42)), some (.ref (D.1 43)), some (.int xm), some (.int (nI e)), none, none, none, none, none, none, none, none], [.int (nI 0), .ref (D.1 0)])) rfl ?_
            refine Zr_callV C it_Li hD rfl p_Xx_captured ml_Lw_169 0 (by decide) rfl rfl [.int (nI 0)] (ct_Xx_captured C.ev C.l hD _ _ _ 0 (by decide) _) rfl rfl ⟨by decide, by decide, by show k + 1 + 1 ≤ 600130; omega, by show n + 6 + 6 ≤ 7301080; omega⟩ (Nat.le_of_ble_eq_true rfl) rfl ?_
            show Z E G (HM D V P PH) sz (k + 2) (n + 12) (888, [some (.ref (D.1 52)), some (.ref (D.1 0)), some (.ref (D.1 37)), some (.ref (D.1 38)), some (.ref (D.1 39)), some (.ref (D.1 40)), some (.ref (D.1 41)), some (.ref (D.1 42)), some (.ref (D.1 43)), some (.int xm), some (.int (nI e)), none, none, none, none, none, none, none, none], [.int (V 5 0)])
            refine Z_run C it_Li 2 (f2 := (892, [some (.ref (D.1 52)), some (.ref (D.1 0)), some (.ref (D.1 37)), some (.ref (D.1 38)), some (.ref (D.1 39)), some (.ref (D.1 40)), some (.ref (D.1 41)), some (.ref (D.1 42)), some (.ref (D.1 43)), some (.int xm), some (.int (nI e)), none, none, none, none, none, none, none, none], [.int (nI 7), .ref (D.1 39), .int (V 5 0)])) rfl ?_
            refine Zm_ald C it_Li hD 39 10 rfl (by decide) rfl (by decide) (by decide) rfl (j := 7) (by omega) (v := .int (V 39 7)) rfl ?_
            refine Z_br C it_Li rfl rfl (fun hc16 => ?_) (fun hc16 => ?_)
            · exact absurd ((hW.1.2.2.2.1 0 (by decide)).1) hc16
            · skip
              refine Z_run C it_Li 2 (f2 := (898, [some (.ref (D.1 52)), some (.ref (D.1 0)), some (.ref (D.1 37)), some (.ref (D.1 38)), some (.ref (D.1 39)), some (.ref (D.1 40)), some (.ref (D.1 41)), some (.ref (D.1 42)), some (.ref (D.1 43)), some (.int xm), some (.int (nI e)), none, none, none, none, none, none, none, none], [.int (nI 1), .ref (D.1 0)])) rfl ?_
              refine Zr_callV C it_Li hD rfl p_Xx_captured ml_Lw_169 0 (by decide) rfl rfl [.int (nI 1)] (ct_Xx_captured C.ev C.l hD _ _ _ 1 (by decide) _) rfl rfl ⟨by decide, by decide, by show k + 2 + 1 ≤ 600130; omega, by show n + 12 + 6 ≤ 7301080; omega⟩ (Nat.le_of_ble_eq_true rfl) rfl ?_
              show Z E G (HM D V P PH) sz (k + 3) (n + 18) (901, [some (.ref (D.1 52)), some (.ref (D.1 0)), some (.ref (D.1 37)), some (.ref (D.1 38)), some (.ref (D.1 39)), some (.ref (D.1 40)), some (.ref (D.1 41)), some (.ref (D.1 42)), some (.ref (D.1 43)), some (.int xm), some (.int (nI e)), none, none, none, none, none, none, none, none], [.int (V 5 1)])
              refine Z_run C it_Li 2 (f2 := (905, [some (.ref (D.1 52)), some (.ref (D.1 0)), some (.ref (D.1 37)), some (.ref (D.1 38)), some (.ref (D.1 39)), some (.ref (D.1 40)), some (.ref (D.1 41)), some (.ref (D.1 42)), some (.ref (D.1 43)), some (.int xm), some (.int (nI e)), none, none, none, none, none, none, none, none], [.int (nI 8), .ref (D.1 39), .int (V 5 1)])) rfl ?_
              refine Zm_ald C it_Li hD 39 10 rfl (by decide) rfl (by decide) (by decide) rfl (j := 8) (by omega) (v := .int (V 39 8)) rfl ?_
              refine Z_br C it_Li rfl rfl (fun hc17 => ?_) (fun hc17 => ?_)
              · exact absurd ((hW.1.2.2.2.1 1 (by decide)).1) hc17
              · skip
                refine Z_run C it_Li 2 (f2 := (911, [some (.ref (D.1 52)), some (.ref (D.1 0)), some (.ref (D.1 37)), some (.ref (D.1 38)), some (.ref (D.1 39)), some (.ref (D.1 40)), some (.ref (D.1 41)), some (.ref (D.1 42)), some (.ref (D.1 43)), some (.int xm), some (.int (nI e)), none, none, none, none, none, none, none, none], [.int (nI 0), .ref (D.1 0)])) rfl ?_
                refine Zr_callV C it_Li hD rfl p_Xx_worthByAccount ml_Lw_74 0 (by decide) rfl rfl [.int (nI 0)] (ct_Xx_worthByAccount C.ev C.l hD _ _ _ 0 (by decide) _) rfl rfl ⟨by decide, by decide, by show k + 3 + 1 ≤ 600130; omega, by show n + 18 + 6 ≤ 7301080; omega⟩ (Nat.le_of_ble_eq_true rfl) rfl ?_
                show Z E G (HM D V P PH) sz (k + 4) (n + 24) (914, [some (.ref (D.1 52)), some (.ref (D.1 0)), some (.ref (D.1 37)), some (.ref (D.1 38)), some (.ref (D.1 39)), some (.ref (D.1 40)), some (.ref (D.1 41)), some (.ref (D.1 42)), some (.ref (D.1 43)), some (.int xm), some (.int (nI e)), none, none, none, none, none, none, none, none], [.int (V 4 0)])
                refine Z_run C it_Li 2 (f2 := (917, [some (.ref (D.1 52)), some (.ref (D.1 0)), some (.ref (D.1 37)), some (.ref (D.1 38)), some (.ref (D.1 39)), some (.ref (D.1 40)), some (.ref (D.1 41)), some (.ref (D.1 42)), some (.ref (D.1 43)), some (.int xm), some (.int (nI e)), none, none, none, none, none, none, none, none], [.int (nI 5), .ref (D.1 39), .int (V 4 0)])) rfl ?_
                refine Zm_ald C it_Li hD 39 10 rfl (by decide) rfl (by decide) (by decide) rfl (j := 5) (by omega) (v := .int (V 39 5)) rfl ?_
                refine Z_run C it_Li 2 (f2 := (922, [some (.ref (D.1 52)), some (.ref (D.1 0)), some (.ref (D.1 37)), some (.ref (D.1 38)), some (.ref (D.1 39)), some (.ref (D.1 40)), some (.ref (D.1 41)), some (.ref (D.1 42)), some (.ref (D.1 43)), some (.int xm), some (.int (nI e)), none, none, none, none, none, none, none, none], [.int (nI 8), .ref (D.1 39), .int (V 39 5), .int (V 4 0)])) rfl ?_
                refine Zm_ald C it_Li hD 39 10 rfl (by decide) rfl (by decide) (by decide) rfl (j := 8) (by omega) (v := .int (V 39 8)) rfl ?_
                refine Z_run C it_Li 3 (f2 := (928, [some (.ref (D.1 52)), some (.ref (D.1 0)), some (.ref (D.1 37)), some (.ref (D.1 38)), some (.ref (D.1 39)), some (.ref (D.1 40)), some (.ref (D.1 41)), some (.ref (D.1 42)), some (.ref (D.1 43)), some (.int xm), some (.int (nI e)), none, none, none, none, none, none, none, none], [.int (nI 9), .ref (D.1 39), .int (V 39 5 - V 39 8), .int (V 4 0)])) rfl ?_
                refine Zm_ald C it_Li hD 39 10 rfl (by decide) rfl (by decide) (by decide) rfl (j := 9) (by omega) (v := .int (V 39 9)) rfl ?_
                refine Z_run C it_Li 1 (f2 := (930, [some (.ref (D.1 52)), some (.ref (D.1 0)), some (.ref (D.1 37)), some (.ref (D.1 38)), some (.ref (D.1 39)), some (.ref (D.1 40)), some (.ref (D.1 41)), some (.ref (D.1 42)), some (.ref (D.1 43)), some (.int xm), some (.int (nI e)), none, none, none, none, none, none, none, none], [.int ((V 39 5 - V 39 8) + V 39 9), .int (V 4 0)])) rfl ?_
                refine Z_br C it_Li rfl rfl (fun hc18 => ?_) (fun hc18 => ?_)
                · exact absurd ((hW.1.2.2.2.1 0 (by decide)).2) hc18
                · skip
                  refine Z_run C it_Li 2 (f2 := (935, [some (.ref (D.1 52)), some (.ref (D.1 0)), some (.ref (D.1 37)), some (.ref (D.1 38)), some (.ref (D.1 39)), some (.ref (D.1 40)), some (.ref (D.1 41)), some (.ref (D.1 42)), some (.ref (D.1 43)), some (.int xm), some (.int (nI e)), none, none, none, none, none, none, none, none], [.int (nI 1), .ref (D.1 0)])) rfl ?_
                  refine Zr_callV C it_Li hD rfl p_Xx_worthByAccount ml_Lw_74 0 (by decide) rfl rfl [.int (nI 1)] (ct_Xx_worthByAccount C.ev C.l hD _ _ _ 1 (by decide) _) rfl rfl ⟨by decide, by decide, by show k + 4 + 1 ≤ 600130; omega, by show n + 24 + 6 ≤ 7301080; omega⟩ (Nat.le_of_ble_eq_true rfl) rfl ?_
                  show Z E G (HM D V P PH) sz (k + 5) (n + 30) (938, [some (.ref (D.1 52)), some (.ref (D.1 0)), some (.ref (D.1 37)), some (.ref (D.1 38)), some (.ref (D.1 39)), some (.ref (D.1 40)), some (.ref (D.1 41)), some (.ref (D.1 42)), some (.ref (D.1 43)), some (.int xm), some (.int (nI e)), none, none, none, none, none, none, none, none], [.int (V 4 1)])
                  refine Z_run C it_Li 2 (f2 := (942, [some (.ref (D.1 52)), some (.ref (D.1 0)), some (.ref (D.1 37)), some (.ref (D.1 38)), some (.ref (D.1 39)), some (.ref (D.1 40)), some (.ref (D.1 41)), some (.ref (D.1 42)), some (.ref (D.1 43)), some (.int xm), some (.int (nI e)), none, none, none, none, none, none, none, none], [.int (nI 6), .ref (D.1 39), .int (V 4 1)])) rfl ?_
                  refine Zm_ald C it_Li hD 39 10 rfl (by decide) rfl (by decide) (by decide) rfl (j := 6) (by omega) (v := .int (V 39 6)) rfl ?_
                  refine Z_run C it_Li 2 (f2 := (947, [some (.ref (D.1 52)), some (.ref (D.1 0)), some (.ref (D.1 37)), some (.ref (D.1 38)), some (.ref (D.1 39)), some (.ref (D.1 40)), some (.ref (D.1 41)), some (.ref (D.1 42)), some (.ref (D.1 43)), some (.int xm), some (.int (nI e)), none, none, none, none, none, none, none, none], [.int (nI 7), .ref (D.1 39), .int (V 39 6), .int (V 4 1)])) rfl ?_
                  refine Zm_ald C it_Li hD 39 10 rfl (by decide) rfl (by decide) (by decide) rfl (j := 7) (by omega) (v := .int (V 39 7)) rfl ?_
                  refine Z_run C it_Li 3 (f2 := (953, [some (.ref (D.1 52)), some (.ref (D.1 0)), some (.ref (D.1 37)), some (.ref (D.1 38)), some (.ref (D.1 39)), some (.ref (D.1 40)), some (.ref (D.1 41)), some (.ref (D.1 42)), some (.ref (D.1 43)), some (.int xm), some (.int (nI e)), none, none, none, none, none, none, none, none], [.int (nI 10), .ref (D.1 39), .int (V 39 6 - V 39 7), .int (V 4 1)])) rfl ?_
                  refine Zm_ald C it_Li hD 39 10 rfl (by decide) rfl (by decide) (by decide) rfl (j := 10) (by omega) (v := .int (V 39 10)) rfl ?_
                  refine Z_run C it_Li 1 (f2 := (955, [some (.ref (D.1 52)), some (.ref (D.1 0)), some (.ref (D.1 37)), some (.ref (D.1 38)), some (.ref (D.1 39)), some (.ref (D.1 40)), some (.ref (D.1 41)), some (.ref (D.1 42)), some (.ref (D.1 43)), some (.int xm), some (.int (nI e)), none, none, none, none, none, none, none, none], [.int ((V 39 6 - V 39 7) + V 39 10), .int (V 4 1)])) rfl ?_
                  refine Z_br C it_Li rfl rfl (fun hc19 => ?_) (fun hc19 => ?_)
                  · exact absurd ((hW.1.2.2.2.1 1 (by decide)).2) hc19
                  · skip
                    refine Z_run C it_Li 3 (f2 := (965, [some (.ref (D.1 52)), some (.ref (D.1 0)), some (.ref (D.1 37)), some (.ref (D.1 38)), some (.ref (D.1 39)), some (.ref (D.1 40)), some (.ref (D.1 41)), some (.ref (D.1 42)), some (.ref (D.1 43)), some (.int xm), some (.int (nI e)), none, none, none, none, none, some (.int (nI 1)), none, none], [])) rfl ?_
                    refine Z_run C it_Lj 2 (f2 := (967, [some (.ref (D.1 52)), some (.ref (D.1 0)), some (.ref (D.1 37)), some (.ref (D.1 38)), some (.ref (D.1 39)), some (.ref (D.1 40)), some (.ref (D.1 41)), some (.ref (D.1 42)), some (.ref (D.1 43)), some (.int xm), some (.int (nI e)), none, none, none, none, none, some (.int (nI 1)), none, none], [.int (nI 0), .ref (D.1 0)])) rfl ?_
                    refine Zr_callV C it_Lj hD rfl p_Xx_worth ml_Lw_72 0 (by decide) rfl rfl [.int (nI 0)] (gs_worth C.ev C.l hD hW.1.1 0 (by decide)) rfl rfl ⟨by decide, by decide, by show k + 5 + 1 ≤ 600130; omega, by show n + 30 + 6 ≤ 7301080; omega⟩ (Nat.le_of_ble_eq_true rfl) rfl ?_
                    show Z E G (HM D V P PH) sz (k + 6) (n + 36) (970, [some (.ref (D.1 52)), some (.ref (D.1 0)), some (.ref (D.1 37)), some (.ref (D.1 38)), some (.ref (D.1 39)), some (.ref (D.1 40)), some (.ref (D.1 41)), some (.ref (D.1 42)), some (.ref (D.1 43)), some (.int xm), some (.int (nI e)), none, none, none, none, none, some (.int (nI 1)), none, none], [.int (nI (wos F 0 36))])
                    refine Z_run C it_Lj 2 (f2 := (972, [some (.ref (D.1 52)), some (.ref (D.1 0)), some (.ref (D.1 37)), some (.ref (D.1 38)), some (.ref (D.1 39)), some (.ref (D.1 40)), some (.ref (D.1 41)), some (.ref (D.1 42)), some (.ref (D.1 43)), some (.int xm), some (.int (nI e)), none, none, none, none, none, some (.int (nI 1)), none, none], [.int (nI 1), .ref (D.1 0), .int (nI (wos F 0 36))])) rfl ?_
                    refine Zr_callV C it_Lj hD rfl p_Xx_worth ml_Lw_72 0 (by decide) rfl rfl [.int (nI 1)] (gs_worth C.ev C.l hD hW.1.1 1 (by decide)) rfl rfl ⟨by decide, by decide, by show k + 6 + 1 ≤ 600130; omega, by show n + 36 + 6 ≤ 7301080; omega⟩ (Nat.le_of_ble_eq_true rfl) rfl ?_
                    show Z E G (HM D V P PH) sz (k + 7) (n + 42) (975, [some (.ref (D.1 52)), some (.ref (D.1 0)), some (.ref (D.1 37)), some (.ref (D.1 38)), some (.ref (D.1 39)), some (.ref (D.1 40)), some (.ref (D.1 41)), some (.ref (D.1 42)), some (.ref (D.1 43)), some (.int xm), some (.int (nI e)), none, none, none, none, none, some (.int (nI 1)), none, none], [.int (nI (wos F 1 36)), .int (nI (wos F 0 36))])
                    refine Z_run C it_Lj 1 (f2 := (976, [some (.ref (D.1 52)), some (.ref (D.1 0)), some (.ref (D.1 37)), some (.ref (D.1 38)), some (.ref (D.1 39)), some (.ref (D.1 40)), some (.ref (D.1 41)), some (.ref (D.1 42)), some (.ref (D.1 43)), some (.int xm), some (.int (nI e)), none, none, none, none, none, some (.int (nI 1)), none, none], [.int (nI (wos F 0 36) + nI (wos F 1 36))])) rfl ?_
                    rw [nI_add (wos F 0 36) (wos F 1 36)]
                    refine Z_run C it_Lj 2 (f2 := (980, [some (.ref (D.1 52)), some (.ref (D.1 0)), some (.ref (D.1 37)), some (.ref (D.1 38)), some (.ref (D.1 39)), some (.ref (D.1 40)), some (.ref (D.1 41)), some (.ref (D.1 42)), some (.ref (D.1 43)), some (.int xm), some (.int (nI e)), none, none, none, none, none, some (.int (nI 1)), some (.int (nI (wos F 0 36 + wos F 1 36))), none], [.int (nI 1)])) rfl ?_
                    refine Z_br C it_Lj rfl rfl (fun hc20 => ?_) (fun hc20 => ?_)
                    · exact absurd hc20 (by decide)
                    · skip
                      refine Z_run C it_Lj 2 (f2 := (985, [some (.ref (D.1 52)), some (.ref (D.1 0)), some (.ref (D.1 37)), some (.ref (D.1 38)), some (.ref (D.1 39)), some (.ref (D.1 40)), some (.ref (D.1 41)), some (.ref (D.1 42)), some (.ref (D.1 43)), some (.int xm), some (.int (nI e)), none, none, none, none, none, some (.int (nI 1)), some (.int (nI (wos F 0 36 + wos F 1 36))), none], [.int (nI 0), .ref (D.1 0)])) rfl ?_
                      refine Zr_callV C it_Lj hD rfl p_Xx_worthShare ml_Lw_172 0 (by decide) rfl rfl [.int (nI 0)] (gs_share C.ev C.l hD hW.1.1 0 (by decide)) rfl rfl ⟨by decide, by decide, by show k + 7 + 1 ≤ 600130; omega, by show n + 42 + 6 ≤ 7301080; omega⟩ (Nat.le_of_ble_eq_true rfl) rfl ?_
                      show Z E G (HM D V P PH) sz (k + 8) (n + 48) (988, [some (.ref (D.1 52)), some (.ref (D.1 0)), some (.ref (D.1 37)), some (.ref (D.1 38)), some (.ref (D.1 39)), some (.ref (D.1 40)), some (.ref (D.1 41)), some (.ref (D.1 42)), some (.ref (D.1 43)), some (.int xm), some (.int (nI e)), none, none, none, none, none, some (.int (nI 1)), some (.int (nI (wos F 0 36 + wos F 1 36))), none], [.double (shq (wos F 0 36) (wos F 0 36 + wos F 1 36))])
                      have e2 : shq (wos F 0 36) (wos F 0 36 + wos F 1 36) = FP.ddiv (FP.i2d (nI (wos F 0 36))) (FP.i2d (nI (wos F 0 36 + wos F 1 36))) := by unfold shq; rw [if_neg (by omega)]
                      rw [e2]
                      refine Z_run C it_Lj 2 (f2 := (990, [some (.ref (D.1 52)), some (.ref (D.1 0)), some (.ref (D.1 37)), some (.ref (D.1 38)), some (.ref (D.1 39)), some (.ref (D.1 40)), some (.ref (D.1 41)), some (.ref (D.1 42)), some (.ref (D.1 43)), some (.int xm), some (.int (nI e)), none, none, none, none, none, some (.int (nI 1)), some (.int (nI (wos F 0 36 + wos F 1 36))), none], [.int (nI 0), .ref (D.1 0), .double (FP.ddiv (FP.i2d (nI (wos F 0 36))) (FP.i2d (nI (wos F 0 36 + wos F 1 36))))])) rfl ?_
                      refine Zr_callV C it_Lj hD rfl p_Xx_worth ml_Lw_72 0 (by decide) rfl rfl [.int (nI 0)] (gs_worth C.ev C.l hD hW.1.1 0 (by decide)) rfl rfl ⟨by decide, by decide, by show k + 8 + 1 ≤ 600130; omega, by show n + 48 + 6 ≤ 7301080; omega⟩ (Nat.le_of_ble_eq_true rfl) rfl ?_
                      show Z E G (HM D V P PH) sz (k + 9) (n + 54) (993, [some (.ref (D.1 52)), some (.ref (D.1 0)), some (.ref (D.1 37)), some (.ref (D.1 38)), some (.ref (D.1 39)), some (.ref (D.1 40)), some (.ref (D.1 41)), some (.ref (D.1 42)), some (.ref (D.1 43)), some (.int xm), some (.int (nI e)), none, none, none, none, none, some (.int (nI 1)), some (.int (nI (wos F 0 36 + wos F 1 36))), none], [.int (nI (wos F 0 36)), .double (FP.ddiv (FP.i2d (nI (wos F 0 36))) (FP.i2d (nI (wos F 0 36 + wos F 1 36))))])
                      refine Z_run C it_Lj 3 (f2 := (997, [some (.ref (D.1 52)), some (.ref (D.1 0)), some (.ref (D.1 37)), some (.ref (D.1 38)), some (.ref (D.1 39)), some (.ref (D.1 40)), some (.ref (D.1 41)), some (.ref (D.1 42)), some (.ref (D.1 43)), some (.int xm), some (.int (nI e)), none, none, none, none, none, some (.int (nI 1)), some (.int (nI (wos F 0 36 + wos F 1 36))), none], [.double (FP.i2d (nI (wos F 0 36 + wos F 1 36))), .double (FP.i2d (nI (wos F 0 36))), .double (FP.ddiv (FP.i2d (nI (wos F 0 36))) (FP.i2d (nI (wos F 0 36 + wos F 1 36))))])) rfl ?_
                      refine Z_ddiv C it_Lj rfl (fq_n (fun z9 => hc2z z9)) ?_
                      refine Z_run C it_Lj 1 (f2 := (999, [some (.ref (D.1 52)), some (.ref (D.1 0)), some (.ref (D.1 37)), some (.ref (D.1 38)), some (.ref (D.1 39)), some (.ref (D.1 40)), some (.ref (D.1 41)), some (.ref (D.1 42)), some (.ref (D.1 43)), some (.int xm), some (.int (nI e)), none, none, none, none, none, some (.int (nI 1)), some (.int (nI (wos F 0 36 + wos F 1 36))), none], [.int (Op.cmpValue (FP.dcmp (FP.ddiv (FP.i2d (nI (wos F 0 36))) (FP.i2d (nI (wos F 0 36 + wos F 1 36)))) (FP.ddiv (FP.i2d (nI (wos F 0 36))) (FP.i2d (nI (wos F 0 36 + wos F 1 36))))) .l)])) rfl ?_
                      refine Z_br C it_Lj rfl rfl (fun hc21 => ?_) (fun hc21 => ?_)
                      · skip
                        refine Z_sub (ls2 := [some (.ref (D.1 52)), some (.ref (D.1 0)), some (.ref (D.1 37)), some (.ref (D.1 38)), some (.ref (D.1 39)), some (.ref (D.1 40)), some (.ref (D.1 41)), some (.ref (D.1 42)), some (.ref (D.1 43)), some (.int xm), some (.int (nI e)), none, none, none, none, none, none, none, none]) ⟨rfl, rfl, rfl, rfl, rfl, rfl, rfl, rfl, rfl, rfl, rfl, trivial⟩ ?_
                        refine Z_widen (k2 := k + 20) (n2 := n + 100) (by omega) (by omega) ?_
                        exact kk
                      · exact absurd (dcm_s hc2z) hc21
theorem LW_step {D : zD} {V : Nat → Nat → Int32} {P : Nat → Nat → Value} {PH : aH} {sz : Nat} {F : Nat → Nat} {Bd : Nat → Nat → Nat} {md : Nat} {a b : Nat} {ov2 : Bool} {ch2 : Option Nat} (hBd : ∀ i, okF (Bd i)) (hFm : okF (mvF F a b)) (hab : a ≠ b) (h0 : F a ≠ 0) (ha : a < 36) (hb : b < 36) (hoc : ov2 = false → ch2 = none) (hX : LX D V P PH sz (mvF F a b) (mvl F (trL Bd md) (md % 2) a b) (1 - md % 2) (md + 1) ov2 ch2 (fun i => if i = md + 1 then mvF F a b else Bd i) (md + 1 + 1) (bI ov2) (chI ch2) (nI (1 - md % 2)) (nI (md + 1))) : LW D V P PH sz (mvF F a b) (fun i => if i = md + 1 then mvF F a b else Bd i) (md + 1) ov2 ch2 := by
  have e1 : (fun i => if i = md + 1 then mvF F a b else Bd i) (md + 1) = mvF F a b := if_pos rfl
  have e2 : trL (fun i => if i = md + 1 then mvF F a b else Bd i) md = trL Bd md := trL_ext (fun i hi => if_neg (by omega))
  have e3 : (md + 1) % 2 = 1 - md % 2 := by omega
  have eL : trL (fun i => if i = md + 1 then mvF F a b else Bd i) (md + 1) = mvl F (trL Bd md) (md % 2) a b := by
    have u : trL (fun i => if i = md + 1 then mvF F a b else Bd i) (md + 1) = ((md + 1) % 2, pq4 ((fun i => if i = md + 1 then mvF F a b else Bd i) (md + 1)), n1t ((md + 1) % 2) ((fun i => if i = md + 1 then mvF F a b else Bd i) (md + 1)) (trL (fun i => if i = md + 1 then mvF F a b else Bd i) md)) :: trL (fun i => if i = md + 1 then mvF F a b else Bd i) md := rfl
    rw [u, e2, e1, e3]
    rfl
  refine ⟨?_, ⟨e1, fun i => ?_⟩, hoc, b, hb, ?_⟩
  · rw [eL, e3]
    exact hX
  · dsimp only
    split
    · exact hFm
    · exact hBd i
  · unfold mvF
    rw [if_neg (Ne.symm hab), if_pos rfl, crr_lra]
    exact lra_ne h0
set_option maxRecDepth 20000 in
theorem law_loop {E : zE} {G : zG} {nm : String} (C : zCx E G code 19 R_Lw nm (some .boolean) room_1) {D : zD} (hD : zDok E D) (hL : D.2.2.1 ≤ 260) (hend : ∀ (h : aH) (sz k n : Nat) (ls : zL), k ≤ 600130 → n ≤ 7301080 → Z E G h sz k n (1011, ls, [.int (nI 1)])) {K N : Nat} (hK : K ≤ 10000) (hN : N ≤ 100000) : ∀ (y e : Nat) (V : Nat → Nat → Int32) (P : Nat → Nat → Value) (PH : aH) (sz : Nat) (F : Nat → Nat) (Bd : Nat → Nat → Nat) (md : Nat) (ov : Bool) (ch : Option Nat), 60 - e < y → e ≤ 60 → md ≤ e → LW D V P PH sz F Bd md ov ch → Z E G (HM D V P PH) sz (K + e * 1300) (N + e * 21000) (173, [some (.ref (D.1 52)), some (.ref (D.1 0)), some (.ref (D.1 37)), some (.ref (D.1 38)), some (.ref (D.1 39)), some (.ref (D.1 40)), some (.ref (D.1 41)), some (.ref (D.1 42)), some (.ref (D.1 43)), some (.int (nI (md + 1))), some (.int (nI e)), none, none, none, none, none, none, none, none], []) := by
  intro y
  induction y with
  | zero =>
    intro e V P PH sz F Bd md ov ch h1 h2
    omega
  | succ y ih =>
    intro e V P PH sz F Bd md ov ch h1 h2 h3 hW
    refine Z_run C it_Lc 2 (f2 := (177, [some (.ref (D.1 52)), some (.ref (D.1 0)), some (.ref (D.1 37)), some (.ref (D.1 38)), some (.ref (D.1 39)), some (.ref (D.1 40)), some (.ref (D.1 41)), some (.ref (D.1 42)), some (.ref (D.1 43)), some (.int (nI (md + 1))), some (.int (nI e)), none, none, none, none, none, none, none, none], [.int (nI 60), .int (nI e)])) rfl ?_
    refine Z_br C it_Lc rfl rfl (fun hc1 => ?_) (fun hc1 => ?_)
    · skip
      refine Z_run C it_Lj 1 (f2 := (1011, [some (.ref (D.1 52)), some (.ref (D.1 0)), some (.ref (D.1 37)), some (.ref (D.1 38)), some (.ref (D.1 39)), some (.ref (D.1 40)), some (.ref (D.1 41)), some (.ref (D.1 42)), some (.ref (D.1 43)), some (.int (nI (md + 1))), some (.int (nI e)), none, none, none, none, none, none, none, none], [.int (nI 1)])) rfl ?_
      exact hend _ _ _ _ _ (by omega) (by omega)
    · have he : e < 60 := by have z : ¬ 60 ≤ e := fun z9 => hc1 ((nI_leI (a := 60) (b := e) (by omega) (by omega)).mpr z9); omega
      have hmd : md ≤ 60 := by omega
      have hk : K + e * 1300 ≤ 590000 := by omega
      have hn : N + e * 21000 ≤ 7200000 := by omega
      refine ga_180 C hD hL hW hmd (by omega) (by omega) he (fun a b ha hb => ?_)
      refine ga_349 C hD hL hW hmd (by omega) (by omega) ha hb ?_
      refine ga_421 C hD hL hW hmd (by omega) (by omega) ha hb ?_
      by_cases hr : rsn (trL Bd md) ov F (md % 2) a b = 0
      · obtain ⟨r1, r2, r3, r4, r5⟩ := rsn_0 hr
        have hF := hW.1.2.1.1
        have hab : a ≠ b := fun e => by rw [e] at r3; rw [r3] at r4; cases r4
        have h0 : F a ≠ 0 := (hld_sd r3).1
        have hch : ch = none := hW.2.2.1 r2
        have htn : md % 2 < 2 := Nat.mod_lt _ (by decide)
        have hbd := hW.2.1
        rw [hr]
        obtain ⟨x1, x2, x3, x4, x5⟩ := id hW.1
        refine gb_460y C hD hL (k := K + e * 1300 + 2) (n := N + e * 21000 + 12) hW hmd (by omega) (by omega) ha hb hr (fun V2 P2 PH2 sz2 hG2 hV2 hP2 h4 h4b h5 h5b => ?_)
        have q1 := x4 (md % 2) htn
        have q2 := x4 (1 - md % 2) (by omega)
        refine gb_490 C hD hL (k := K + e * 1300 + 2 + 4) (n := N + e * 21000 + 12 + 25) (v1 := bI ov) (v2 := chI ch) (v4 := nI md) (Bd := Bd) (nb := md + 1) (tn := md % 2) ha hb hG2 (by rw [hV2 37 (by decide), hV2 38 (by decide)]; exact x2) hab h0 htn (by rw [hV2 39 (by decide)]; exact x3) (by rw [h5, hV2 39 (by decide), q1.1]) (by rw [h5b, hV2 39 (by decide), q2.1]) (by rw [h4, hV2 39 (by decide), q1.2]) (by rw [h4b, hV2 39 (by decide), q2.2]) (fun j hj i hi => by rw [hP2 (40 + i) (by omega)]; exact x5 j hj i hi) (by omega) (by omega) (fun V3 hX3 => ?_)
        refine gb_588 C hD hL htn hmd (nb := md + 1) (by omega) hX3 (by omega) (by omega) (fun V4 P4 hX4 => ?_)
        have hFm : okF (mvF F a b) := okF_mv hF ha
        refine gb_653 C hD hL (nb := md + 1) (by omega) hX4 hFm (fun i => by split; exact hFm; exact hbd.2 i) (if_pos rfl) (by omega) (by omega) ?_
        have et := tdn_n1t hbd.2 hFm (md := md)
        rw [et, show (md + 1) % 2 = 1 - md % 2 by omega]
        have hle := trL_n1 (Bd := Bd) (show md ≤ 100 by omega) (1 - md % 2) (mvF F a b)
        have hkk : ∀ V5 : Nat → Nat → Int32, LX D V5 P4 PH2 sz2 (mvF F a b) (mvl F (trL Bd md) (md % 2) a b) (1 - md % 2) (md + 1) (ovm F (trL Bd md) (md % 2) a b ch) (chm F (md % 2) b ch) (fun i => if i = md + 1 then mvF F a b else Bd i) (md + 1 + 1) (bI (ovm F (trL Bd md) (md % 2) a b ch)) (chI (chm F (md % 2) b ch)) (nI (1 - md % 2)) (nI (md + 1)) → Z E G (HM D V5 P4 PH2) sz2 (K + e * 1300 + 2 + 4 + 1228) (N + e * 21000 + 12 + 25 + 20772) (830, [some (.ref (D.1 52)), some (.ref (D.1 0)), some (.ref (D.1 37)), some (.ref (D.1 38)), some (.ref (D.1 39)), some (.ref (D.1 40)), some (.ref (D.1 41)), some (.ref (D.1 42)), some (.ref (D.1 43)), some (.int (nI (md + 1 + 1))), some (.int (nI e)), none, none, none, none, none, none, none, none], []) := fun V5 hX5 => by
          have hW5 := LW_step hbd.2 hFm hab h0 ha hb (fun z => by unfold ovm ovr at z; cases hq : chm F (md % 2) b ch with | none => rfl | some j => rw [hq] at z; cases z) hX5
          refine gc_830 C hD hL hW5 (by omega) (by omega) (by omega) ?_
          refine Z_run C it_Lj 2 (f2 := (173, [some (.ref (D.1 52)), some (.ref (D.1 0)), some (.ref (D.1 37)), some (.ref (D.1 38)), some (.ref (D.1 39)), some (.ref (D.1 40)), some (.ref (D.1 41)), some (.ref (D.1 42)), some (.ref (D.1 43)), some (.int (nI ((md + 1) + 1))), some (.int (nI e + nI 1)), none, none, none, none, none, none, none, none], [])) rfl ?_
          rw [nI_add e 1]
          refine Z_widen (k2 := K + (e + 1) * 1300) (n2 := N + (e + 1) * 21000) (by omega) (by omega) ?_
          exact ih (e + 1) V5 P4 PH2 sz2 (mvF F a b) _ (md + 1) _ _ (by omega) (by omega) (by omega) hW5
        cases hld9 : ldr (F b) with
        | true =>
          exact gc_737l C hD hL (tn1 := 1 - md % 2) (by omega) hX4 hle he (by omega) (by unfold ovm ovr chm; rw [hld9]; rfl) (by unfold chm; rw [hld9, if_pos rfl, show 1 - (1 - md % 2) = md % 2 by omega]; rfl) rfl (by omega) (by omega) hkk
        | false =>
          exact gc_737o C hD hL (tn1 := 1 - md % 2) (by omega) hX4 hle he (by omega) (by unfold ovm ovr chm; rw [hld9, hch]; rfl) (by unfold chm; rw [hld9, if_neg Bool.false_ne_true]) rfl (by omega) (by omega) hkk
      · refine gb_460n C hD hL (k := K + e * 1300 + 2) (n := N + e * 21000 + 12) hW hmd (by omega) (by omega) ha hb hr ?_
        refine gc_830 C hD hL hW (by omega) (by omega) (by omega) ?_
        refine Z_run C it_Lj 2 (f2 := (173, [some (.ref (D.1 52)), some (.ref (D.1 0)), some (.ref (D.1 37)), some (.ref (D.1 38)), some (.ref (D.1 39)), some (.ref (D.1 40)), some (.ref (D.1 41)), some (.ref (D.1 42)), some (.ref (D.1 43)), some (.int (nI (md + 1))), some (.int (nI e + nI 1)), none, none, none, none, none, none, none, none], [])) rfl ?_
        rw [nI_add e 1]
        refine Z_widen (k2 := K + (e + 1) * 1300) (n2 := N + (e + 1) * 21000) (by omega) (by omega) ?_
        exact ih (e + 1) V P PH sz F Bd md _ _ (by omega) (by omega) (by omega) hW
