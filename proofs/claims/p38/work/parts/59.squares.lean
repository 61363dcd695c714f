/-! ===== the law's squares: all answers of the class about squares with pieces ===== -/
/-- the class's board is F, the law's rows are pr and qr -/
def LB (V : Nat → Nat → Int32) (F : Nat → Nat) (pr qr : Nat → Int32) : Prop := bF V 2 = F ∧ V 37 = pr ∧ V 38 = qr
theorem LB_fr {V V2 : Nat → Nat → Int32} {F : Nat → Nat} {pr qr : Nat → Int32} (h : LB V F pr qr) (hV : ∀ c, c ≠ 36 → V2 c = V c) : LB V2 F pr qr := by
  obtain ⟨h1, h2, h3⟩ := h
  refine ⟨?_, by rw [hV 37 (by decide)]; exact h2, by rw [hV 38 (by decide)]; exact h3⟩
  rw [← h1]
  funext k
  unfold bF
  rw [hV 3 (by decide)]
theorem LB_p {E : zE} {D : zD} (hD : zDok E D) {V : Nat → Nat → Int32} {P : Nat → Nat → Value} {PH : aH} {F : Nat → Nat} {pr qr : Nat → Int32} (h : LB V F pr qr) : HM D V P PH (D.1 37) = some (10, 36, fun k => .int (pr k)) := by
  rw [HM_at hD (show zin 37 by decide), ← h.2.1]
  rfl
theorem LB_q {E : zE} {D : zD} (hD : zDok E D) {V : Nat → Nat → Int32} {P : Nat → Nat → Value} {PH : aH} {F : Nat → Nat} {pr qr : Nat → Int32} (h : LB V F pr qr) : HM D V P PH (D.1 38) = some (10, 36, fun k => .int (qr k)) := by
  rw [HM_at hD (show zin 38 by decide), ← h.2.2]
  rfl
theorem lgc_s (x : Int64) : lg_cmp x x = 0 := by
  unfold lg_cmp
  rw [if_neg (by exact Int64.lt_irrefl), if_pos rfl]
theorem cx_Xx_sideAt {E : zE} (hE : zEv E) {l : Launch} (hl : l.stackTraces = false) {D : zD} (hD : zDok E D) (V : Nat → Nat → Int32) (P : Nat → Nat → Value) (PH : aH) (F : Nat → Nat) (hFV : bF V 2 = F) (hF : okF F) (a : Nat) (ha : a < 36) (hne : F a ≠ 0) (sz : Nat) : zM E l y_Xx_sideAt [.code y_Xx_sideAt c_Xx_sideAt 2 (some .int)] rm_Xx_sideAt [.ref (D.1 0), .int (nI a)] (HM D V P PH) sz (zRet (some (.int (nI (sd (F a))))) (HM D V P PH) sz) := by
  subst hFV
  exact ct_Xx_sideAt hE hl hD V P PH hF a ha hne sz
theorem cx_Xx_stepsAt {E : zE} (hE : zEv E) {l : Launch} (hl : l.stackTraces = false) {D : zD} (hD : zDok E D) (V : Nat → Nat → Int32) (P : Nat → Nat → Value) (PH : aH) (F : Nat → Nat) (hFV : bF V 2 = F) (hF : okF F) (a : Nat) (ha : a < 36) (hne : F a ≠ 0) (sz : Nat) : zM E l y_Xx_stepsAt [.code y_Xx_stepsAt c_Xx_stepsAt 2 (some .int)] rm_Xx_stepsAt [.ref (D.1 0), .int (nI a)] (HM D V P PH) sz (zRet (some (.int (nI (stp (F a))))) (HM D V P PH) sz) := by
  subst hFV
  exact ct_Xx_stepsAt hE hl hD V P PH hF a ha hne sz
theorem cx_Xx_worthAt {E : zE} (hE : zEv E) {l : Launch} (hl : l.stackTraces = false) {D : zD} (hD : zDok E D) (V : Nat → Nat → Int32) (P : Nat → Nat → Value) (PH : aH) (F : Nat → Nat) (hFV : bF V 2 = F) (hF : okF F) (a : Nat) (ha : a < 36) (hne : F a ≠ 0) (sz : Nat) : zM E l y_Xx_worthAt [.code y_Xx_worthAt c_Xx_worthAt 2 (some .int)] rm_Xx_worthAt [.ref (D.1 0), .int (nI a)] (HM D V P PH) sz (zRet (some (.int (nI (wr (F a))))) (HM D V P PH) sz) := by
  subst hFV
  exact ct_Xx_worthAt hE hl hD V P PH hF a ha hne sz
theorem cx_Xx_reach {E : zE} (hE : zEv E) {l : Launch} (hl : l.stackTraces = false) {D : zD} (hD : zDok E D) (V : Nat → Nat → Int32) (P : Nat → Nat → Value) (PH : aH) (F : Nat → Nat) (hFV : bF V 2 = F) (hF : okF F) (a : Nat) (ha : a < 36) (hne : F a ≠ 0) (sz : Nat) : zM E l y_Xx_reach [.code y_Xx_reach c_Xx_reach 2 (some .long)] rm_Xx_reach [.ref (D.1 0), .int (nI a)] (HM D V P PH) sz (zRet (some (.long (lN (gfa F a (sd (F a)))))) (HM D V P PH) sz) := by
  subst hFV
  exact ct_Xx_reach hE hl hD V P PH hF a ha hne sz
theorem cx_Xx_exchange {E : zE} (hE : zEv E) {l : Launch} (hl : l.stackTraces = false) {D : zD} (hD : zDok E D) (V : Nat → Nat → Int32) (P : Nat → Nat → Value) (PH : aH) (F : Nat → Nat) (hFV : bF V 2 = F) (hF : okF F) (a : Nat) (ha : a < 36) (hne : F a ≠ 0) (sz : Nat) : zM E l y_Xx_exchange [.code y_Xx_exchange c_Xx_exchange 2 (some .int)] rm_Xx_exchange [.ref (D.1 0), .int (nI a)] (HM D V P PH) sz (zEx D V P PH sz (exN 16 F a)) := by
  subst hFV
  exact ct_Xx_exchange hE hl hD V P PH hF a ha hne sz
theorem cx_Xx_guards {E : zE} (hE : zEv E) {l : Launch} (hl : l.stackTraces = false) {D : zD} (hD : zDok E D) (V : Nat → Nat → Int32) (P : Nat → Nat → Value) (PH : aH) (F : Nat → Nat) (hFV : bF V 2 = F) (hF : okF F) (a : Nat) (ha : a < 2) (b : Nat) (hb : b < 36) (sz : Nat) : zM E l y_Xx_guards [.code y_Xx_guards c_Xx_guards 3 (some .int)] rm_Xx_guards [.ref (D.1 0), .int (nI a), .int (nI b)] (HM D V P PH) sz (zRet (some (.int (nI (cga F a b 36)))) (HM D V P PH) sz) := by
  subst hFV
  exact ct_Xx_guards hE hl hD V P PH hF a ha b hb sz
theorem cx_Xx_guardsByLooking {E : zE} (hE : zEv E) {l : Launch} (hl : l.stackTraces = false) {D : zD} (hD : zDok E D) (V : Nat → Nat → Int32) (P : Nat → Nat → Value) (PH : aH) (F : Nat → Nat) (hFV : bF V 2 = F) (hF : okF F) (a : Nat) (ha : a < 2) (b : Nat) (hb : b < 36) (sz : Nat) : zM E l y_Xx_guardsByLooking [.code y_Xx_guardsByLooking c_Xx_guardsByLooking 3 (some .int)] rm_Xx_guardsByLooking [.ref (D.1 0), .int (nI a), .int (nI b)] (HM D V P PH) sz (zRet (some (.int (nI (popc (gsf F a b))))) (HM D V P PH) sz) := by
  subst hFV
  exact ct_Xx_guardsByLooking hE hl hD V P PH hF a ha b hb sz
theorem cx_Xx_knowing {E : zE} (hE : zEv E) {l : Launch} (hl : l.stackTraces = false) {D : zD} (hD : zDok E D) (V : Nat → Nat → Int32) (P : Nat → Nat → Value) (PH : aH) (F : Nat → Nat) (hFV : bF V 2 = F) (hF : okF F) (a : Nat) (ha : a < 2) (b : Nat) (hb : b < 5) (sz : Nat) : zM E l y_Xx_knowing [.code y_Xx_knowing c_Xx_knowing 3 (some .int)] rm_Xx_knowing [.ref (D.1 0), .int (nI a), .int (nI b)] (HM D V P PH) sz (zRet (some (.int (nI (popc (knw F a b))))) (HM D V P PH) sz) := by
  subst hFV
  exact ct_Xx_knowing hE hl hD V P PH hF a ha b hb sz
theorem cx_Xx_pieces {E : zE} (hE : zEv E) {l : Launch} (hl : l.stackTraces = false) {D : zD} (hD : zDok E D) (V : Nat → Nat → Int32) (P : Nat → Nat → Value) (PH : aH) (F : Nat → Nat) (hFV : bF V 2 = F) (hF : okF F) (a : Nat) (ha : a < 2) (sz : Nat) : zM E l y_Xx_pieces [.code y_Xx_pieces c_Xx_pieces 2 (some .int)] rm_Xx_pieces [.ref (D.1 0), .int (nI a)] (HM D V P PH) sz (zRet (some (.int (nI (popc (sqs F a))))) (HM D V P PH) sz) := by
  subst hFV
  exact ct_Xx_pieces hE hl hD V P PH hF a ha sz
theorem cx_Xx_worth {E : zE} (hE : zEv E) {l : Launch} (hl : l.stackTraces = false) {D : zD} (hD : zDok E D) (V : Nat → Nat → Int32) (P : Nat → Nat → Value) (PH : aH) (F : Nat → Nat) (hFV : bF V 2 = F) (hF : okF F) (a : Nat) (ha : a < 2) (sz : Nat) : zM E l y_Xx_worth [.code y_Xx_worth c_Xx_worth 2 (some .int)] rm_Xx_worth [.ref (D.1 0), .int (nI a)] (HM D V P PH) sz (zRet (some (.int (nI (wos F a 36)))) (HM D V P PH) sz) := by
  subst hFV
  exact ct_Xx_worth hE hl hD V P PH hF a ha sz
theorem cx_Xx_guarded {E : zE} (hE : zEv E) {l : Launch} (hl : l.stackTraces = false) {D : zD} (hD : zDok E D) (V : Nat → Nat → Int32) (P : Nat → Nat → Value) (PH : aH) (F : Nat → Nat) (hFV : bF V 2 = F) (hF : okF F) (a : Nat) (ha : a < 2) (sz : Nat) : zM E l y_Xx_guarded [.code y_Xx_guarded c_Xx_guarded 2 (some .long)] rm_Xx_guarded [.ref (D.1 0), .int (nI a)] (HM D V P PH) sz (zRet (some (.long (lN (gby F a 36)))) (HM D V P PH) sz) := by
  subst hFV
  exact ct_Xx_guarded hE hl hD V P PH hF a ha sz
theorem cx_Xx_moveCount {E : zE} (hE : zEv E) {l : Launch} (hl : l.stackTraces = false) {D : zD} (hD : zDok E D) (V : Nat → Nat → Int32) (P : Nat → Nat → Value) (PH : aH) (F : Nat → Nat) (hFV : bF V 2 = F) (hF : okF F) (a : Nat) (ha : a < 2) (sz : Nat) : zM E l y_Xx_moveCount [.code y_Xx_moveCount c_Xx_moveCount 2 (some .int)] rm_Xx_moveCount [.ref (D.1 0), .int (nI a)] (HM D V P PH) sz (zRet (some (.int (nI (mvs F a 36)))) (HM D V P PH) sz) := by
  subst hFV
  exact ct_Xx_moveCount hE hl hD V P PH hF a ha sz
set_option maxRecDepth 20000 in
theorem lp_Lw_squares {E : zE} {G : zG} {D : zD} (hD : zDok E D) {V : Nat → Nat → Int32} {P : Nat → Nat → Value} {PH : aH} {F : Nat → Nat} {pr qr : Nat → Int32} (hLB : LB V F pr qr) (hpq : okpq F pr qr) (hpc : pcs_ F ≤ 16) {sz : Nat} (C : zCx E G c_Lw_squares 4 y_Lw_squares.cls y_Lw_squares.name (some .boolean) rm_Lw_squares) (q : zEndX E G (zEo D V P PH sz (nI 1)) rm_Lw_squares.cells rm_Lw_squares.slots) : ∀ (y i : Nat) (V2 : Nat → Nat → Int32), 36 - i < y → i ≤ 36 → (∀ c, c ≠ 36 → V2 c = V c) → Z E G (HM D V2 P PH) sz (i * 13) (i * 152) (2, [some (.ref (D.1 0)), some (.ref (D.1 37)), some (.ref (D.1 38)), some (.int (nI i))], []) := by
  intro y
  induction y with
  | zero =>
    intro i V2 h1 h2
    omega
  | succ y ih =>
    intro i V2 h1 h2 hV
    have hF := hpq.1
    have hLB2 := LB_fr hLB hV
    have hst := stp_lt (F i)
    have hFi : i < 36 → F i < 128 := fun z => hF i z
    refine Z_run C it_Lw_squares 2 (f2 := (5, [some (.ref (D.1 0)), some (.ref (D.1 37)), some (.ref (D.1 38)), some (.int (nI i))], [.int (nI 36), .int (nI i)])) rfl ?_
    refine Z_br C it_Lw_squares rfl rfl (fun hc1 => ?_) (fun hc1 => ?_)
    · replace hc1 := (nI_leI (a := 36) (b := i) (by omega) (by omega)).mp hc1
      refine Z_run C it_Lw_squares 1 (f2 := (93, [some (.ref (D.1 0)), some (.ref (D.1 37)), some (.ref (D.1 38)), some (.int (nI i))], [.int (nI 1)])) rfl ?_
      exact Z_zret C q.e it_Lw_squares rfl (Or.inr rfl) (⟨rfl, rfl, V2, rfl, hV⟩) (by show i * 13 ≤ 468; omega) (by show i * 152 ≤ 5472; omega)
    · replace hc1 : ¬ _ := fun z9 => hc1 ((nI_leI (a := 36) (b := i) (by omega) (by omega)).mpr z9)
      refine Z_run C it_Lw_squares 2 (f2 := (10, [some (.ref (D.1 0)), some (.ref (D.1 37)), some (.ref (D.1 38)), some (.int (nI i))], [.int (nI i), .ref (D.1 37)])) rfl ?_
      refine Z_ald C it_Lw_squares (tg := 10) rfl (LB_p hD hLB2) (by decide) rfl (j := i) (by omega) (by decide) (v := .int (nI (stp (F i)))) (congrArg Value.int (hpq.2 i (by omega)).1) ?_
      refine Z_br C it_Lw_squares rfl rfl (fun hc2 => ?_) (fun hc2 => ?_)
      · have hz : F i = 0 := (hpq.2 i (by omega)).2.1 ((nI_le0 (by omega)).mp hc2)
        refine Z_run C it_Lw_squares 1 (f2 := (89, [some (.ref (D.1 0)), some (.ref (D.1 37)), some (.ref (D.1 38)), some (.int (nI i + nI 1))], [])) rfl ?_
        rw [nI_add i 1]
        refine Z_run C it_Lw_squares 1 (f2 := (2, [some (.ref (D.1 0)), some (.ref (D.1 37)), some (.ref (D.1 38)), some (.int (nI (i + 1)))], [])) rfl ?_
        refine Z_widen (k2 := (i + 1) * 13) (n2 := (i + 1) * 152) (by omega) (by omega) ?_
        exact ih (i + 1) V2 (by omega) (by omega) hV
      · have hne : F i ≠ 0 := fun z => hc2 ((nI_le0 (by omega)).mpr (by rw [z]; rfl))
        refine Z_run C it_Lw_squares 2 (f2 := (16, [some (.ref (D.1 0)), some (.ref (D.1 37)), some (.ref (D.1 38)), some (.int (nI i))], [.int (nI i), .ref (D.1 0)])) rfl ?_
        refine Zr_callV C it_Lw_squares hD rfl p_Xx_sideAt ml_Lw_40 0 (by decide) rfl rfl [.int (nI i)] (cx_Xx_sideAt C.ev C.l hD _ _ _ F hLB2.1 hF i (by omega) (by assumption) _) rfl rfl ⟨by decide, by decide, by show i * 13 + 0 + 2 ≤ 468; omega, by show i * 152 + 0 + 12 ≤ 5472; omega⟩ (Nat.le_of_ble_eq_true rfl) rfl ?_
        show Z E G (HM D V2 P PH) sz (i * 13 + 2) (i * 152 + 12) (19, [some (.ref (D.1 0)), some (.ref (D.1 37)), some (.ref (D.1 38)), some (.int (nI i))], [.int (nI (sd (F i)))])
        refine Z_run C it_Lw_squares 2 (f2 := (21, [some (.ref (D.1 0)), some (.ref (D.1 37)), some (.ref (D.1 38)), some (.int (nI i))], [.int (nI i), .ref (D.1 38), .int (nI (sd (F i)))])) rfl ?_
        refine Z_ald C it_Lw_squares (tg := 10) rfl (LB_q hD hLB2) (by decide) rfl (j := i) (by omega) (by decide) (v := .int (nI (F i / 32))) (congrArg Value.int ((hpq.2 i (by omega)).2.2 (by assumption))) ?_
        refine Z_run C it_Lw_squares 2 (f2 := (24, [some (.ref (D.1 0)), some (.ref (D.1 37)), some (.ref (D.1 38)), some (.int (nI i))], [.int (nI (F i / 32) / nI 2), .int (nI (sd (F i)))])) rfl ?_
        rw [nI_div (a := F i / 32) (d := 2) (by omega) (by omega) (by omega)]
        refine Z_br C it_Lw_squares rfl rfl (fun hc3 => ?_) (fun hc3 => ?_)
        · exact absurd (congrArg nI (by unfold sd; omega)) hc3
        · skip
          refine Z_run C it_Lw_squares 2 (f2 := (29, [some (.ref (D.1 0)), some (.ref (D.1 37)), some (.ref (D.1 38)), some (.int (nI i))], [.int (nI i), .ref (D.1 0)])) rfl ?_
          refine Zr_callV C it_Lw_squares hD rfl p_Xx_stepsAt ml_Lw_46 0 (by decide) rfl rfl [.int (nI i)] (cx_Xx_stepsAt C.ev C.l hD _ _ _ F hLB2.1 hF i (by omega) (by assumption) _) rfl rfl ⟨by decide, by decide, by show i * 13 + 2 + 2 ≤ 468; omega, by show i * 152 + 12 + 12 ≤ 5472; omega⟩ (Nat.le_of_ble_eq_true rfl) rfl ?_
          show Z E G (HM D V2 P PH) sz (i * 13 + 4) (i * 152 + 24) (32, [some (.ref (D.1 0)), some (.ref (D.1 37)), some (.ref (D.1 38)), some (.int (nI i))], [.int (nI (stp (F i)))])
          refine Z_run C it_Lw_squares 2 (f2 := (34, [some (.ref (D.1 0)), some (.ref (D.1 37)), some (.ref (D.1 38)), some (.int (nI i))], [.int (nI i), .ref (D.1 37), .int (nI (stp (F i)))])) rfl ?_
          refine Z_ald C it_Lw_squares (tg := 10) rfl (LB_p hD hLB2) (by decide) rfl (j := i) (by omega) (by decide) (v := .int (nI (stp (F i)))) (congrArg Value.int (hpq.2 i (by omega)).1) ?_
          refine Z_br C it_Lw_squares rfl rfl (fun hc4 => ?_) (fun hc4 => ?_)
          · exact absurd (rfl) hc4
          · skip
            refine Z_run C it_Lw_squares 2 (f2 := (40, [some (.ref (D.1 0)), some (.ref (D.1 37)), some (.ref (D.1 38)), some (.int (nI i))], [.int (nI i), .ref (D.1 0)])) rfl ?_
            refine Zr_callV C it_Lw_squares hD rfl p_Xx_worthAt ml_Lw_49 0 (by decide) rfl rfl [.int (nI i)] (cx_Xx_worthAt C.ev C.l hD _ _ _ F hLB2.1 hF i (by omega) (by assumption) _) rfl rfl ⟨by decide, by decide, by show i * 13 + 4 + 2 ≤ 468; omega, by show i * 152 + 24 + 12 ≤ 5472; omega⟩ (Nat.le_of_ble_eq_true rfl) rfl ?_
            show Z E G (HM D V2 P PH) sz (i * 13 + 6) (i * 152 + 36) (43, [some (.ref (D.1 0)), some (.ref (D.1 37)), some (.ref (D.1 38)), some (.int (nI i))], [.int (nI (wr (F i)))])
            refine Z_run C it_Lw_squares 2 (f2 := (45, [some (.ref (D.1 0)), some (.ref (D.1 37)), some (.ref (D.1 38)), some (.int (nI i))], [.int (nI i), .ref (D.1 37), .int (nI (wr (F i)))])) rfl ?_
            refine Z_ald C it_Lw_squares (tg := 10) rfl (LB_p hD hLB2) (by decide) rfl (j := i) (by omega) (by decide) (v := .int (nI (stp (F i)))) (congrArg Value.int (hpq.2 i (by omega)).1) ?_
            refine Z_run C it_Lw_squares 2 (f2 := (48, [some (.ref (D.1 0)), some (.ref (D.1 37)), some (.ref (D.1 38)), some (.int (nI i))], [.int (nI i), .ref (D.1 38), .int (nI (stp (F i))), .int (nI (wr (F i)))])) rfl ?_
            refine Z_ald C it_Lw_squares (tg := 10) rfl (LB_q hD hLB2) (by decide) rfl (j := i) (by omega) (by decide) (v := .int (nI (F i / 32))) (congrArg Value.int ((hpq.2 i (by omega)).2.2 (by assumption))) ?_
            refine Zr_callS C it_Lw_squares rfl p_Lw_worth ml_Lw_34 [.int (nI (stp (F i))), .int (nI (F i / 32))] (ct_Lw_worthF C.ev C.l (F i) (hpq.1 _ (by omega)) (HM D V2 P PH) _) rfl rfl ⟨by decide, by decide, by show i * 13 + 6 + 0 ≤ 468; omega, by show i * 152 + 36 + 0 ≤ 5472; omega⟩ (Nat.le_of_ble_eq_true rfl) rfl ?_
            show Z E G (HM D V2 P PH) sz (i * 13 + 6) (i * 152 + 36) (52, [some (.ref (D.1 0)), some (.ref (D.1 37)), some (.ref (D.1 38)), some (.int (nI i))], [.int (nI (wr (F i))), .int (nI (wr (F i)))])
            refine Z_br C it_Lw_squares rfl rfl (fun hc5 => ?_) (fun hc5 => ?_)
            · exact absurd (rfl) hc5
            · skip
              refine Z_run C it_Lw_squares 2 (f2 := (57, [some (.ref (D.1 0)), some (.ref (D.1 37)), some (.ref (D.1 38)), some (.int (nI i))], [.int (nI i), .ref (D.1 0)])) rfl ?_
              refine Zr_callV C it_Lw_squares hD rfl p_Xx_reach ml_Lw_52 0 (by decide) rfl rfl [.int (nI i)] (cx_Xx_reach C.ev C.l hD _ _ _ F hLB2.1 hF i (by omega) (by assumption) _) rfl rfl ⟨by decide, by decide, by show i * 13 + 6 + 2 ≤ 468; omega, by show i * 152 + 36 + 12 ≤ 5472; omega⟩ (Nat.le_of_ble_eq_true rfl) rfl ?_
              show Z E G (HM D V2 P PH) sz (i * 13 + 8) (i * 152 + 48) (60, [some (.ref (D.1 0)), some (.ref (D.1 37)), some (.ref (D.1 38)), some (.int (nI i))], [.long (lN (gfa F i (sd (F i))))])
              refine Z_run C it_Lw_squares 3 (f2 := (63, [some (.ref (D.1 0)), some (.ref (D.1 37)), some (.ref (D.1 38)), some (.int (nI i))], [.int (nI i), .ref (D.1 38), .ref (D.1 37), .long (lN (gfa F i (sd (F i))))])) rfl ?_
              refine Zr_callS C it_Lw_squares rfl p_Lw_reach ml_Lw_26 [.ref (D.1 37), .ref (D.1 38), .int (nI i)] (ct_Lw_reach C.ev C.l F _ _ hpq (HM D V2 P PH) _ _ (LB_p hD hLB2) (LB_q hD hLB2) i (by omega) (by assumption) _) rfl rfl ⟨by decide, by decide, by show i * 13 + 8 + 0 ≤ 468; omega, by show i * 152 + 48 + 0 ≤ 5472; omega⟩ (Nat.le_of_ble_eq_true rfl) rfl ?_
              show Z E G (HM D V2 P PH) sz (i * 13 + 8) (i * 152 + 48) (66, [some (.ref (D.1 0)), some (.ref (D.1 37)), some (.ref (D.1 38)), some (.int (nI i))], [.long (lN (gfa F i (sd (F i)))), .long (lN (gfa F i (sd (F i))))])
              refine Z_run C it_Lw_squares 1 (f2 := (67, [some (.ref (D.1 0)), some (.ref (D.1 37)), some (.ref (D.1 38)), some (.int (nI i))], [.int (lg_cmp (lN (gfa F i (sd (F i)))) (lN (gfa F i (sd (F i)))))])) rfl ?_
              refine Z_br C it_Lw_squares rfl rfl (fun hc6 => ?_) (fun hc6 => ?_)
              · exact absurd (lgc_s _) hc6
              · skip
                refine Z_run C it_Lw_squares 2 (f2 := (72, [some (.ref (D.1 0)), some (.ref (D.1 37)), some (.ref (D.1 38)), some (.int (nI i))], [.int (nI i), .ref (D.1 0)])) rfl ?_
                refine Zr_exV C it_Lw_squares hD rfl p_Xx_exchange ml_Lw_55 0 (by decide) rfl rfl [.int (nI i)] (cx_Xx_exchange C.ev C.l hD _ _ _ F hLB2.1 hF i (by omega) (by assumption) _) rfl rfl ⟨by decide, by decide, by show i * 13 + 8 + 2 ≤ 468; omega, by show i * 152 + 48 + 12 ≤ 5472; omega⟩ (Nat.le_of_ble_eq_true rfl) rfl (fun V3 hV3 => ?_)
                have hLB3 := LB_fr hLB2 hV3
                show Z E G (HM D V3 P PH) sz (i * 13 + 10) (i * 152 + 60) (75, [some (.ref (D.1 0)), some (.ref (D.1 37)), some (.ref (D.1 38)), some (.int (nI i))], [.int (nI (exN 16 F i))])
                refine Z_run C it_Lw_squares 3 (f2 := (78, [some (.ref (D.1 0)), some (.ref (D.1 37)), some (.ref (D.1 38)), some (.int (nI i))], [.int (nI i), .ref (D.1 38), .ref (D.1 37), .int (nI (exN 16 F i))])) rfl ?_
                refine Zr_callS C it_Lw_squares rfl p_Lw_exchange ml_Lw_58 [.ref (D.1 37), .ref (D.1 38), .int (nI i)] (ct_Lw_exchange C.ev C.l F _ _ hpq (HM D V3 P PH) _ _ (LB_p hD hLB3) (LB_q hD hLB3) i (by omega) (by assumption) hpc _) rfl rfl ⟨by decide, by decide, by show i * 13 + 10 + 3 ≤ 468; omega, by show i * 152 + 60 + 92 ≤ 5472; omega⟩ (Nat.le_of_ble_eq_true rfl) rfl ?_
                show Z E G (HM D V3 P PH) sz (i * 13 + 13) (i * 152 + 152) (81, [some (.ref (D.1 0)), some (.ref (D.1 37)), some (.ref (D.1 38)), some (.int (nI i))], [.int (nI (exM 16 F i)), .int (nI (exN 16 F i))])
                refine Z_br C it_Lw_squares rfl rfl (fun hc7 => ?_) (fun hc7 => ?_)
                · skip
                  refine Z_run C it_Lw_squares 1 (f2 := (89, [some (.ref (D.1 0)), some (.ref (D.1 37)), some (.ref (D.1 38)), some (.int (nI i + nI 1))], [])) rfl ?_
                  rw [nI_add i 1]
                  refine Z_run C it_Lw_squares 1 (f2 := (2, [some (.ref (D.1 0)), some (.ref (D.1 37)), some (.ref (D.1 38)), some (.int (nI (i + 1)))], [])) rfl ?_
                  refine Z_widen (k2 := (i + 1) * 13) (n2 := (i + 1) * 152) (by omega) (by omega) ?_
                  exact ih (i + 1) V3 (by omega) (by omega) (fun c hc => (hV3 c hc).trans (hV c hc))
                · exact absurd (congrArg nI (exN_exM (by omega) hF)) hc7
set_option maxRecDepth 20000 in
theorem ct_Lw_squares {E : zE} (hE : zEv E) {l : Launch} (hl : l.stackTraces = false) {D : zD} (hD : zDok E D) {V : Nat → Nat → Int32} {P : Nat → Nat → Value} {PH : aH} {F : Nat → Nat} {pr qr : Nat → Int32} (hLB : LB V F pr qr) (hpq : okpq F pr qr) (hpc : pcs_ F ≤ 16) (sz : Nat) : zM E l y_Lw_squares [.code y_Lw_squares c_Lw_squares 4 (some .boolean)] rm_Lw_squares [.ref (D.1 0), .ref (D.1 37), .ref (D.1 38)] (HM D V P PH) sz (zEo D V P PH sz (nI 1)) := by
  refine zM_of hE hl (by decide +kernel) [some (.ref (D.1 0)), some (.ref (D.1 37)), some (.ref (D.1 38)), none] ⟨rfl, rfl, Nat.le_of_ble_eq_true rfl⟩ ?_
  intro G C q htb
  refine Z_run C it_Lw_squares 2 (f2 := (2, [some (.ref (D.1 0)), some (.ref (D.1 37)), some (.ref (D.1 38)), some (.int (nI 0))], [])) rfl ?_
  exact lp_Lw_squares hD hLB hpq hpc C q 37 0 V (by omega) (by omega) (fun c hc => rfl)
