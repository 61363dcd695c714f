/-! ===== Game.copy, History ===== -/
theorem nar7 {v : Value} (h : v = .null ∨ ∃ q, v = .ref q) : narrow (t_Gm 7) v = v := by rcases h with rfl | ⟨q, rfl⟩ <;> rfl
theorem fit7 {v : Value} (h : v = .null ∨ ∃ q, v = .ref q) : fits (t_Gm 7) v = true := by rcases h with rfl | ⟨q, rfl⟩ <;> rfl
def gcp (V : Nat → Nat → Int32) (g u : Nat) : Nat → Nat → Int32 := vset (vset (vset (vset (vset (vset (vset (vset (vcp V (g + 1 + 1) (u + 1 + 1) 36) (g + 3) 0 (V (u + 3) 0)) (g + 4) 0 (V (u + 4) 0)) (g + 3) 1 (V (u + 3) 1)) (g + 4) 1 (V (u + 4) 1)) g 3 (V u 3)) g 4 (V u 4)) g 5 (V u 5)) g 6 (V u 6)
set_option maxRecDepth 20000 in
theorem ct_Gm_copy {E : zE} (hE : zEv E) {l : Launch} (hl : l.stackTraces = false) {D : zD} (hD : zDok E D) (V : Nat → Nat → Int32) (P : Nat → Nat → Value) (PH : aH) (g : Nat) (hg : isG g) (u : Nat) (hu : isG u) (hgu : g + 5 ≤ u ∨ u + 5 ≤ g) (hv5 : V u 5 = 0 ∨ V u 5 = 1) (hv7 : P u 7 = .null ∨ ∃ q, P u 7 = .ref q) (sz : Nat) : zM E l y_Gm_copy [.code y_Gm_copy c_Gm_copy 3 none] rm_Gm_copy [.ref (D.1 g), .ref (D.1 u)] (HM D V P PH) sz (zRet (none) (HM D (gcp V g u) (pset P g 7 (P u 7)) PH) sz) := by
  refine zM_of hE hl (by decide +kernel) [some (.ref (D.1 g)), some (.ref (D.1 u)), none] ⟨rfl, rfl, Nat.le_of_ble_eq_true rfl⟩ ?_
  intro G C q htb
  have hg5 := hg.2.2.2.2.1
  have hu5 := hu.2.2.2.2.1
  refine Z_run C it_Gm_copy 1 (f2 := (1, [some (.ref (D.1 g)), some (.ref (D.1 u)), none], [.ref (D.1 g)])) rfl ?_
  refine Zm_get C it_Gm_copy hD rfl g wi_Gm (by omega) (hg.1 _ _ _) rfl (j := 0) (by decide) fl_Gm_12 (v := .ref (D.1 (g + 1))) rfl ?_
  refine Z_run C it_Gm_copy 1 (f2 := (5, [some (.ref (D.1 g)), some (.ref (D.1 u)), none], [.ref (D.1 u), .ref (D.1 (g + 1))])) rfl ?_
  refine Zm_get C it_Gm_copy hD rfl u wi_Gm (by omega) (hu.1 _ _ _) rfl (j := 0) (by decide) fl_Gm_12 (v := .ref (D.1 (u + 1))) rfl ?_
  refine Zr_callV C it_Gm_copy hD rfl p_Bd_copy ml_Gm_43 (g + 1) (by omega) (hg.2.1.1 _ _ _) rfl [.ref (D.1 (u + 1))] (ct_Bd_copy C.ev C.l hD _ _ _ (g + 1) hg.2.1 (u + 1) hu.2.1 _) rfl rfl ⟨by decide, by decide, by decide, by decide⟩ (Nat.le_of_ble_eq_true rfl) rfl ?_
  show Z E G (HM D (vcp V (g + 2) (u + 2) 36) P PH) sz 0 0 (11, [some (.ref (D.1 g)), some (.ref (D.1 u)), none], [])
  refine Z_run C it_Gm_copy 2 (f2 := (13, [some (.ref (D.1 g)), some (.ref (D.1 u)), some (.int (nI 0))], [])) rfl ?_
  refine Z_run C it_Gm_copy 2 (f2 := (15, [some (.ref (D.1 g)), some (.ref (D.1 u)), some (.int (nI 0))], [.int (nI 2), .int (nI 0)])) rfl ?_
  refine Z_br C it_Gm_copy rfl rfl (fun hc1 => ?_) (fun hc1 => ?_)
  · exact absurd hc1 (by decide)
  · skip
    refine Z_run C it_Gm_copy 1 (f2 := (19, [some (.ref (D.1 g)), some (.ref (D.1 u)), some (.int (nI 0))], [.ref (D.1 g)])) rfl ?_
    refine Zm_get C it_Gm_copy hD rfl g wi_Gm (by omega) (hg.1 _ _ _) rfl (j := 1) (by decide) fl_Gm_18 (v := .ref (D.1 (g + 3))) rfl ?_
    refine Z_run C it_Gm_copy 2 (f2 := (24, [some (.ref (D.1 g)), some (.ref (D.1 u)), some (.int (nI 0))], [.ref (D.1 u), .int (nI 0), .ref (D.1 (g + 3))])) rfl ?_
    refine Zm_get C it_Gm_copy hD rfl u wi_Gm (by omega) (hu.1 _ _ _) rfl (j := 1) (by decide) fl_Gm_18 (v := .ref (D.1 (u + 3))) rfl ?_
    refine Z_run C it_Gm_copy 1 (f2 := (28, [some (.ref (D.1 g)), some (.ref (D.1 u)), some (.int (nI 0))], [.int (nI 0), .ref (D.1 (u + 3)), .int (nI 0), .ref (D.1 (g + 3))])) rfl ?_
    refine Zm_ald C it_Gm_copy hD (u + 3) 10 rfl (by omega) (hu.2.2.1 _ _ _) (by decide) (by decide) rfl (j := 0) (by omega) (v := .int ((vcp V (g + 2) (u + 2) 36) (u + 3) 0)) rfl ?_
    have e1 : (vcp V (g + 2) (u + 2) 36) (u + 3) 0 = V (u + 3) 0 := by simp (disch := omega) only [vset_n, vcp_n]
    rw [e1]
    refine Zm_ast C it_Gm_copy hD (g + 3) 10 rfl (by first | decide | exact isB_k hb | omega) (hg.2.2.1 _ _ _) (by decide) rfl (j := 0) (by omega) trivial (hg.2.2.2.2.2.1 _).1 ?_
    refine Z_run C it_Gm_copy 1 (f2 := (31, [some (.ref (D.1 g)), some (.ref (D.1 u)), some (.int (nI 0))], [.ref (D.1 g)])) rfl ?_
    refine Zm_get C it_Gm_copy hD rfl g wi_Gm (by omega) (hg.1 _ _ _) rfl (j := 2) (by decide) fl_Gm_22 (v := .ref (D.1 (g + 4))) rfl ?_
    refine Z_run C it_Gm_copy 2 (f2 := (36, [some (.ref (D.1 g)), some (.ref (D.1 u)), some (.int (nI 0))], [.ref (D.1 u), .int (nI 0), .ref (D.1 (g + 4))])) rfl ?_
    refine Zm_get C it_Gm_copy hD rfl u wi_Gm (by omega) (hu.1 _ _ _) rfl (j := 2) (by decide) fl_Gm_22 (v := .ref (D.1 (u + 4))) rfl ?_
    refine Z_run C it_Gm_copy 1 (f2 := (40, [some (.ref (D.1 g)), some (.ref (D.1 u)), some (.int (nI 0))], [.int (nI 0), .ref (D.1 (u + 4)), .int (nI 0), .ref (D.1 (g + 4))])) rfl ?_
    refine Zm_ald C it_Gm_copy hD (u + 4) 10 rfl (by omega) (hu.2.2.2.1 _ _ _) (by decide) (by decide) rfl (j := 0) (by omega) (v := .int ((vset (vcp V (g + 2) (u + 2) 36) (g + 3) 0 (V (u + 3) 0)) (u + 4) 0)) rfl ?_
    have e2 : (vset (vcp V (g + 2) (u + 2) 36) (g + 3) 0 (V (u + 3) 0)) (u + 4) 0 = V (u + 4) 0 := by simp (disch := omega) only [vset_n, vcp_n]
    rw [e2]
    refine Zm_ast C it_Gm_copy hD (g + 4) 10 rfl (by first | decide | exact isB_k hb | omega) (hg.2.2.2.1 _ _ _) (by decide) rfl (j := 0) (by omega) trivial (hg.2.2.2.2.2.1 _).2 ?_
    refine Z_run C it_Gm_copy 1 (f2 := (45, [some (.ref (D.1 g)), some (.ref (D.1 u)), some (.int (nI 0 + nI 1))], [])) rfl ?_
    rw [nI_add 0 1]
    refine Z_run C it_Gm_copy 1 (f2 := (13, [some (.ref (D.1 g)), some (.ref (D.1 u)), some (.int (nI (0 + 1)))], [])) rfl ?_
    have e3 : nI (0 + 1) = nI 1 := rfl
    rw [e3]
    refine Z_run C it_Gm_copy 2 (f2 := (15, [some (.ref (D.1 g)), some (.ref (D.1 u)), some (.int (nI 1))], [.int (nI 2), .int (nI 1)])) rfl ?_
    refine Z_br C it_Gm_copy rfl rfl (fun hc2 => ?_) (fun hc2 => ?_)
    · exact absurd hc2 (by decide)
    · skip
      refine Z_run C it_Gm_copy 1 (f2 := (19, [some (.ref (D.1 g)), some (.ref (D.1 u)), some (.int (nI 1))], [.ref (D.1 g)])) rfl ?_
      refine Zm_get C it_Gm_copy hD rfl g wi_Gm (by omega) (hg.1 _ _ _) rfl (j := 1) (by decide) fl_Gm_18 (v := .ref (D.1 (g + 3))) rfl ?_
      refine Z_run C it_Gm_copy 2 (f2 := (24, [some (.ref (D.1 g)), some (.ref (D.1 u)), some (.int (nI 1))], [.ref (D.1 u), .int (nI 1), .ref (D.1 (g + 3))])) rfl ?_
      refine Zm_get C it_Gm_copy hD rfl u wi_Gm (by omega) (hu.1 _ _ _) rfl (j := 1) (by decide) fl_Gm_18 (v := .ref (D.1 (u + 3))) rfl ?_
      refine Z_run C it_Gm_copy 1 (f2 := (28, [some (.ref (D.1 g)), some (.ref (D.1 u)), some (.int (nI 1))], [.int (nI 1), .ref (D.1 (u + 3)), .int (nI 1), .ref (D.1 (g + 3))])) rfl ?_
      refine Zm_ald C it_Gm_copy hD (u + 3) 10 rfl (by omega) (hu.2.2.1 _ _ _) (by decide) (by decide) rfl (j := 1) (by omega) (v := .int ((vset (vset (vcp V (g + 2) (u + 2) 36) (g + 3) 0 (V (u + 3) 0)) (g + 4) 0 (V (u + 4) 0)) (u + 3) 1)) rfl ?_
      have e4 : (vset (vset (vcp V (g + 2) (u + 2) 36) (g + 3) 0 (V (u + 3) 0)) (g + 4) 0 (V (u + 4) 0)) (u + 3) 1 = V (u + 3) 1 := by simp (disch := omega) only [vset_n, vcp_n]
      rw [e4]
      refine Zm_ast C it_Gm_copy hD (g + 3) 10 rfl (by first | decide | exact isB_k hb | omega) (hg.2.2.1 _ _ _) (by decide) rfl (j := 1) (by omega) trivial (hg.2.2.2.2.2.1 _).1 ?_
      refine Z_run C it_Gm_copy 1 (f2 := (31, [some (.ref (D.1 g)), some (.ref (D.1 u)), some (.int (nI 1))], [.ref (D.1 g)])) rfl ?_
      refine Zm_get C it_Gm_copy hD rfl g wi_Gm (by omega) (hg.1 _ _ _) rfl (j := 2) (by decide) fl_Gm_22 (v := .ref (D.1 (g + 4))) rfl ?_
      refine Z_run C it_Gm_copy 2 (f2 := (36, [some (.ref (D.1 g)), some (.ref (D.1 u)), some (.int (nI 1))], [.ref (D.1 u), .int (nI 1), .ref (D.1 (g + 4))])) rfl ?_
      refine Zm_get C it_Gm_copy hD rfl u wi_Gm (by omega) (hu.1 _ _ _) rfl (j := 2) (by decide) fl_Gm_22 (v := .ref (D.1 (u + 4))) rfl ?_
      refine Z_run C it_Gm_copy 1 (f2 := (40, [some (.ref (D.1 g)), some (.ref (D.1 u)), some (.int (nI 1))], [.int (nI 1), .ref (D.1 (u + 4)), .int (nI 1), .ref (D.1 (g + 4))])) rfl ?_
      refine Zm_ald C it_Gm_copy hD (u + 4) 10 rfl (by omega) (hu.2.2.2.1 _ _ _) (by decide) (by decide) rfl (j := 1) (by omega) (v := .int ((vset (vset (vset (vcp V (g + 2) (u + 2) 36) (g + 3) 0 (V (u + 3) 0)) (g + 4) 0 (V (u + 4) 0)) (g + 3) 1 (V (u + 3) 1)) (u + 4) 1)) rfl ?_
      have e5 : (vset (vset (vset (vcp V (g + 2) (u + 2) 36) (g + 3) 0 (V (u + 3) 0)) (g + 4) 0 (V (u + 4) 0)) (g + 3) 1 (V (u + 3) 1)) (u + 4) 1 = V (u + 4) 1 := by simp (disch := omega) only [vset_n, vcp_n]
      rw [e5]
      refine Zm_ast C it_Gm_copy hD (g + 4) 10 rfl (by first | decide | exact isB_k hb | omega) (hg.2.2.2.1 _ _ _) (by decide) rfl (j := 1) (by omega) trivial (hg.2.2.2.2.2.1 _).2 ?_
      refine Z_run C it_Gm_copy 1 (f2 := (45, [some (.ref (D.1 g)), some (.ref (D.1 u)), some (.int (nI 1 + nI 1))], [])) rfl ?_
      rw [nI_add 1 1]
      refine Z_run C it_Gm_copy 1 (f2 := (13, [some (.ref (D.1 g)), some (.ref (D.1 u)), some (.int (nI (1 + 1)))], [])) rfl ?_
      have e6 : nI (1 + 1) = nI 2 := rfl
      rw [e6]
      refine Z_run C it_Gm_copy 2 (f2 := (15, [some (.ref (D.1 g)), some (.ref (D.1 u)), some (.int (nI 2))], [.int (nI 2), .int (nI 2)])) rfl ?_
      refine Z_br C it_Gm_copy rfl rfl (fun hc3 => ?_) (fun hc3 => ?_)
      · skip
        refine Z_run C it_Gm_copy 2 (f2 := (50, [some (.ref (D.1 g)), some (.ref (D.1 u)), some (.int (nI 2))], [.ref (D.1 u), .ref (D.1 g)])) rfl ?_
        refine Zm_get C it_Gm_copy hD rfl u wi_Gm (by omega) (hu.1 _ _ _) rfl (j := 3) (by decide) fl_Gm_25 (v := .int ((vset (vset (vset (vset (vcp V (g + 2) (u + 2) 36) (g + 3) 0 (V (u + 3) 0)) (g + 4) 0 (V (u + 4) 0)) (g + 3) 1 (V (u + 3) 1)) (g + 4) 1 (V (u + 4) 1)) u 3)) rfl ?_
        have e7 : (vset (vset (vset (vset (vcp V (g + 2) (u + 2) 36) (g + 3) 0 (V (u + 3) 0)) (g + 4) 0 (V (u + 4) 0)) (g + 3) 1 (V (u + 3) 1)) (g + 4) 1 (V (u + 4) 1)) u 3 = V u 3 := by simp (disch := omega) only [vset_n, vcp_n]
        rw [e7]
        refine Zm_put C it_Gm_copy hD rfl g wi_Gm t_Gm t_Gm_ok n_Gm (by first | decide | omega) (hg.1 _ _ _) rfl (j := 3) (by decide) fl_Gm_25 rfl hg.2.2.2.2.2.2.1 rfl rfl ?_
        refine Z_run C it_Gm_copy 2 (f2 := (58, [some (.ref (D.1 g)), some (.ref (D.1 u)), some (.int (nI 2))], [.ref (D.1 u), .ref (D.1 g)])) rfl ?_
        refine Zm_get C it_Gm_copy hD rfl u wi_Gm (by omega) (hu.1 _ _ _) rfl (j := 4) (by decide) fl_Gm_29 (v := .int ((vset (vset (vset (vset (vset (vcp V (g + 2) (u + 2) 36) (g + 3) 0 (V (u + 3) 0)) (g + 4) 0 (V (u + 4) 0)) (g + 3) 1 (V (u + 3) 1)) (g + 4) 1 (V (u + 4) 1)) g 3 (V u 3)) u 4)) rfl ?_
        have e8 : (vset (vset (vset (vset (vset (vcp V (g + 2) (u + 2) 36) (g + 3) 0 (V (u + 3) 0)) (g + 4) 0 (V (u + 4) 0)) (g + 3) 1 (V (u + 3) 1)) (g + 4) 1 (V (u + 4) 1)) g 3 (V u 3)) u 4 = V u 4 := by simp (disch := omega) only [vset_n, vcp_n]
        rw [e8]
        refine Zm_put C it_Gm_copy hD rfl g wi_Gm t_Gm t_Gm_ok n_Gm (by first | decide | omega) (hg.1 _ _ _) rfl (j := 4) (by decide) fl_Gm_29 rfl hg.2.2.2.2.2.2.2.1 rfl rfl ?_
        refine Z_run C it_Gm_copy 2 (f2 := (66, [some (.ref (D.1 g)), some (.ref (D.1 u)), some (.int (nI 2))], [.ref (D.1 u), .ref (D.1 g)])) rfl ?_
        refine Zm_get C it_Gm_copy hD rfl u wi_Gm (by omega) (hu.1 _ _ _) rfl (j := 5) (by decide) fl_Gm_32 (v := .int ((vset (vset (vset (vset (vset (vset (vcp V (g + 2) (u + 2) 36) (g + 3) 0 (V (u + 3) 0)) (g + 4) 0 (V (u + 4) 0)) (g + 3) 1 (V (u + 3) 1)) (g + 4) 1 (V (u + 4) 1)) g 3 (V u 3)) g 4 (V u 4)) u 5)) rfl ?_
        have e9 : (vset (vset (vset (vset (vset (vset (vcp V (g + 2) (u + 2) 36) (g + 3) 0 (V (u + 3) 0)) (g + 4) 0 (V (u + 4) 0)) (g + 3) 1 (V (u + 3) 1)) (g + 4) 1 (V (u + 4) 1)) g 3 (V u 3)) g 4 (V u 4)) u 5 = V u 5 := by simp (disch := omega) only [vset_n, vcp_n]
        rw [e9]
        refine Zm_put C it_Gm_copy hD rfl g wi_Gm t_Gm t_Gm_ok n_Gm (by first | decide | omega) (hg.1 _ _ _) rfl (j := 5) (by decide) fl_Gm_32 rfl hg.2.2.2.2.2.2.2.2.1 (zfit_n (by first | exact bI_v | assumption)) (zfit_f (by first | exact bI_v | assumption)) ?_
        refine Z_run C it_Gm_copy 2 (f2 := (74, [some (.ref (D.1 g)), some (.ref (D.1 u)), some (.int (nI 2))], [.ref (D.1 u), .ref (D.1 g)])) rfl ?_
        refine Zm_get C it_Gm_copy hD rfl u wi_Gm (by omega) (hu.1 _ _ _) rfl (j := 6) (by decide) fl_Gm_36 (v := .int ((vset (vset (vset (vset (vset (vset (vset (vcp V (g + 2) (u + 2) 36) (g + 3) 0 (V (u + 3) 0)) (g + 4) 0 (V (u + 4) 0)) (g + 3) 1 (V (u + 3) 1)) (g + 4) 1 (V (u + 4) 1)) g 3 (V u 3)) g 4 (V u 4)) g 5 (V u 5)) u 6)) rfl ?_
        have e10 : (vset (vset (vset (vset (vset (vset (vset (vcp V (g + 2) (u + 2) 36) (g + 3) 0 (V (u + 3) 0)) (g + 4) 0 (V (u + 4) 0)) (g + 3) 1 (V (u + 3) 1)) (g + 4) 1 (V (u + 4) 1)) g 3 (V u 3)) g 4 (V u 4)) g 5 (V u 5)) u 6 = V u 6 := by simp (disch := omega) only [vset_n, vcp_n]
        rw [e10]
        refine Zm_put C it_Gm_copy hD rfl g wi_Gm t_Gm t_Gm_ok n_Gm (by first | decide | omega) (hg.1 _ _ _) rfl (j := 6) (by decide) fl_Gm_36 rfl hg.2.2.2.2.2.2.2.2.2.1 rfl rfl ?_
        refine Z_run C it_Gm_copy 2 (f2 := (82, [some (.ref (D.1 g)), some (.ref (D.1 u)), some (.int (nI 2))], [.ref (D.1 u), .ref (D.1 g)])) rfl ?_
        refine Zm_get C it_Gm_copy hD rfl u wi_Gm (by omega) (hu.1 _ _ _) rfl (j := 7) (by decide) fl_Gm_39 (v := P u 7) rfl ?_
        refine Zm_putr C it_Gm_copy hD rfl g wi_Gm t_Gm t_Gm_ok n_Gm (by first | decide | omega) (hg.1 _ _ _) rfl (j := 7) (by decide) fl_Gm_39 rfl hg.2.2.2.2.2.2.2.2.2.2 (x := P u 7) (nar7 hv7) (fit7 hv7) ?_
        exact Z_vret C q.e it_Gm_copy rfl (zRet_vH rfl) (by decide) (by decide)
      · exact absurd hc3 (by decide)
