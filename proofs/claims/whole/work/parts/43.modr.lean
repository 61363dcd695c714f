/-! ===== the model: more queries; the history, the text ===== -/
def vrow (V : Nat → Nat → Int32) (c : Nat) (r : Nat → Int32) : Nat → Nat → Int32 := fun d => if d = c then r else V d
theorem vrow_s {V : Nat → Nat → Int32} {c : Nat} {r : Nat → Int32} : vrow V c r c = r := by simp [vrow]
theorem vrow_n {V : Nat → Nat → Int32} {c d : Nat} {r : Nat → Int32} (h : d ≠ c) : vrow V c r d = V d := by simp [vrow, h]
theorem vrow_e {V : Nat → Nat → Int32} {c : Nat} {r : Nat → Int32} (h : r = V c) : vrow V c r = V := by
  funext d
  unfold vrow
  split
  · next h2 => rw [h2, h]
  · rfl
theorem vset_row {V : Nat → Nat → Int32} {c k : Nat} {r r2 : Nat → Int32} {x : Int32} (h : upd r k x = r2) : vset (vrow V c r) c k x = vrow V c r2 := by
  funext d
  unfold vset vrow
  by_cases e : d = c
  · simp only [e, if_true]
    exact h
  · simp only [e, if_false]
/-- a row over which another one is laid: from place o on, i places long, from src's place p on -/
def rcp (r src : Nat → Int32) (o p i : Nat) : Nat → Int32 := fun k => if o ≤ k ∧ k < o + i then src (k - o + p) else r k
theorem rcp_0 {r src : Nat → Int32} {o p : Nat} : rcp r src o p 0 = r := by
  funext k
  unfold rcp
  rw [if_neg (by omega)]
theorem rcp_s {r src : Nat → Int32} {o p i : Nat} {x : Int32} (h : x = src (i + p)) : upd (rcp r src o p i) (o + i) x = rcp r src o p (i + 1) := by
  funext k
  unfold upd rcp
  by_cases e : k = o + i
  · subst e
    rw [if_pos rfl, if_pos (by omega), h]
    congr 1
    omega
  · rw [if_neg e]
    by_cases g : o ≤ k ∧ k < o + i
    · rw [if_pos g, if_pos (by omega)]
    · rw [if_neg g, if_neg (by omega)]
/-- the row of past states, the oldest one dropped -/
def shr (r : Nat → Int32) (i : Nat) : Nat → Int32 := rcp r r 0 60 i
theorem rcp_r {r src : Nat → Int32} {o p i k : Nat} (h : o + i ≤ k) : rcp r src o p i k = r k := by
  unfold rcp
  rw [if_neg (by omega)]
theorem rcp_l {r src : Nat → Int32} {o p i k : Nat} (h : k < i) : rcp r src o p i (o + k) = src (k + p) := by
  unfold rcp
  rw [if_pos (by omega)]
  congr 1
  omega
set_option maxRecDepth 20000 in
theorem ct_Mm_leaderOf {E : zE} (hE : zEv E) {l : Launch} (hl : l.stackTraces = false) {D : zD} (hD : zDok E D) (V : Nat → Nat → Int32) (P : Nat → Nat → Value) (PH : aH) (F : Nat → Nat) (hF : okF F) (hz : ∀ k, k < 36 → V 38 k = nI (mo (F k))) (a : Nat) (ha : a < 2) (k : Nat) (hls : lls (fun k => hld F k a && ldr (F k)) 36 = some k) (sz : Nat) : zM E l y_Mm_leaderOf [.code y_Mm_leaderOf c_Mm_leaderOf 2 (some .int)] rm_Mm_leaderOf [.ref (D.1 37), .int (nI a)] (HM D V P PH) sz (zRet (some (.int (nI k))) (HM D (vset V 37 8 (nI 0)) P PH) sz) := by
  refine zM_of hE hl (by decide +kernel) [some (.ref (D.1 37)), some (.int (nI a))] ⟨rfl, rfl, Nat.le_of_ble_eq_true rfl⟩ ?_
  intro G C q htb
  refine Z_run C it_Mm_leaderOf 2 (f2 := (2, [some (.ref (D.1 37)), some (.int (nI a))], [.int (nI a), .ref (D.1 37)])) rfl ?_
  refine Zr_callS C it_Mm_leaderOf rfl p_Mm_isSide ml_Mm_91 [.int (nI a)] (ct_Mm_isSide_t C.ev C.l a (by omega) (HM D V P PH) _) rfl rfl ⟨by decide, by decide, by decide, by decide⟩ (Nat.le_of_ble_eq_true rfl) rfl ?_
  show Z E G (HM D V P PH) sz 0 0 (5, [some (.ref (D.1 37)), some (.int (nI a))], [.int (nI 1), .ref (D.1 37)])
  refine Zr_callV C it_Mm_leaderOf hD rfl p_Mm_asks ml_Mm_40 37 (by decide) rfl rfl [.int (nI 1)] (ct_Mm_asks_t C.ev C.l hD V P _ _) rfl rfl ⟨by decide, by decide, by decide, by decide⟩ (Nat.le_of_ble_eq_true rfl) rfl ?_
  show Z E G (HM D (vset V 37 8 (nI 0)) P PH) sz 0 0 (8, [some (.ref (D.1 37)), some (.int (nI a))], [.int (nI 1)])
  refine Z_run C it_Mm_leaderOf 3 (f2 := (11, [some (.ref (D.1 37)), some (.int (nI a))], [.ref (D.1 37), .ref (D.1 37)])) rfl ?_
  refine Zm_get C it_Mm_leaderOf hD rfl 37 wi_Mm (by decide) rfl rfl (j := 8) (by decide) fl_Mm_29 (v := .int (nI 0)) rfl ?_
  refine Z_br C it_Mm_leaderOf rfl rfl (fun hc1 => absurd hc1 (by decide)) (fun hc1 => ?_)
  refine Z_run C it_Mm_leaderOf 2 (f2 := (19, [some (.ref (D.1 37)), some (.int (nI a))], [.int (nI a), .ref (D.1 37), .ref (D.1 37)])) rfl ?_
  refine Zr_callV C it_Mm_leaderOf hD rfl p_Mm_leader ml_Mm_108 37 (by decide) rfl rfl [.int (nI a)] (ct_Mm_leader_z C.ev C.l hD (vset V 37 8 (nI 0)) P _ F hF hz a (by first | assumption | omega) _) rfl rfl ⟨by decide, by decide, by decide, by decide⟩ (Nat.le_of_ble_eq_true rfl) rfl ?_
  show Z E G (HM D (vset V 37 8 (nI 0)) P PH) sz 0 0 (22, [some (.ref (D.1 37)), some (.int (nI a))], [.int (oI (lls (fun k => hld F k a && ldr (F k)) 36)), .ref (D.1 37)])
  refine Z_run C it_Mm_leaderOf 1 (f2 := (23, [some (.ref (D.1 37)), some (.int (nI a))], [.int ((-1)), .int (oI (lls (fun k => hld F k a && ldr (F k)) 36)), .ref (D.1 37)])) rfl ?_
  refine Z_br C it_Mm_leaderOf rfl rfl (fun hc2 => ?_) (fun hc2 => ?_)
  · exact absurd hc2 (by rw [hls]; exact nI_m1 (by have := lls_lt hls; omega))
  · skip
    refine Z_run C it_Mm_leaderOf 3 (f2 := (32, [some (.ref (D.1 37)), some (.int (nI a))], [.int (nI 2), .int (nI 1), .ref (D.1 37)])) rfl ?_
    refine Zr_callV C it_Mm_leaderOf hD rfl p_Mm_asksThen ml_Mm_97 37 (by decide) rfl rfl [.int (nI 1), .int (nI 2)] (ct_Mm_asksThen_t C.ev C.l hD (vset V 37 8 (nI 0)) P _ 2 rfl _) rfl rfl ⟨by decide, by decide, by decide, by decide⟩ (Nat.le_of_ble_eq_true rfl) rfl ?_
    show Z E G (HM D (vset (vset V 37 8 (nI 0)) 37 8 (nI 0)) P PH) sz 0 0 (35, [some (.ref (D.1 37)), some (.int (nI a))], [.int (nI 1)])
    refine Z_br C it_Mm_leaderOf rfl rfl (fun hc3 => absurd hc3 (by decide)) (fun hc3 => ?_)
    refine Z_run C it_Mm_leaderOf 2 (f2 := (40, [some (.ref (D.1 37)), some (.int (nI a))], [.int (nI a), .ref (D.1 37)])) rfl ?_
    refine Zr_callV C it_Mm_leaderOf hD rfl p_Mm_leader ml_Mm_108 37 (by decide) rfl rfl [.int (nI a)] (ct_Mm_leader_z C.ev C.l hD (vset (vset V 37 8 (nI 0)) 37 8 (nI 0)) P _ F hF hz a (by first | assumption | omega) _) rfl rfl ⟨by decide, by decide, by decide, by decide⟩ (Nat.le_of_ble_eq_true rfl) rfl ?_
    show Z E G (HM D (vset (vset V 37 8 (nI 0)) 37 8 (nI 0)) P PH) sz 0 0 (43, [some (.ref (D.1 37)), some (.int (nI a))], [.int (oI (lls (fun k => hld F k a && ldr (F k)) 36))])
    refine Z_run C it_Mm_leaderOf 1 (f2 := (47, [some (.ref (D.1 37)), some (.int (nI a))], [.int (oI (lls (fun k => hld F k a && ldr (F k)) 36))])) rfl ?_
    exact Z_iret C q.e it_Mm_leaderOf rfl (zRet_iH (by rw [hls]; rfl) (by first | rfl | (simp only [vset_2]))) (by decide) (by decide)
set_option maxRecDepth 20000 in
theorem ct_Mm_leaderOf_x2 {E : zE} (hE : zEv E) {l : Launch} (hl : l.stackTraces = false) {D : zD} (hD : zDok E D) (V : Nat → Nat → Int32) (P : Nat → Nat → Value) (PH : aH) (F : Nat → Nat) (hF : okF F) (hz : ∀ k, k < 36 → V 38 k = nI (mo (F k))) (a : Nat) (ha : a < 2) (hls : lls (fun k => hld F k a && ldr (F k)) 36 = none) (sz : Nat) : zM E l y_Mm_leaderOf [.code y_Mm_leaderOf c_Mm_leaderOf 2 (some .int)] rm_Mm_leaderOf [.ref (D.1 37), .int (nI a)] (HM D V P PH) sz (zRet (some (.int (nI 0))) (HM D (vset V 37 8 (nI 2)) P PH) sz) := by
  refine zM_of hE hl (by decide +kernel) [some (.ref (D.1 37)), some (.int (nI a))] ⟨rfl, rfl, Nat.le_of_ble_eq_true rfl⟩ ?_
  intro G C q htb
  refine Z_run C it_Mm_leaderOf 2 (f2 := (2, [some (.ref (D.1 37)), some (.int (nI a))], [.int (nI a), .ref (D.1 37)])) rfl ?_
  refine Zr_callS C it_Mm_leaderOf rfl p_Mm_isSide ml_Mm_91 [.int (nI a)] (ct_Mm_isSide_t C.ev C.l a (by omega) (HM D V P PH) _) rfl rfl ⟨by decide, by decide, by decide, by decide⟩ (Nat.le_of_ble_eq_true rfl) rfl ?_
  show Z E G (HM D V P PH) sz 0 0 (5, [some (.ref (D.1 37)), some (.int (nI a))], [.int (nI 1), .ref (D.1 37)])
  refine Zr_callV C it_Mm_leaderOf hD rfl p_Mm_asks ml_Mm_40 37 (by decide) rfl rfl [.int (nI 1)] (ct_Mm_asks_t C.ev C.l hD V P _ _) rfl rfl ⟨by decide, by decide, by decide, by decide⟩ (Nat.le_of_ble_eq_true rfl) rfl ?_
  show Z E G (HM D (vset V 37 8 (nI 0)) P PH) sz 0 0 (8, [some (.ref (D.1 37)), some (.int (nI a))], [.int (nI 1)])
  refine Z_run C it_Mm_leaderOf 3 (f2 := (11, [some (.ref (D.1 37)), some (.int (nI a))], [.ref (D.1 37), .ref (D.1 37)])) rfl ?_
  refine Zm_get C it_Mm_leaderOf hD rfl 37 wi_Mm (by decide) rfl rfl (j := 8) (by decide) fl_Mm_29 (v := .int (nI 0)) rfl ?_
  refine Z_br C it_Mm_leaderOf rfl rfl (fun hc1 => absurd hc1 (by decide)) (fun hc1 => ?_)
  refine Z_run C it_Mm_leaderOf 2 (f2 := (19, [some (.ref (D.1 37)), some (.int (nI a))], [.int (nI a), .ref (D.1 37), .ref (D.1 37)])) rfl ?_
  refine Zr_callV C it_Mm_leaderOf hD rfl p_Mm_leader ml_Mm_108 37 (by decide) rfl rfl [.int (nI a)] (ct_Mm_leader_z C.ev C.l hD (vset V 37 8 (nI 0)) P _ F hF hz a (by first | assumption | omega) _) rfl rfl ⟨by decide, by decide, by decide, by decide⟩ (Nat.le_of_ble_eq_true rfl) rfl ?_
  show Z E G (HM D (vset V 37 8 (nI 0)) P PH) sz 0 0 (22, [some (.ref (D.1 37)), some (.int (nI a))], [.int (oI (lls (fun k => hld F k a && ldr (F k)) 36)), .ref (D.1 37)])
  refine Z_run C it_Mm_leaderOf 1 (f2 := (23, [some (.ref (D.1 37)), some (.int (nI a))], [.int ((-1)), .int (oI (lls (fun k => hld F k a && ldr (F k)) 36)), .ref (D.1 37)])) rfl ?_
  refine Z_br C it_Mm_leaderOf rfl rfl (fun hc2 => ?_) (fun hc2 => ?_)
  · skip
    refine Z_run C it_Mm_leaderOf 2 (f2 := (32, [some (.ref (D.1 37)), some (.int (nI a))], [.int (nI 2), .int (nI 0), .ref (D.1 37)])) rfl ?_
    refine Zr_callV C it_Mm_leaderOf hD rfl p_Mm_asksThen ml_Mm_97 37 (by decide) rfl rfl [.int (nI 0), .int (nI 2)] (ct_Mm_asksThen_f C.ev C.l hD (vset V 37 8 (nI 0)) P _ 2 (by decide) (by decide) rfl _) rfl rfl ⟨by decide, by decide, by decide, by decide⟩ (Nat.le_of_ble_eq_true rfl) rfl ?_
    show Z E G (HM D (vset (vset V 37 8 (nI 0)) 37 8 (nI 2)) P PH) sz 0 0 (35, [some (.ref (D.1 37)), some (.int (nI a))], [.int (nI 0)])
    refine Z_br C it_Mm_leaderOf rfl rfl (fun hc3 => ?_) (fun hc3 => absurd (by decide) hc3)
    refine Z_run C it_Mm_leaderOf 1 (f2 := (47, [some (.ref (D.1 37)), some (.int (nI a))], [.int (nI 0)])) rfl ?_
    exact Z_iret C q.e it_Mm_leaderOf rfl (zRet_iH rfl (by first | rfl | (simp only [vset_2]))) (by decide) (by decide)
  · exact absurd (show oI (lls (fun k => hld F k a && ldr (F k)) 36) = -1 by rw [hls]; rfl) hc2
set_option maxRecDepth 20000 in
theorem ct_Mm_leaderOf_x1 {E : zE} (hE : zEv E) {l : Launch} (hl : l.stackTraces = false) {D : zD} (hD : zDok E D) (V : Nat → Nat → Int32) (P : Nat → Nat → Value) (PH : aH) (a : Nat) (h32 : a < 4294967296) (ha : 2 ≤ a) (sz : Nat) : zM E l y_Mm_leaderOf [.code y_Mm_leaderOf c_Mm_leaderOf 2 (some .int)] rm_Mm_leaderOf [.ref (D.1 37), .int (nI a)] (HM D V P PH) sz (zRet (some (.int (nI 0))) (HM D (vset V 37 8 (nI 1)) P PH) sz) := by
  refine zM_of hE hl (by decide +kernel) [some (.ref (D.1 37)), some (.int (nI a))] ⟨rfl, rfl, Nat.le_of_ble_eq_true rfl⟩ ?_
  intro G C q htb
  refine Z_run C it_Mm_leaderOf 2 (f2 := (2, [some (.ref (D.1 37)), some (.int (nI a))], [.int (nI a), .ref (D.1 37)])) rfl ?_
  refine Zr_callS C it_Mm_leaderOf rfl p_Mm_isSide ml_Mm_91 [.int (nI a)] (ct_Mm_isSide_f C.ev C.l a (by omega) (by omega) (HM D V P PH) _) rfl rfl ⟨by decide, by decide, by decide, by decide⟩ (Nat.le_of_ble_eq_true rfl) rfl ?_
  show Z E G (HM D V P PH) sz 0 0 (5, [some (.ref (D.1 37)), some (.int (nI a))], [.int (nI 0), .ref (D.1 37)])
  refine Zr_callV C it_Mm_leaderOf hD rfl p_Mm_asks ml_Mm_40 37 (by decide) rfl rfl [.int (nI 0)] (ct_Mm_asks_f C.ev C.l hD V P _ _) rfl rfl ⟨by decide, by decide, by decide, by decide⟩ (Nat.le_of_ble_eq_true rfl) rfl ?_
  show Z E G (HM D (vset V 37 8 (nI 1)) P PH) sz 0 0 (8, [some (.ref (D.1 37)), some (.int (nI a))], [.int (nI 0)])
  refine Z_run C it_Mm_leaderOf 3 (f2 := (11, [some (.ref (D.1 37)), some (.int (nI a))], [.ref (D.1 37), .ref (D.1 37)])) rfl ?_
  refine Zm_get C it_Mm_leaderOf hD rfl 37 wi_Mm (by decide) rfl rfl (j := 8) (by decide) fl_Mm_29 (v := .int (nI 1)) rfl ?_
  refine Z_br C it_Mm_leaderOf rfl rfl (fun hc1 => ?_) (fun hc1 => absurd (by decide) hc1)
  refine Z_run C it_Mm_leaderOf 3 (f2 := (32, [some (.ref (D.1 37)), some (.int (nI a))], [.int (nI 2), .int (nI 1), .ref (D.1 37)])) rfl ?_
  refine Zr_callV C it_Mm_leaderOf hD rfl p_Mm_asksThen ml_Mm_97 37 (by decide) rfl rfl [.int (nI 1), .int (nI 2)] (ct_Mm_asksThen_k C.ev C.l hD (vset V 37 8 (nI 1)) P _ 1 (by decide) (by decide) (nI 1) 2 rfl _) rfl rfl ⟨by decide, by decide, by decide, by decide⟩ (Nat.le_of_ble_eq_true rfl) rfl ?_
  show Z E G (HM D (vset (vset V 37 8 (nI 1)) 37 8 (nI 1)) P PH) sz 0 0 (35, [some (.ref (D.1 37)), some (.int (nI a))], [.int (nI 0)])
  refine Z_br C it_Mm_leaderOf rfl rfl (fun hc2 => ?_) (fun hc2 => absurd (by decide) hc2)
  refine Z_run C it_Mm_leaderOf 1 (f2 := (47, [some (.ref (D.1 37)), some (.int (nI a))], [.int (nI 0)])) rfl ?_
  exact Z_iret C q.e it_Mm_leaderOf rfl (zRet_iH rfl (by first | rfl | (simp only [vset_2]))) (by decide) (by decide)
set_option maxRecDepth 20000 in
theorem lp_Mm_knowing {E : zE} {G : zG} {O : zO} (C : zCx E G c_Mm_knowing 5 y_Mm_knowing.cls y_Mm_knowing.name (some .int) rm_Mm_knowing) (q : zEndX E G O rm_Mm_knowing.cells rm_Mm_knowing.slots)  {D : zD} (hD : zDok E D) {V : Nat → Nat → Int32} {P : Nat → Nat → Value} {PH : aH} {F : Nat → Nat} (hF : okF F) (hz : ∀ k, k < 36 → V 38 k = nI (mo (F k))) {a : Nat} (ha : a < 2) {b : Nat} (hb : b < 5) {sz : Nat} (hO : O (.inl (some (.int (nI (cnt (fun k => hld F k a && kn (stp (F k)) b) 36))))) (HM D V P PH) sz) : ∀ (j i : Nat), 36 - i < j → i ≤ 36 → Z E G (HM D V P PH) sz 0 0 (35, [some (.ref (D.1 37)), some (.int (nI a)), some (.int (nI b)), some (.int (nI (cnt (fun k => hld F k a && kn (stp (F k)) b) i))), some (.int (nI i))], []) := by
  intro j
  induction j with
  | zero =>
    intro i h1 h2
    omega
  | succ j ih =>
    intro i h1 h2
    have hst9 := fun k => stp_lt (F k)
    refine Z_run C it_Mm_knowing 2 (f2 := (39, [some (.ref (D.1 37)), some (.int (nI a)), some (.int (nI b)), some (.int (nI (cnt (fun k => hld F k a && kn (stp (F k)) b) i))), some (.int (nI i))], [.int (nI 36), .int (nI i)])) rfl ?_
    refine Z_br C it_Mm_knowing rfl rfl (fun hc1 => ?_) (fun hc1 => ?_)
    · replace hc1 := (nI_leI (a := 36) (b := i) (by omega) (by omega)).mp hc1
      refine Z_run C it_Mm_knowing 1 (f2 := (89, [some (.ref (D.1 37)), some (.int (nI a)), some (.int (nI b)), some (.int (nI (cnt (fun k => hld F k a && kn (stp (F k)) b) i))), some (.int (nI i))], [.int (nI (cnt (fun k => hld F k a && kn (stp (F k)) b) i))])) rfl ?_
      exact Z_iret C q.e it_Mm_knowing rfl ((show i = 36 by omega) ▸ hO) (by decide) (by decide)
    · replace hc1 : ¬ _ := fun z9 => hc1 ((nI_leI (a := 36) (b := i) (by omega) (by omega)).mpr z9)
      refine Z_run C it_Mm_knowing 2 (f2 := (44, [some (.ref (D.1 37)), some (.int (nI a)), some (.int (nI b)), some (.int (nI (cnt (fun k => hld F k a && kn (stp (F k)) b) i))), some (.int (nI i))], [.ref (D.1 37), .int (nI (cnt (fun k => hld F k a && kn (stp (F k)) b) i))])) rfl ?_
      refine Zm_get C it_Mm_knowing hD rfl 37 wi_Mm (by decide) rfl rfl (j := 0) (by decide) fl_Mm_7 (v := .ref (D.1 38)) rfl ?_
      refine Z_run C it_Mm_knowing 1 (f2 := (49, [some (.ref (D.1 37)), some (.int (nI a)), some (.int (nI b)), some (.int (nI (cnt (fun k => hld F k a && kn (stp (F k)) b) i))), some (.int (nI i))], [.int (nI i), .ref (D.1 38), .int (nI (cnt (fun k => hld F k a && kn (stp (F k)) b) i))])) rfl ?_
      refine Zm_ald C it_Mm_knowing hD 38 10 rfl (by decide) rfl (by decide) (by decide) rfl (j := i) (by omega) (v := .int (nI (mo (F i)))) (congrArg Value.int (hz i (by omega))) ?_
      refine Zr_callS C it_Mm_knowing rfl p_Mm_sideOf ml_Mm_58 [.int (nI (mo (F i)))] (ct_Mm_sideOf C.ev C.l (F i) (by first | assumption | omega | exact hF _ (by omega)) (HM D V P PH) _) rfl rfl ⟨by decide, by decide, by decide, by decide⟩ (Nat.le_of_ble_eq_true rfl) rfl ?_
      show Z E G (HM D V P PH) sz 0 0 (53, [some (.ref (D.1 37)), some (.int (nI a)), some (.int (nI b)), some (.int (nI (cnt (fun k => hld F k a && kn (stp (F k)) b) i))), some (.int (nI i))], [.int (oI (sdo (F i))), .int (nI (cnt (fun k => hld F k a && kn (stp (F k)) b) i))])
      refine Z_run C it_Mm_knowing 1 (f2 := (54, [some (.ref (D.1 37)), some (.int (nI a)), some (.int (nI b)), some (.int (nI (cnt (fun k => hld F k a && kn (stp (F k)) b) i))), some (.int (nI i))], [.int (nI a), .int (oI (sdo (F i))), .int (nI (cnt (fun k => hld F k a && kn (stp (F k)) b) i))])) rfl ?_
      refine Z_br C it_Mm_knowing rfl rfl (fun hc2 => ?_) (fun hc2 => ?_)
      · replace hc2 := (sdo_n (hF i (by omega)) ha).mp hc2
        refine Z_run C it_Mm_knowing 2 (f2 := (81, [some (.ref (D.1 37)), some (.int (nI a)), some (.int (nI b)), some (.int (nI (cnt (fun k => hld F k a && kn (stp (F k)) b) i))), some (.int (nI i))], [.int (nI (cnt (fun k => hld F k a && kn (stp (F k)) b) i) + nI 0)])) rfl ?_
        rw [nI_add (cnt (fun k => hld F k a && kn (stp (F k)) b) i) 0]
        refine Z_run C it_Mm_knowing 2 (f2 := (85, [some (.ref (D.1 37)), some (.int (nI a)), some (.int (nI b)), some (.int (nI (cnt (fun k => hld F k a && kn (stp (F k)) b) i + 0))), some (.int (nI i + nI 1))], [])) rfl ?_
        rw [nI_add i 1]
        refine Z_run C it_Mm_knowing 1 (f2 := (35, [some (.ref (D.1 37)), some (.int (nI a)), some (.int (nI b)), some (.int (nI (cnt (fun k => hld F k a && kn (stp (F k)) b) i + 0))), some (.int (nI (i + 1)))], [])) rfl ?_
        have e1 : nI (cnt (fun k => hld F k a && kn (stp (F k)) b) i + 0) = nI (cnt (fun k => hld F k a && kn (stp (F k)) b) (i + 1)) := by first | (simp [cnt, smp, hc2]; done) | (simp [cnt, smp, hc2, hc3]; done)
        refine (congrArg (fun z9 => Z E G (HM D V P PH) sz 0 0 (35, [some (.ref (D.1 37)), some (.int (nI a)), some (.int (nI b)), some (.int z9), some (.int (nI (i + 1)))], [])) e1).mpr ?_
        exact ih (i + 1) (by omega) (by omega)
      · replace hc2 := (sdo_hld (hF i (by omega)) ha).mp (Classical.not_not.mp hc2)
        refine Z_run C it_Mm_knowing 1 (f2 := (58, [some (.ref (D.1 37)), some (.int (nI a)), some (.int (nI b)), some (.int (nI (cnt (fun k => hld F k a && kn (stp (F k)) b) i))), some (.int (nI i))], [.ref (D.1 37), .int (nI (cnt (fun k => hld F k a && kn (stp (F k)) b) i))])) rfl ?_
        refine Zm_get C it_Mm_knowing hD rfl 37 wi_Mm (by decide) rfl rfl (j := 0) (by decide) fl_Mm_7 (v := .ref (D.1 38)) rfl ?_
        refine Z_run C it_Mm_knowing 1 (f2 := (63, [some (.ref (D.1 37)), some (.int (nI a)), some (.int (nI b)), some (.int (nI (cnt (fun k => hld F k a && kn (stp (F k)) b) i))), some (.int (nI i))], [.int (nI i), .ref (D.1 38), .int (nI (cnt (fun k => hld F k a && kn (stp (F k)) b) i))])) rfl ?_
        refine Zm_ald C it_Mm_knowing hD 38 10 rfl (by decide) rfl (by decide) (by decide) rfl (j := i) (by omega) (v := .int (nI (mo (F i)))) (congrArg Value.int (hz i (by omega))) ?_
        refine Zr_callS C it_Mm_knowing rfl p_Mm_stepsOf ml_Mm_48 [.int (nI (mo (F i)))] (ct_Mm_stepsOf C.ev C.l (F i) (by first | assumption | omega | exact hF _ (by omega)) (by first | assumption | omega | exact hld_ne (by assumption)) (HM D V P PH) _) rfl rfl ⟨by decide, by decide, by decide, by decide⟩ (Nat.le_of_ble_eq_true rfl) rfl ?_
        show Z E G (HM D V P PH) sz 0 0 (67, [some (.ref (D.1 37)), some (.int (nI a)), some (.int (nI b)), some (.int (nI (cnt (fun k => hld F k a && kn (stp (F k)) b) i))), some (.int (nI i))], [.int (nI (stp (F i))), .int (nI (cnt (fun k => hld F k a && kn (stp (F k)) b) i))])
        refine Z_run C it_Mm_knowing 5 (f2 := (72, [some (.ref (D.1 37)), some (.int (nI a)), some (.int (nI b)), some (.int (nI (cnt (fun k => hld F k a && kn (stp (F k)) b) i))), some (.int (nI i))], [.int (nI 1), .int ((nI (stp (F i)) >>> (nI b &&& 31)) &&& nI 1), .int (nI (cnt (fun k => hld F k a && kn (stp (F k)) b) i))])) rfl ?_
        refine Z_br C it_Mm_knowing rfl rfl (fun hc3 => ?_) (fun hc3 => ?_)
        · replace hc3 : kn (stp (F i)) b = false := by rw [← Bool.not_eq_true]; exact fun z9 => hc3 ((tb_kn1 _ (by have := hst9 i; omega) b hb).mpr z9)
          refine Z_run C it_Mm_knowing 2 (f2 := (81, [some (.ref (D.1 37)), some (.int (nI a)), some (.int (nI b)), some (.int (nI (cnt (fun k => hld F k a && kn (stp (F k)) b) i))), some (.int (nI i))], [.int (nI (cnt (fun k => hld F k a && kn (stp (F k)) b) i) + nI 0)])) rfl ?_
          rw [nI_add (cnt (fun k => hld F k a && kn (stp (F k)) b) i) 0]
          refine Z_run C it_Mm_knowing 2 (f2 := (85, [some (.ref (D.1 37)), some (.int (nI a)), some (.int (nI b)), some (.int (nI (cnt (fun k => hld F k a && kn (stp (F k)) b) i + 0))), some (.int (nI i + nI 1))], [])) rfl ?_
          rw [nI_add i 1]
          refine Z_run C it_Mm_knowing 1 (f2 := (35, [some (.ref (D.1 37)), some (.int (nI a)), some (.int (nI b)), some (.int (nI (cnt (fun k => hld F k a && kn (stp (F k)) b) i + 0))), some (.int (nI (i + 1)))], [])) rfl ?_
          have e2 : nI (cnt (fun k => hld F k a && kn (stp (F k)) b) i + 0) = nI (cnt (fun k => hld F k a && kn (stp (F k)) b) (i + 1)) := by first | (simp [cnt, smp, hc2]; done) | (simp [cnt, smp, hc2, hc3]; done)
          refine (congrArg (fun z9 => Z E G (HM D V P PH) sz 0 0 (35, [some (.ref (D.1 37)), some (.int (nI a)), some (.int (nI b)), some (.int z9), some (.int (nI (i + 1)))], [])) e2).mpr ?_
          exact ih (i + 1) (by omega) (by omega)
        · replace hc3 := (tb_kn1 _ (by have := hst9 i; omega) b hb).mp (Classical.not_not.mp hc3)
          refine Z_run C it_Mm_knowing 3 (f2 := (81, [some (.ref (D.1 37)), some (.int (nI a)), some (.int (nI b)), some (.int (nI (cnt (fun k => hld F k a && kn (stp (F k)) b) i))), some (.int (nI i))], [.int (nI (cnt (fun k => hld F k a && kn (stp (F k)) b) i) + nI 1)])) rfl ?_
          rw [nI_add (cnt (fun k => hld F k a && kn (stp (F k)) b) i) 1]
          refine Z_run C it_Mm_knowing 2 (f2 := (85, [some (.ref (D.1 37)), some (.int (nI a)), some (.int (nI b)), some (.int (nI (cnt (fun k => hld F k a && kn (stp (F k)) b) i + 1))), some (.int (nI i + nI 1))], [])) rfl ?_
          rw [nI_add i 1]
          refine Z_run C it_Mm_knowing 1 (f2 := (35, [some (.ref (D.1 37)), some (.int (nI a)), some (.int (nI b)), some (.int (nI (cnt (fun k => hld F k a && kn (stp (F k)) b) i + 1))), some (.int (nI (i + 1)))], [])) rfl ?_
          have e3 : nI (cnt (fun k => hld F k a && kn (stp (F k)) b) i + 1) = nI (cnt (fun k => hld F k a && kn (stp (F k)) b) (i + 1)) := by first | (simp [cnt, smp, hc2]; done) | (simp [cnt, smp, hc2, hc3]; done)
          refine (congrArg (fun z9 => Z E G (HM D V P PH) sz 0 0 (35, [some (.ref (D.1 37)), some (.int (nI a)), some (.int (nI b)), some (.int z9), some (.int (nI (i + 1)))], [])) e3).mpr ?_
          exact ih (i + 1) (by omega) (by omega)
set_option maxRecDepth 20000 in
theorem lp_Mm_guarded {E : zE} {G : zG} {O : zO} (C : zCx E G c_Mm_guarded 5 y_Mm_guarded.cls y_Mm_guarded.name (some .long) rm_Mm_guarded) (q : zEndX E G O rm_Mm_guarded.cells rm_Mm_guarded.slots)  {D : zD} (hD : zDok E D) {V : Nat → Nat → Int32} {P : Nat → Nat → Value} {PH : aH} {F : Nat → Nat} (hF : okF F) (hz : ∀ k, k < 36 → V 38 k = nI (mo (F k))) {a : Nat} (ha : a < 2) {sz : Nat} (hO : O (.inl (some (.long (lN (bm (fun k => decide (0 < cnt (fun j => hld F j a && gop F (stp (F j)) j k 5) 36)) 36))))) (HM D V P PH) sz) : ∀ (j i : Nat), 36 - i < j → i ≤ 36 → Z E G (HM D V P PH) sz 0 0 (18, [some (.ref (D.1 37)), some (.int (nI a)), some (.long (lN (bm (fun k => decide (0 < cnt (fun j => hld F j a && gop F (stp (F j)) j k 5) 36)) i))), none, some (.int (nI i))], []) := by
  intro j
  induction j with
  | zero =>
    intro i h1 h2
    omega
  | succ j ih =>
    intro i h1 h2
    have hc9 := cnt_le (b := fun j => hld F j a && gop F (stp (F j)) j i 5) (n := 36)
    refine Z_run C it_Mm_guarded 2 (f2 := (22, [some (.ref (D.1 37)), some (.int (nI a)), some (.long (lN (bm (fun k => decide (0 < cnt (fun j => hld F j a && gop F (stp (F j)) j k 5) 36)) i))), none, some (.int (nI i))], [.int (nI 36), .int (nI i)])) rfl ?_
    refine Z_br C it_Mm_guarded rfl rfl (fun hc1 => ?_) (fun hc1 => ?_)
    · replace hc1 := (nI_leI (a := 36) (b := i) (by omega) (by omega)).mp hc1
      refine Z_run C it_Mm_guarded 1 (f2 := (53, [some (.ref (D.1 37)), some (.int (nI a)), some (.long (lN (bm (fun k => decide (0 < cnt (fun j => hld F j a && gop F (stp (F j)) j k 5) 36)) i))), none, some (.int (nI i))], [.long (lN (bm (fun k => decide (0 < cnt (fun j => hld F j a && gop F (stp (F j)) j k 5) 36)) i))])) rfl ?_
      exact Z_lret C q.e it_Mm_guarded rfl ((show i = 36 by omega) ▸ hO) (by decide) (by decide)
    · replace hc1 : ¬ _ := fun z9 => hc1 ((nI_leI (a := 36) (b := i) (by omega) (by omega)).mpr z9)
      refine Z_run C it_Mm_guarded 4 (f2 := (30, [some (.ref (D.1 37)), some (.int (nI a)), some (.long (lN (bm (fun k => decide (0 < cnt (fun j => hld F j a && gop F (stp (F j)) j k 5) 36)) i))), none, some (.int (nI i))], [.int (nI i), .int (nI a), .ref (D.1 37), .long (lN (bm (fun k => decide (0 < cnt (fun j => hld F j a && gop F (stp (F j)) j k 5) 36)) i))])) rfl ?_
      refine Zr_callV C it_Mm_guarded hD rfl p_Mm_guarding ml_Mm_143 37 (by decide) rfl rfl [.int (nI a), .int (nI i)] (ct_Mm_guarding_z C.ev C.l hD V P _ F hF hz a (by first | assumption | omega) i (by first | assumption | omega) _) rfl rfl ⟨by decide, by decide, by decide, by decide⟩ (Nat.le_of_ble_eq_true rfl) rfl ?_
      show Z E G (HM D V P PH) sz 0 0 (33, [some (.ref (D.1 37)), some (.int (nI a)), some (.long (lN (bm (fun k => decide (0 < cnt (fun j => hld F j a && gop F (stp (F j)) j k 5) 36)) i))), none, some (.int (nI i))], [.int (nI (cnt (fun k => hld F k a && gop F (stp (F k)) k i 5) 36)), .long (lN (bm (fun k => decide (0 < cnt (fun j => hld F j a && gop F (stp (F j)) j k 5) 36)) i))])
      refine Z_br C it_Mm_guarded rfl rfl (fun hc2 => ?_) (fun hc2 => ?_)
      · replace hc2 : (cnt (fun k => hld F k a && gop F (stp (F k)) k i 5) 36) = 0 := (nI_le0 (a := cnt (fun k => hld F k a && gop F (stp (F k)) k i 5) 36) (by omega)).mp hc2
        refine Z_run C it_Mm_guarded 4 (f2 := (49, [some (.ref (D.1 37)), some (.int (nI a)), some (.long (lN (bm (fun k => decide (0 < cnt (fun j => hld F j a && gop F (stp (F j)) j k 5) 36)) i) ||| lN 0)), none, some (.int (nI i + nI 1))], [])) rfl ?_
        rw [nI_add i 1]
        refine Z_run C it_Mm_guarded 1 (f2 := (18, [some (.ref (D.1 37)), some (.int (nI a)), some (.long (lN (bm (fun k => decide (0 < cnt (fun j => hld F j a && gop F (stp (F j)) j k 5) 36)) i) ||| lN 0)), none, some (.int (nI (i + 1)))], [])) rfl ?_
        have e1 : lN (bm (fun k => decide (0 < cnt (fun j => hld F j a && gop F (stp (F j)) j k 5) 36)) i) ||| lN 0 = lN (bm (fun k => decide (0 < cnt (fun j => hld F j a && gop F (stp (F j)) j k 5) 36)) (i + 1)) := by rw [← bm_f (b := (fun k => decide (0 < cnt (fun j => hld F j a && gop F (stp (F j)) j k 5) 36))) (decide_eq_false (by omega))]; exact lN_or0 (by have := bm_lt (fun k => decide (0 < cnt (fun j => hld F j a && gop F (stp (F j)) j k 5) 36)) i; have h9 : 2 ^ i ≤ 2 ^ 36 := Nat.pow_le_pow_right (by decide) (by omega); omega)
        refine (congrArg (fun z9 => Z E G (HM D V P PH) sz 0 0 (18, [some (.ref (D.1 37)), some (.int (nI a)), some (.long z9), none, some (.int (nI (i + 1)))], [])) e1).mpr ?_
        exact ih (i + 1) (by omega) (by omega)
      · replace hc2 : ¬ (cnt (fun k => hld F k a && gop F (stp (F k)) k i 5) 36) = 0 := fun z9 => hc2 ((nI_le0 (a := cnt (fun k => hld F k a && gop F (stp (F k)) k i 5) 36) (by omega)).mpr z9)
        refine Z_run C it_Mm_guarded 7 (f2 := (49, [some (.ref (D.1 37)), some (.int (nI a)), some (.long (lN (bm (fun k => decide (0 < cnt (fun j => hld F j a && gop F (stp (F j)) j k 5) 36)) i) ||| (lN 1 <<< ((nI i).toInt64 &&& 63)))), none, some (.int (nI i + nI 1))], [])) rfl ?_
        rw [nI_add i 1]
        refine Z_run C it_Mm_guarded 1 (f2 := (18, [some (.ref (D.1 37)), some (.int (nI a)), some (.long (lN (bm (fun k => decide (0 < cnt (fun j => hld F j a && gop F (stp (F j)) j k 5) 36)) i) ||| (lN 1 <<< ((nI i).toInt64 &&& 63)))), none, some (.int (nI (i + 1)))], [])) rfl ?_
        have e2 : lN (bm (fun k => decide (0 < cnt (fun j => hld F j a && gop F (stp (F j)) j k 5) 36)) i) ||| (lN 1 <<< ((nI i).toInt64 &&& 63)) = lN (bm (fun k => decide (0 < cnt (fun j => hld F j a && gop F (stp (F j)) j k 5) 36)) (i + 1)) := bm_t (b := (fun k => decide (0 < cnt (fun j => hld F j a && gop F (stp (F j)) j k 5) 36))) (by omega) (decide_eq_true (by omega))
        refine (congrArg (fun z9 => Z E G (HM D V P PH) sz 0 0 (18, [some (.ref (D.1 37)), some (.int (nI a)), some (.long z9), none, some (.int (nI (i + 1)))], [])) e2).mpr ?_
        exact ih (i + 1) (by omega) (by omega)
set_option maxRecDepth 20000 in
theorem ct_Mm_whyNot {E : zE} (hE : zEv E) {l : Launch} (hl : l.stackTraces = false) {D : zD} (hD : zDok E D) (V : Nat → Nat → Int32) (P : Nat → Nat → Value) (PH : aH) (F : Nat → Nat) (hF : okF F) (hz : ∀ k, k < 36 → V 38 k = nI (mo (F k))) (st : Bool) (hst : V 38 36 = bI st) (ov : Bool) (hov : V 38 37 = bI ov) (tn : Nat) (htn : tn < 2) (htn9 : V 38 39 = nI tn) (a : Nat) (ha : a < 36) (b : Nat) (hb : b < 36) (sz : Nat) : zM E l y_Mm_whyNot [.code y_Mm_whyNot c_Mm_whyNot 3 (some .int)] rm_Mm_whyNot [.ref (D.1 37), .int (nI a), .int (nI b)] (HM D V P PH) sz (zRet (some (.int (nI (whm st ov F tn a b)))) (HM D (vset V 37 8 (nI 0)) P PH) sz) := by
  refine zM_of hE hl (by decide +kernel) [some (.ref (D.1 37)), some (.int (nI a)), some (.int (nI b))] ⟨rfl, rfl, Nat.le_of_ble_eq_true rfl⟩ ?_
  intro G C q htb
  refine Z_run C it_Mm_whyNot 2 (f2 := (2, [some (.ref (D.1 37)), some (.int (nI a)), some (.int (nI b))], [.int (nI a), .ref (D.1 37)])) rfl ?_
  refine Zr_callS C it_Mm_whyNot rfl p_Mm_isSquare ml_Mm_94 [.int (nI a)] (ct_Mm_isSquare_t C.ev C.l a (by omega) (HM D V P PH) _) rfl rfl ⟨by decide, by decide, by decide, by decide⟩ (Nat.le_of_ble_eq_true rfl) rfl ?_
  show Z E G (HM D V P PH) sz 0 0 (5, [some (.ref (D.1 37)), some (.int (nI a)), some (.int (nI b))], [.int (nI 1), .ref (D.1 37)])
  refine Z_br C it_Mm_whyNot rfl rfl (fun hc1 => absurd hc1 (by decide)) (fun hc1 => ?_)
  refine Z_run C it_Mm_whyNot 1 (f2 := (9, [some (.ref (D.1 37)), some (.int (nI a)), some (.int (nI b))], [.int (nI b), .ref (D.1 37)])) rfl ?_
  refine Zr_callS C it_Mm_whyNot rfl p_Mm_isSquare ml_Mm_94 [.int (nI b)] (ct_Mm_isSquare_t C.ev C.l b (by omega) (HM D V P PH) _) rfl rfl ⟨by decide, by decide, by decide, by decide⟩ (Nat.le_of_ble_eq_true rfl) rfl ?_
  show Z E G (HM D V P PH) sz 0 0 (12, [some (.ref (D.1 37)), some (.int (nI a)), some (.int (nI b))], [.int (nI 1), .ref (D.1 37)])
  refine Z_br C it_Mm_whyNot rfl rfl (fun hc2 => absurd hc2 (by decide)) (fun hc2 => ?_)
  refine Z_run C it_Mm_whyNot 2 (f2 := (20, [some (.ref (D.1 37)), some (.int (nI a)), some (.int (nI b))], [.int (nI 1), .ref (D.1 37)])) rfl ?_
  refine Zr_callV C it_Mm_whyNot hD rfl p_Mm_asks ml_Mm_40 37 (by decide) rfl rfl [.int (nI 1)] (ct_Mm_asks_t C.ev C.l hD V P _ _) rfl rfl ⟨by decide, by decide, by decide, by decide⟩ (Nat.le_of_ble_eq_true rfl) rfl ?_
  show Z E G (HM D (vset V 37 8 (nI 0)) P PH) sz 0 0 (23, [some (.ref (D.1 37)), some (.int (nI a)), some (.int (nI b))], [.int (nI 1)])
  refine Z_br C it_Mm_whyNot rfl rfl (fun hc3 => absurd hc3 (by decide)) (fun hc3 => ?_)
  refine Z_run C it_Mm_whyNot 3 (f2 := (29, [some (.ref (D.1 37)), some (.int (nI a)), some (.int (nI b))], [.int (nI b), .int (nI a), .ref (D.1 37)])) rfl ?_
  refine Zr_callV C it_Mm_whyNot hD rfl p_Mm_why ml_Mm_122 37 (by decide) rfl rfl [.int (nI a), .int (nI b)] (ct_Mm_why_z C.ev C.l hD (vset V 37 8 (nI 0)) P _ F hF hz st hst ov hov tn htn htn9 a (by omega) b (by omega) _) rfl rfl ⟨by decide, by decide, by decide, by decide⟩ (Nat.le_of_ble_eq_true rfl) rfl ?_
  show Z E G (HM D (vset V 37 8 (nI 0)) P PH) sz 0 0 (32, [some (.ref (D.1 37)), some (.int (nI a)), some (.int (nI b))], [.int (nI (whm st ov F tn a b))])
  refine Z_run C it_Mm_whyNot 1 (f2 := (36, [some (.ref (D.1 37)), some (.int (nI a)), some (.int (nI b))], [.int (nI (whm st ov F tn a b))])) rfl ?_
  exact Z_iret C q.e it_Mm_whyNot rfl (zRet_iH rfl (by first | rfl | (simp only [vset_2]))) (by decide) (by decide)
set_option maxRecDepth 20000 in
theorem ct_Mm_whyNot_x1 {E : zE} (hE : zEv E) {l : Launch} (hl : l.stackTraces = false) {D : zD} (hD : zDok E D) (V : Nat → Nat → Int32) (P : Nat → Nat → Value) (PH : aH) (a : Nat) (h32 : a < 4294967296) (ha : 36 ≤ a) (xb : Int32) (sz : Nat) : zM E l y_Mm_whyNot [.code y_Mm_whyNot c_Mm_whyNot 3 (some .int)] rm_Mm_whyNot [.ref (D.1 37), .int (nI a), .int xb] (HM D V P PH) sz (zRet (some (.int (nI 0))) (HM D (vset V 37 8 (nI 1)) P PH) sz) := by
  refine zM_of hE hl (by decide +kernel) [some (.ref (D.1 37)), some (.int (nI a)), some (.int xb)] ⟨rfl, rfl, Nat.le_of_ble_eq_true rfl⟩ ?_
  intro G C q htb
  refine Z_run C it_Mm_whyNot 2 (f2 := (2, [some (.ref (D.1 37)), some (.int (nI a)), some (.int xb)], [.int (nI a), .ref (D.1 37)])) rfl ?_
  refine Zr_callS C it_Mm_whyNot rfl p_Mm_isSquare ml_Mm_94 [.int (nI a)] (ct_Mm_isSquare_f C.ev C.l a (by omega) (by omega) (HM D V P PH) _) rfl rfl ⟨by decide, by decide, by decide, by decide⟩ (Nat.le_of_ble_eq_true rfl) rfl ?_
  show Z E G (HM D V P PH) sz 0 0 (5, [some (.ref (D.1 37)), some (.int (nI a)), some (.int xb)], [.int (nI 0), .ref (D.1 37)])
  refine Z_br C it_Mm_whyNot rfl rfl (fun hc1 => ?_) (fun hc1 => absurd (by decide) hc1)
  refine Z_run C it_Mm_whyNot 1 (f2 := (20, [some (.ref (D.1 37)), some (.int (nI a)), some (.int xb)], [.int (nI 0), .ref (D.1 37)])) rfl ?_
  refine Zr_callV C it_Mm_whyNot hD rfl p_Mm_asks ml_Mm_40 37 (by decide) rfl rfl [.int (nI 0)] (ct_Mm_asks_f C.ev C.l hD V P _ _) rfl rfl ⟨by decide, by decide, by decide, by decide⟩ (Nat.le_of_ble_eq_true rfl) rfl ?_
  show Z E G (HM D (vset V 37 8 (nI 1)) P PH) sz 0 0 (23, [some (.ref (D.1 37)), some (.int (nI a)), some (.int xb)], [.int (nI 0)])
  refine Z_br C it_Mm_whyNot rfl rfl (fun hc2 => ?_) (fun hc2 => absurd (by decide) hc2)
  refine Z_run C it_Mm_whyNot 1 (f2 := (36, [some (.ref (D.1 37)), some (.int (nI a)), some (.int xb)], [.int (nI 0)])) rfl ?_
  exact Z_iret C q.e it_Mm_whyNot rfl (zRet_iH rfl (by first | rfl | (simp only [vset_2]))) (by decide) (by decide)
set_option maxRecDepth 20000 in
theorem ct_Mm_whyNot_x2 {E : zE} (hE : zEv E) {l : Launch} (hl : l.stackTraces = false) {D : zD} (hD : zDok E D) (V : Nat → Nat → Int32) (P : Nat → Nat → Value) (PH : aH) (a : Nat) (ha : a < 36) (b : Nat) (h32 : b < 4294967296) (hb : 36 ≤ b) (sz : Nat) : zM E l y_Mm_whyNot [.code y_Mm_whyNot c_Mm_whyNot 3 (some .int)] rm_Mm_whyNot [.ref (D.1 37), .int (nI a), .int (nI b)] (HM D V P PH) sz (zRet (some (.int (nI 0))) (HM D (vset V 37 8 (nI 1)) P PH) sz) := by
  refine zM_of hE hl (by decide +kernel) [some (.ref (D.1 37)), some (.int (nI a)), some (.int (nI b))] ⟨rfl, rfl, Nat.le_of_ble_eq_true rfl⟩ ?_
  intro G C q htb
  refine Z_run C it_Mm_whyNot 2 (f2 := (2, [some (.ref (D.1 37)), some (.int (nI a)), some (.int (nI b))], [.int (nI a), .ref (D.1 37)])) rfl ?_
  refine Zr_callS C it_Mm_whyNot rfl p_Mm_isSquare ml_Mm_94 [.int (nI a)] (ct_Mm_isSquare_t C.ev C.l a (by omega) (HM D V P PH) _) rfl rfl ⟨by decide, by decide, by decide, by decide⟩ (Nat.le_of_ble_eq_true rfl) rfl ?_
  show Z E G (HM D V P PH) sz 0 0 (5, [some (.ref (D.1 37)), some (.int (nI a)), some (.int (nI b))], [.int (nI 1), .ref (D.1 37)])
  refine Z_br C it_Mm_whyNot rfl rfl (fun hc1 => absurd hc1 (by decide)) (fun hc1 => ?_)
  refine Z_run C it_Mm_whyNot 1 (f2 := (9, [some (.ref (D.1 37)), some (.int (nI a)), some (.int (nI b))], [.int (nI b), .ref (D.1 37)])) rfl ?_
  refine Zr_callS C it_Mm_whyNot rfl p_Mm_isSquare ml_Mm_94 [.int (nI b)] (ct_Mm_isSquare_f C.ev C.l b (by omega) (by omega) (HM D V P PH) _) rfl rfl ⟨by decide, by decide, by decide, by decide⟩ (Nat.le_of_ble_eq_true rfl) rfl ?_
  show Z E G (HM D V P PH) sz 0 0 (12, [some (.ref (D.1 37)), some (.int (nI a)), some (.int (nI b))], [.int (nI 0), .ref (D.1 37)])
  refine Z_br C it_Mm_whyNot rfl rfl (fun hc2 => ?_) (fun hc2 => absurd (by decide) hc2)
  refine Z_run C it_Mm_whyNot 1 (f2 := (20, [some (.ref (D.1 37)), some (.int (nI a)), some (.int (nI b))], [.int (nI 0), .ref (D.1 37)])) rfl ?_
  refine Zr_callV C it_Mm_whyNot hD rfl p_Mm_asks ml_Mm_40 37 (by decide) rfl rfl [.int (nI 0)] (ct_Mm_asks_f C.ev C.l hD V P _ _) rfl rfl ⟨by decide, by decide, by decide, by decide⟩ (Nat.le_of_ble_eq_true rfl) rfl ?_
  show Z E G (HM D (vset V 37 8 (nI 1)) P PH) sz 0 0 (23, [some (.ref (D.1 37)), some (.int (nI a)), some (.int (nI b))], [.int (nI 0)])
  refine Z_br C it_Mm_whyNot rfl rfl (fun hc3 => ?_) (fun hc3 => absurd (by decide) hc3)
  refine Z_run C it_Mm_whyNot 1 (f2 := (36, [some (.ref (D.1 37)), some (.int (nI a)), some (.int (nI b))], [.int (nI 0)])) rfl ?_
  exact Z_iret C q.e it_Mm_whyNot rfl (zRet_iH rfl (by first | rfl | (simp only [vset_2]))) (by decide) (by decide)
set_option maxRecDepth 20000 in
theorem ct_Mm_winner {E : zE} (hE : zEv E) {l : Launch} (hl : l.stackTraces = false) {D : zD} (hD : zDok E D) (V : Nat → Nat → Int32) (P : Nat → Nat → Value) (PH : aH) (F : Nat → Nat) (hF : okF F) (hz : ∀ k, k < 36 → V 38 k = nI (mo (F k))) (k : Nat) (hk : k < 2) (hw9 : V 38 38 = nI k) (sz : Nat) : zM E l y_Mm_winner [.code y_Mm_winner c_Mm_winner 1 (some .int)] rm_Mm_winner [.ref (D.1 37)] (HM D V P PH) sz (zRet (some (.int (nI k))) (HM D (vset V 37 8 (nI 0)) P PH) sz) := by
  refine zM_of hE hl (by decide +kernel) [some (.ref (D.1 37))] ⟨rfl, rfl, Nat.le_of_ble_eq_true rfl⟩ ?_
  intro G C q htb
  refine Z_run C it_Mm_winner 2 (f2 := (2, [some (.ref (D.1 37))], [.ref (D.1 37), .ref (D.1 37)])) rfl ?_
  refine Zm_get C it_Mm_winner hD rfl 37 wi_Mm (by decide) rfl rfl (j := 0) (by decide) fl_Mm_7 (v := .ref (D.1 38)) rfl ?_
  refine Z_run C it_Mm_winner 1 (f2 := (7, [some (.ref (D.1 37))], [.int (nI 38), .ref (D.1 38), .ref (D.1 37)])) rfl ?_
  refine Zm_ald C it_Mm_winner hD 38 10 rfl (by decide) rfl (by decide) (by decide) rfl (j := 38) (by omega) (v := .int (nI k)) (congrArg Value.int hw9) ?_
  refine Z_run C it_Mm_winner 1 (f2 := (9, [some (.ref (D.1 37))], [.int ((-1)), .int (nI k), .ref (D.1 37)])) rfl ?_
  refine Z_br C it_Mm_winner rfl rfl (fun hc1 => ?_) (fun hc1 => ?_)
  · exact absurd hc1 (nI_m1 (by omega))
  · skip
    refine Z_run C it_Mm_winner 2 (f2 := (17, [some (.ref (D.1 37))], [.int (nI 1), .ref (D.1 37)])) rfl ?_
    refine Zr_callV C it_Mm_winner hD rfl p_Mm_asks ml_Mm_40 37 (by decide) rfl rfl [.int (nI 1)] (ct_Mm_asks_t C.ev C.l hD V P _ _) rfl rfl ⟨by decide, by decide, by decide, by decide⟩ (Nat.le_of_ble_eq_true rfl) rfl ?_
    show Z E G (HM D (vset V 37 8 (nI 0)) P PH) sz 0 0 (20, [some (.ref (D.1 37))], [.int (nI 1)])
    refine Z_br C it_Mm_winner rfl rfl (fun hc2 => absurd hc2 (by decide)) (fun hc2 => ?_)
    refine Z_run C it_Mm_winner 1 (f2 := (24, [some (.ref (D.1 37))], [.ref (D.1 37)])) rfl ?_
    refine Zm_get C it_Mm_winner hD rfl 37 wi_Mm (by decide) rfl rfl (j := 0) (by decide) fl_Mm_7 (v := .ref (D.1 38)) rfl ?_
    refine Z_run C it_Mm_winner 1 (f2 := (29, [some (.ref (D.1 37))], [.int (nI 38), .ref (D.1 38)])) rfl ?_
    refine Zm_ald C it_Mm_winner hD 38 10 rfl (by decide) rfl (by decide) (by decide) rfl (j := 38) (by omega) (v := .int (nI k)) (congrArg Value.int hw9) ?_
    refine Z_run C it_Mm_winner 1 (f2 := (34, [some (.ref (D.1 37))], [.int (nI k)])) rfl ?_
    exact Z_iret C q.e it_Mm_winner rfl (zRet_iH rfl (by first | rfl | (simp only [vset_2]))) (by decide) (by decide)
set_option maxRecDepth 20000 in
theorem ct_Mm_winner_x {E : zE} (hE : zEv E) {l : Launch} (hl : l.stackTraces = false) {D : zD} (hD : zDok E D) (V : Nat → Nat → Int32) (P : Nat → Nat → Value) (PH : aH) (F : Nat → Nat) (hF : okF F) (hz : ∀ k, k < 36 → V 38 k = nI (mo (F k))) (hw9 : V 38 38 = -1) (sz : Nat) : zM E l y_Mm_winner [.code y_Mm_winner c_Mm_winner 1 (some .int)] rm_Mm_winner [.ref (D.1 37)] (HM D V P PH) sz (zRet (some (.int (nI 0))) (HM D (vset V 37 8 (nI 1)) P PH) sz) := by
  refine zM_of hE hl (by decide +kernel) [some (.ref (D.1 37))] ⟨rfl, rfl, Nat.le_of_ble_eq_true rfl⟩ ?_
  intro G C q htb
  refine Z_run C it_Mm_winner 2 (f2 := (2, [some (.ref (D.1 37))], [.ref (D.1 37), .ref (D.1 37)])) rfl ?_
  refine Zm_get C it_Mm_winner hD rfl 37 wi_Mm (by decide) rfl rfl (j := 0) (by decide) fl_Mm_7 (v := .ref (D.1 38)) rfl ?_
  refine Z_run C it_Mm_winner 1 (f2 := (7, [some (.ref (D.1 37))], [.int (nI 38), .ref (D.1 38), .ref (D.1 37)])) rfl ?_
  refine Zm_ald C it_Mm_winner hD 38 10 rfl (by decide) rfl (by decide) (by decide) rfl (j := 38) (by omega) (v := .int ((-1))) (congrArg Value.int hw9) ?_
  refine Z_run C it_Mm_winner 1 (f2 := (9, [some (.ref (D.1 37))], [.int ((-1)), .int ((-1)), .ref (D.1 37)])) rfl ?_
  refine Z_br C it_Mm_winner rfl rfl (fun hc1 => ?_) (fun hc1 => absurd (by decide) hc1)
  refine Z_run C it_Mm_winner 1 (f2 := (17, [some (.ref (D.1 37))], [.int (nI 0), .ref (D.1 37)])) rfl ?_
  refine Zr_callV C it_Mm_winner hD rfl p_Mm_asks ml_Mm_40 37 (by decide) rfl rfl [.int (nI 0)] (ct_Mm_asks_f C.ev C.l hD V P _ _) rfl rfl ⟨by decide, by decide, by decide, by decide⟩ (Nat.le_of_ble_eq_true rfl) rfl ?_
  show Z E G (HM D (vset V 37 8 (nI 1)) P PH) sz 0 0 (20, [some (.ref (D.1 37))], [.int (nI 0)])
  refine Z_br C it_Mm_winner rfl rfl (fun hc2 => ?_) (fun hc2 => absurd (by decide) hc2)
  refine Z_run C it_Mm_winner 1 (f2 := (34, [some (.ref (D.1 37))], [.int (nI 0)])) rfl ?_
  exact Z_iret C q.e it_Mm_winner rfl (zRet_iH rfl (by first | rfl | (simp only [vset_2]))) (by decide) (by decide)
set_option maxRecDepth 20000 in
theorem ct_Mm_isOver {E : zE} (hE : zEv E) {l : Launch} (hl : l.stackTraces = false) {D : zD} (hD : zDok E D) (V : Nat → Nat → Int32) (P : Nat → Nat → Value) (PH : aH) (F : Nat → Nat) (hF : okF F) (hz : ∀ k, k < 36 → V 38 k = nI (mo (F k))) (ov : Bool) (hov : V 38 37 = bI ov) (sz : Nat) : zM E l y_Mm_isOver [.code y_Mm_isOver c_Mm_isOver 1 (some .boolean)] rm_Mm_isOver [.ref (D.1 37)] (HM D V P PH) sz (zRet (some (.int (bI ov))) (HM D (vset V 37 8 (nI 0)) P PH) sz) := by
  refine zM_of hE hl (by decide +kernel) [some (.ref (D.1 37))] ⟨rfl, rfl, Nat.le_of_ble_eq_true rfl⟩ ?_
  intro G C q htb
  refine Z_run C it_Mm_isOver 2 (f2 := (2, [some (.ref (D.1 37))], [.int (nI 0), .ref (D.1 37)])) rfl ?_
  refine Zm_put C it_Mm_isOver hD rfl 37 wi_Mm t_Mm t_Mm_ok n_Mm (by first | decide | omega) rfl rfl (j := 8) (by decide) fl_Mm_29 rfl rfl rfl rfl ?_
  refine Z_run C it_Mm_isOver 1 (f2 := (6, [some (.ref (D.1 37))], [.ref (D.1 37)])) rfl ?_
  refine Zm_get C it_Mm_isOver hD rfl 37 wi_Mm (by decide) rfl rfl (j := 0) (by decide) fl_Mm_7 (v := .ref (D.1 38)) rfl ?_
  refine Z_run C it_Mm_isOver 1 (f2 := (11, [some (.ref (D.1 37))], [.int (nI 37), .ref (D.1 38)])) rfl ?_
  refine Zm_ald C it_Mm_isOver hD 38 10 rfl (by decide) rfl (by decide) (by decide) rfl (j := 37) (by omega) (v := .int (bI ov)) (congrArg Value.int hov) ?_
  refine Z_run C it_Mm_isOver 1 (f2 := (13, [some (.ref (D.1 37))], [.int (nI 1), .int (bI ov)])) rfl ?_
  refine Z_br C it_Mm_isOver rfl rfl (fun hc1 => ?_) (fun hc1 => ?_)
  · replace hc1 : ov = false := by rw [← Bool.not_eq_true]; exact fun z9 => hc1 (bI_eq1.mpr z9)
    refine Z_run C it_Mm_isOver 1 (f2 := (21, [some (.ref (D.1 37))], [.int (nI 0)])) rfl ?_
    exact Z_zret C q.e it_Mm_isOver rfl (Or.inl rfl) (zRet_iH (bI_f hc1) (by first | rfl | (simp only [vset_2]))) (by decide) (by decide)
  · replace hc1 := bI_eq1.mp (Classical.not_not.mp hc1)
    refine Z_run C it_Mm_isOver 2 (f2 := (21, [some (.ref (D.1 37))], [.int (nI 1)])) rfl ?_
    exact Z_zret C q.e it_Mm_isOver rfl (Or.inr rfl) (zRet_iH (bI_t hc1) (by first | rfl | (simp only [vset_2]))) (by decide) (by decide)
