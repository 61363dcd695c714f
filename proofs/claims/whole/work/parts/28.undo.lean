/-! ===== BrackenGambit: the text, undo ===== -/
theorem pop_H {D : zD} {V : Nat → Nat → Int32} {P : Nat → Nat → Value} {h : List zGm} {gs : Nat → Nat} {y : zGm} (hH : atH D V P h gs) (hne : h.length ≠ 0) (hl : h[h.length - 1]? = some y) : atH D (rsV V gs h.length) (rsP P gs h.length) h.dropLast gs ∧ atG (rsV V gs h.length) (rsP P gs h.length) 1 y ∧ (∀ c, 33 ≤ c → rsV V gs h.length c = V c) ∧ (∀ c, 33 ≤ c → rsP P gs h.length c = P c) := by
  obtain ⟨h1, h2, h3, h4, h5, h6⟩ := hH
  have q := h1 (h.length - 1) (by omega)
  have q2 := h2 (h.length - 1) (by omega)
  have q8 := q.2.2
  have hy := h6 _ y hl
  have r := gcx_r (V := vset V 6 1 (nI (h.length - 1))) (g := 1) (u := gs (h.length - 1)) (Or.inl (by omega))
  have eV : rsV V gs h.length = gcx (vset V 6 1 (nI (h.length - 1))) 1 (gs (h.length - 1)) := by unfold rsV; rw [if_neg hne]
  have eP : rsP P gs h.length = pset P 1 7 (P (gs (h.length - 1)) 7) := by unfold rsP; rw [if_neg hne]
  rw [eV, eP]
  refine ⟨⟨fun k hk => ⟨?_, (h1 k hk).2⟩, h2, h3, ?_, ?_, ?_⟩, ⟨?_, ?_, ?_, ?_, ?_⟩, ?_, ?_⟩
  · rw [pset_n (by omega)]
    exact (h1 k hk).1
  · rw [gcx_n (by omega) (by omega) (by omega) (by omega), vset_s, List.length_dropLast]
    simp [upd]
  · rw [List.length_dropLast]
    omega
  · intro i z hz
    have hi : i < h.length - 1 := by
      have := (List.getElem?_eq_some_iff.mp hz).1
      rw [List.length_dropLast] at this
      exact this
    have hz2 : h[i]? = some z := by
      rw [List.getElem?_dropLast, if_pos hi] at hz
      exact hz
    have q3 := (h1 i (by omega)).2.2
    refine atG_fr (h6 i z hz2) ?_ ?_ ?_ ?_ ?_
    · rw [gcx_n (by omega) (by omega) (by omega) (by omega), vset_n (by omega)]
    · rw [gcx_n (by omega) (by omega) (by omega) (by omega), vset_n (by omega)]
    · rw [gcx_n (by omega) (by omega) (by omega) (by omega), vset_n (by omega)]
    · rw [gcx_n (by omega) (by omega) (by omega) (by omega), vset_n (by omega)]
    · rw [pset_n (by omega)]
  · rw [r.1, vset_n (by omega)]; exact hy.1
  · rw [r.2.1, vset_n (by omega)]; exact hy.2.1
  · rw [r.2.2.1, vset_n (by omega)]; exact hy.2.2.1
  · rw [r.2.2.2, vset_n (by omega)]; exact hy.2.2.2.1
  · rw [pset_s]
    show (updV (P 1) 7 (P (gs (h.length - 1)) 7)) 7 = _
    simp [updV]
    exact hy.2.2.2.2
  · intro c hc
    rw [gcx_n (by omega) (by omega) (by omega) (by omega), vset_n (by omega)]
  · intro c hc
    rw [pset_n (by omega)]
set_option maxRecDepth 20000 in
theorem ct_Xx_append {E : zE} (hE : zEv E) {l : Launch} (hl : l.stackTraces = false) {D : zD} (hD : zDok E D) (V : Nat → Nat → Int32) (P : Nat → Nat → Value) (PH : aH) (n : Nat) (hn : V 33 1 = nI n) (hn6 : n ≤ 60) (c : Nat) (hc : c < 65536) (hlt : n < 60) (sz : Nat) : zM E l y_Xx_append [.code y_Xx_append c_Xx_append 2 (some .int)] rm_Xx_append [.ref (D.1 0), .int (nI c)] (HM D V P PH) sz (zRet (some (.int (nI (n + 1)))) (HM D (vset (vset V 34 n (nI c)) 33 1 (nI (n + 1))) P PH) sz) := by
  refine zM_of hE hl (by decide +kernel) [some (.ref (D.1 0)), some (.int (nI c))] ⟨rfl, rfl, Nat.le_of_ble_eq_true rfl⟩ ?_
  intro G C q htb
  refine Z_run C it_Xx_append 1 (f2 := (1, [some (.ref (D.1 0)), some (.int (nI c))], [.ref (D.1 0)])) rfl ?_
  refine Zm_get C it_Xx_append hD rfl 0 wi_Xx (by decide) rfl rfl (j := 2) (by decide) fl_Xx_26 (v := .ref (D.1 33)) rfl ?_
  refine Zr_callV C it_Xx_append hD rfl p_Tx_isFull ml_Xx_106 33 (by decide) rfl rfl [] (ct_Tx_isFull C.ev C.l hD _ _ _ n hn hn6 _) rfl rfl ⟨by decide, by decide, by decide, by decide⟩ (Nat.le_of_ble_eq_true rfl) rfl ?_
  show Z E G (HM D V P PH) sz 0 0 (7, [some (.ref (D.1 0)), some (.int (nI c))], [.int (bI (decide (60 ≤ n)))])
  refine Z_br C it_Xx_append rfl rfl (fun hc1 => ?_) (fun hc1 => ?_)
  · skip
    refine Z_run C it_Xx_append 1 (f2 := (21, [some (.ref (D.1 0)), some (.int (nI c))], [.ref (D.1 0)])) rfl ?_
    refine Zm_get C it_Xx_append hD rfl 0 wi_Xx (by decide) rfl rfl (j := 2) (by decide) fl_Xx_26 (v := .ref (D.1 33)) rfl ?_
    refine Z_run C it_Xx_append 1 (f2 := (25, [some (.ref (D.1 0)), some (.int (nI c))], [.int (nI c), .ref (D.1 33)])) rfl ?_
    refine Zr_callV C it_Xx_append hD rfl p_Tx_add ml_Xx_111 33 (by decide) rfl rfl [.int (nI c)] (ct_Tx_add C.ev C.l hD _ _ _ n hn hn6 c hc _) rfl rfl ⟨by decide, by decide, by decide, by decide⟩ (Nat.le_of_ble_eq_true rfl) rfl ?_
    show Z E G (HM D (if n < 60 then vset (vset V 34 n (nI c)) 33 1 (nI (n + 1)) else V) P PH) sz 0 0 (28, [some (.ref (D.1 0)), some (.int (nI c))], [.int (nI (if n < 60 then n + 1 else n))])
    exact Z_iret C q.e it_Xx_append rfl (zRet_iH (by rw [if_pos hlt]) (by rw [if_pos hlt])) (by decide) (by decide)
  · exact absurd (of_decide_eq_true (bI_1.mp hc1)) (by omega)
set_option maxRecDepth 20000 in
theorem ct_Xx_append_x {E : zE} (hE : zEv E) {l : Launch} (hl : l.stackTraces = false) {D : zD} (hD : zDok E D) (V : Nat → Nat → Int32) (P : Nat → Nat → Value) (PH : aH) (n : Nat) (hn : V 33 1 = nI n) (hn6 : n ≤ 60) (xc : Int32) (hge : 60 ≤ n) (sz : Nat) : zM E l y_Xx_append [.code y_Xx_append c_Xx_append 2 (some .int)] rm_Xx_append [.ref (D.1 0), .int xc] (HM D V P PH) sz (zThr X_ISE (HM D V P PH) sz) := by
  refine zM_of hE hl (by decide +kernel) [some (.ref (D.1 0)), some (.int xc)] ⟨rfl, rfl, Nat.le_of_ble_eq_true rfl⟩ ?_
  intro G C q htb
  refine Z_run C it_Xx_append 1 (f2 := (1, [some (.ref (D.1 0)), some (.int xc)], [.ref (D.1 0)])) rfl ?_
  refine Zm_get C it_Xx_append hD rfl 0 wi_Xx (by decide) rfl rfl (j := 2) (by decide) fl_Xx_26 (v := .ref (D.1 33)) rfl ?_
  refine Zr_callV C it_Xx_append hD rfl p_Tx_isFull ml_Xx_106 33 (by decide) rfl rfl [] (ct_Tx_isFull C.ev C.l hD _ _ _ n hn hn6 _) rfl rfl ⟨by decide, by decide, by decide, by decide⟩ (Nat.le_of_ble_eq_true rfl) rfl ?_
  show Z E G (HM D V P PH) sz 0 0 (7, [some (.ref (D.1 0)), some (.int xc)], [.int (bI (decide (60 ≤ n)))])
  refine Z_br C it_Xx_append rfl rfl (fun hc1 => ?_) (fun hc1 => ?_)
  · exact absurd (bI_0.mp hc1) (by rw [show decide (60 ≤ n) = true from decide_eq_true hge]; decide)
  · skip
    exact Z_throw C q htb it_Xx_append tw_Xx_109 rfl rfl rfl rfl rfl rfl ⟨by decide, Nat.le_of_ble_eq_true rfl, by decide, by decide⟩ (⟨rfl, rfl, rfl⟩) (by decide) (by decide)
set_option maxRecDepth 20000 in
theorem ct_Xx_clearText {E : zE} (hE : zEv E) {l : Launch} (hl : l.stackTraces = false) {D : zD} (hD : zDok E D) (V : Nat → Nat → Int32) (P : Nat → Nat → Value) (PH : aH) (n : Nat) (hn : V 33 1 = nI n) (hn6 : n ≤ 60) (sz : Nat) : zM E l y_Xx_clearText [.code y_Xx_clearText c_Xx_clearText 1 (some .int)] rm_Xx_clearText [.ref (D.1 0)] (HM D V P PH) sz (zRet (some (.int (nI n))) (HM D (vset V 33 1 (nI 0)) P PH) sz) := by
  refine zM_of hE hl (by decide +kernel) [some (.ref (D.1 0))] ⟨rfl, rfl, Nat.le_of_ble_eq_true rfl⟩ ?_
  intro G C q htb
  refine Z_run C it_Xx_clearText 1 (f2 := (1, [some (.ref (D.1 0))], [.ref (D.1 0)])) rfl ?_
  refine Zm_get C it_Xx_clearText hD rfl 0 wi_Xx (by decide) rfl rfl (j := 2) (by decide) fl_Xx_26 (v := .ref (D.1 33)) rfl ?_
  refine Zr_callV C it_Xx_clearText hD rfl p_Tx_empty ml_Xx_115 33 (by decide) rfl rfl [] (ct_Tx_empty C.ev C.l hD _ _ _ n hn hn6 _) rfl rfl ⟨by decide, by decide, by decide, by decide⟩ (Nat.le_of_ble_eq_true rfl) rfl ?_
  show Z E G (HM D (vset V 33 1 (nI 0)) P PH) sz 0 0 (7, [some (.ref (D.1 0))], [.int (nI n)])
  exact Z_iret C q.e it_Xx_clearText rfl (zRet_iH rfl rfl) (by decide) (by decide)
set_option maxRecDepth 20000 in
theorem ct_Xx_undo {E : zE} (hE : zEv E) {l : Launch} (hl : l.stackTraces = false) {D : zD} (hD : zDok E D) (V : Nat → Nat → Int32) (P : Nat → Nat → Value) (PH : aH) (gs : Nat → Nat) (hgs : isH D P gs) (n : Nat) (hn : V 6 1 = nI n) (h5n : n ≤ 5) (h5 : n ≠ 0 → V (gs (n - 1)) 5 = 0 ∨ V (gs (n - 1)) 5 = 1) (h7 : n ≠ 0 → P (gs (n - 1)) 7 = .null ∨ ∃ q, P (gs (n - 1)) 7 = .ref q) (h1n : n ≠ 0) (h61 : rsV V gs n 6 1 = nI (n - 1)) (sz : Nat) : zM E l y_Xx_undo [.code y_Xx_undo c_Xx_undo 1 (some .int)] rm_Xx_undo [.ref (D.1 0)] (HM D V P PH) sz (zRet (some (.int (nI (n - 1)))) (HM D (rsV V gs n) (rsP P gs n) PH) sz) := by
  refine zM_of hE hl (by decide +kernel) [some (.ref (D.1 0))] ⟨rfl, rfl, Nat.le_of_ble_eq_true rfl⟩ ?_
  intro G C q htb
  refine Z_run C it_Xx_undo 1 (f2 := (1, [some (.ref (D.1 0))], [.ref (D.1 0)])) rfl ?_
  refine Zm_get C it_Xx_undo hD rfl 0 wi_Xx (by decide) rfl rfl (j := 1) (by decide) fl_Xx_19 (v := .ref (D.1 6)) rfl ?_
  refine Zm_get C it_Xx_undo hD rfl 6 wi_Hs (by decide) rfl rfl (j := 1) (by decide) fl_Xx_123 (v := .int (nI n)) (congrArg Value.int hn) ?_
  refine Z_br C it_Xx_undo rfl rfl (fun hc1 => ?_) (fun hc1 => ?_)
  · skip
    refine Z_run C it_Xx_undo 1 (f2 := (21, [some (.ref (D.1 0))], [.ref (D.1 0)])) rfl ?_
    refine Zm_get C it_Xx_undo hD rfl 0 wi_Xx (by decide) rfl rfl (j := 1) (by decide) fl_Xx_19 (v := .ref (D.1 6)) rfl ?_
    refine Z_run C it_Xx_undo 1 (f2 := (25, [some (.ref (D.1 0))], [.ref (D.1 0), .ref (D.1 6)])) rfl ?_
    refine Zm_get C it_Xx_undo hD rfl 0 wi_Xx (by decide) rfl rfl (j := 0) (by decide) fl_Xx_10 (v := .ref (D.1 1)) rfl ?_
    refine Zr_callV C it_Xx_undo hD rfl p_Hs_restore ml_Xx_129 6 (by decide) rfl rfl [.ref (D.1 1)] (ct_Hs_restore C.ev C.l hD _ _ _ gs hgs n hn h5n h5 h7 _) rfl rfl ⟨by decide, by decide, by decide, by decide⟩ (Nat.le_of_ble_eq_true rfl) rfl ?_
    show Z E G (HM D (rsV V gs n) (rsP P gs n) PH) sz 0 0 (31, [some (.ref (D.1 0))], [])
    refine Z_run C it_Xx_undo 1 (f2 := (32, [some (.ref (D.1 0))], [.ref (D.1 0)])) rfl ?_
    refine Zm_get C it_Xx_undo hD rfl 0 wi_Xx (by decide) rfl rfl (j := 1) (by decide) fl_Xx_19 (v := .ref (D.1 6)) rfl ?_
    refine Zm_get C it_Xx_undo hD rfl 6 wi_Hs (by decide) rfl rfl (j := 1) (by decide) fl_Xx_123 (v := .int (nI (n - 1))) (congrArg Value.int h61) ?_
    exact Z_iret C q.e it_Xx_undo rfl (zRet_iH rfl rfl) (by decide) (by decide)
  · exact absurd ((nI_e0 (a := n) (by omega)).mp (Classical.not_not.mp hc1)) h1n
set_option maxRecDepth 20000 in
theorem ct_Xx_undo_x {E : zE} (hE : zEv E) {l : Launch} (hl : l.stackTraces = false) {D : zD} (hD : zDok E D) (V : Nat → Nat → Int32) (P : Nat → Nat → Value) (PH : aH) (hn : V 6 1 = nI 0) (sz : Nat) : zM E l y_Xx_undo [.code y_Xx_undo c_Xx_undo 1 (some .int)] rm_Xx_undo [.ref (D.1 0)] (HM D V P PH) sz (zThr X_ISE (HM D V P PH) sz) := by
  refine zM_of hE hl (by decide +kernel) [some (.ref (D.1 0))] ⟨rfl, rfl, Nat.le_of_ble_eq_true rfl⟩ ?_
  intro G C q htb
  refine Z_run C it_Xx_undo 1 (f2 := (1, [some (.ref (D.1 0))], [.ref (D.1 0)])) rfl ?_
  refine Zm_get C it_Xx_undo hD rfl 0 wi_Xx (by decide) rfl rfl (j := 1) (by decide) fl_Xx_19 (v := .ref (D.1 6)) rfl ?_
  refine Zm_get C it_Xx_undo hD rfl 6 wi_Hs (by decide) rfl rfl (j := 1) (by decide) fl_Xx_123 (v := .int (nI 0)) (congrArg Value.int hn) ?_
  refine Z_br C it_Xx_undo rfl rfl (fun hc1 => ?_) (fun hc1 => ?_)
  · exact absurd rfl hc1
  · skip
    exact Z_throw C q htb it_Xx_undo tw_Xx_127 rfl rfl rfl rfl rfl rfl ⟨by decide, Nat.le_of_ble_eq_true rfl, by decide, by decide⟩ (⟨rfl, rfl, rfl⟩) (by decide) (by decide)
