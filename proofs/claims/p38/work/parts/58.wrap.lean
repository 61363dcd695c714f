/-! ===== the law's wrappers ===== -/
theorem zM_mono {E : zE} {l : Launch} {y : MethodName} {ws : List Cond} {rm : Room} {av : List Value} {h : aH} {sz : Nat} {O O2 : zO} (hM : zM E l y ws rm av h sz O) (hO : ∀ o h2 s2, O o h2 s2 → O2 o h2 s2) : zM E l y ws rm av h sz O2 := by
  unfold zM vx_Met at *
  refine MetFree.mono hM (fun _ _ q => q) (fun _ _ _ _ _ q => q) ?_
  rintro a st o t - (⟨⟨v, h2, s2, e1, e2, e3⟩, hL⟩ | ⟨q, e, X, ce, L, ⟨h2, s2, g1, g2⟩, g3⟩)
  · exact Or.inl ⟨⟨v, h2, s2, e1, hO _ _ _ e2, e3⟩, hL⟩
  · exact Or.inr ⟨q, e, X, ce, L, ⟨h2, s2, hO _ _ _ g1, g2⟩, g3⟩
/-- what was called answered, or threw X: then r -/
def zWp (O : zO) (X : String) (r : Int32) : zO := fun o h2 sz2 => (∃ v, O (.inl v) h2 sz2 ∧ o = .inl v) ∨ (O (.inr X) h2 sz2 ∧ o = .inl (some (.int r)))
def okI (O : zO) : Prop := ∀ v h2 s2, O (.inl v) h2 s2 → ∃ x : Int32, v = some (.int x)
def okX (O : zO) (X : String) : Prop := ∀ Y h2 s2, O (.inr Y) h2 s2 → Y = X
theorem okI_ret {x : Int32} {h : aH} {s : Nat} : okI (zRet (some (.int x)) h s) := fun v h2 s2 q => ⟨x, q.1 |> fun e => by cases e; rfl⟩
theorem okX_ret {v : Option Value} {h : aH} {s : Nat} {X : String} : okX (zRet v h s) X := fun Y h2 s2 q => by cases q.1
theorem okI_thr {X : String} {h : aH} {s : Nat} : okI (zThr X h s) := fun v h2 s2 q => by cases q.1
theorem okX_thr {X : String} {h : aH} {s : Nat} : okX (zThr X h s) X := fun Y h2 s2 q => by
  have e := q.1
  cases e
  rfl
theorem zWp_ret {v : Option Value} {h : aH} {s : Nat} {X : String} {r : Int32} : ∀ o h2 s2, zWp (zRet v h s) X r o h2 s2 → zRet v h s o h2 s2 := by
  rintro o h2 s2 (⟨w, g1, g2⟩ | ⟨g1, g2⟩)
  · rw [g2]; exact g1
  · cases g1.1
theorem zWp_thr {h : aH} {s : Nat} {X : String} {r : Int32} : ∀ o h2 s2, zWp (zThr X h s) X r o h2 s2 → zRet (some (.int r)) h s o h2 s2 := by
  rintro o h2 s2 (⟨w, g1, g2⟩ | ⟨g1, g2⟩)
  · cases g1.1
  · exact ⟨g2, g1.2.1, g1.2.2⟩
/-- a whole number; the trial board may have changed -/
def zEo (D : zD) (V : Nat → Nat → Int32) (P : Nat → Nat → Value) (PH : aH) (sz : Nat) (r : Int32) : zO := fun o h2 sz2 => o = .inl (some (.int r)) ∧ sz2 = sz ∧ ∃ V2, h2 = HM D V2 P PH ∧ ∀ c, c ≠ 36 → V2 c = V c
theorem ca_IOOBE : Cond.castable X_IOOBE X_IOOBE ∈ lw_tbl := List.mem_of_getElem? (i := 139) (by decide +kernel)
theorem ca_NSE : Cond.castable X_NSE X_NSE ∈ lw_tbl := List.mem_of_getElem? (i := 367) (by decide +kernel)
theorem ca_ISE : Cond.castable X_ISE X_ISE ∈ lw_tbl := List.mem_of_getElem? (i := 528) (by decide +kernel)
theorem ca_IAE : Cond.castable X_IAE X_IAE ∈ lw_tbl := List.mem_of_getElem? (i := 649) (by decide +kernel)
set_option maxRecDepth 20000 in
theorem wr_weakest {E : zE} (hE : zEv E) {l : Launch} (hl : l.stackTraces = false) {D : zD} (hD : zDok E D) (V : Nat → Nat → Int32) (P : Nat → Nat → Value) (PH : aH) (xa : Int32) (sz : Nat) {O : zO} (hM : ∀ l : Launch, l.stackTraces = false → zM E l y_Xx_weakest [.code y_Xx_weakest c_Xx_weakest 6 (some .int)] rm_Xx_weakest [.ref (D.1 0), .int xa] (HM D V P PH) sz O) (hr : okI O) (hx : okX O X_NSE) : zM E l y_Lw_weakest [.codeWith y_Lw_weakest c_Lw_weakest 3 (some .int) hh_Lw_weakest] rm_Lw_weakest [.ref (D.1 0), .int xa] (HM D V P PH) sz (zWp O X_NSE (-102)) := by
  refine zMX_of hE hl (by decide +kernel) [some (.ref (D.1 0)), some (.int xa), none] ⟨rfl, rfl, Nat.le_of_ble_eq_true rfl⟩ ?_
  intro G C q htb
  refine Z_run C it_Lw_weakest 2 (f2 := (2, [some (.ref (D.1 0)), some (.int xa), none], [.int xa, .ref (D.1 0)])) rfl ?_
  refine Z_callV C it_Lw_weakest rfl p_Xx_weakest ml_Lw_90 [.int xa] (hM _ C.l) rfl rfl (by rw [HM_at hD (show zin 0 by decide)]) rfl ⟨by decide, by decide, by decide, by decide⟩ (Nat.le_of_ble_eq_true rfl) rfl (fun v h2 sz2 hO => ?_) (fun X h2 sz2 hO => ?_)
  · obtain ⟨x, e1⟩ := hr v h2 sz2 hO
    cases e1
    show Z E G h2 sz2 2 12 (5, [some (.ref (D.1 0)), some (.int xa), none], [.int x])
    exact Z_iret C q.e it_Lw_weakest rfl (Or.inl ⟨_, hO, rfl⟩) (by decide) (by decide)
  · have hX9 := hx X h2 sz2 hO
    subst hX9
    refine Z_catch C htb (pre := [⟨0, 5, 6, 92⟩]) (x := ⟨0, 5, 10, 94⟩) (suf := []) rfl (fun z hz => by rw [List.mem_singleton.mp hz]; exact Or.inr ⟨by decide, X_IOOBE, kl_Lw_92, by decide⟩) (by decide) (by decide) kl_Lw_94 ca_NSE (fun q9 => ?_)
    refine Z_run C it_Lw_weakest 2 (f2 := (13, [some (.ref (D.1 0)), some (.int xa), some (.ref q9)], [.int ((-102))])) rfl ?_
    exact Z_iret C q.e it_Lw_weakest rfl (Or.inr ⟨hO, rfl⟩) (by decide) (by decide)
set_option maxRecDepth 20000 in
theorem wr_winner {E : zE} (hE : zEv E) {l : Launch} (hl : l.stackTraces = false) {D : zD} (hD : zDok E D) (V : Nat → Nat → Int32) (P : Nat → Nat → Value) (PH : aH)  (sz : Nat) {O : zO} (hM : ∀ l : Launch, l.stackTraces = false → zM E l y_Xx_winner [.code y_Xx_winner c_Xx_winner 1 (some .int)] rm_Xx_winner [.ref (D.1 0)] (HM D V P PH) sz O) (hr : okI O) (hx : okX O X_NSE) : zM E l y_Lw_winner [.codeWith y_Lw_winner c_Lw_winner 2 (some .int) hh_Lw_winner] rm_Lw_winner [.ref (D.1 0)] (HM D V P PH) sz (zWp O X_NSE (-101)) := by
  refine zMX_of hE hl (by decide +kernel) [some (.ref (D.1 0)), none] ⟨rfl, rfl, Nat.le_of_ble_eq_true rfl⟩ ?_
  intro G C q htb
  refine Z_run C it_Lw_winner 1 (f2 := (1, [some (.ref (D.1 0)), none], [.ref (D.1 0)])) rfl ?_
  refine Z_callV C it_Lw_winner rfl p_Xx_winner ml_Lw_96 [] (hM _ C.l) rfl rfl (by rw [HM_at hD (show zin 0 by decide)]) rfl ⟨by decide, by decide, by decide, by decide⟩ (Nat.le_of_ble_eq_true rfl) rfl (fun v h2 sz2 hO => ?_) (fun X h2 sz2 hO => ?_)
  · obtain ⟨x, e1⟩ := hr v h2 sz2 hO
    cases e1
    show Z E G h2 sz2 1 6 (4, [some (.ref (D.1 0)), none], [.int x])
    exact Z_iret C q.e it_Lw_winner rfl (Or.inl ⟨_, hO, rfl⟩) (by decide) (by decide)
  · have hX9 := hx X h2 sz2 hO
    subst hX9
    refine Z_catch C htb (pre := []) (x := ⟨0, 4, 5, 94⟩) (suf := []) rfl (fun z hz => by cases hz) (by decide) (by decide) kl_Lw_94 ca_NSE (fun q9 => ?_)
    refine Z_run C it_Lw_winner 2 (f2 := (8, [some (.ref (D.1 0)), some (.ref q9)], [.int ((-101))])) rfl ?_
    exact Z_iret C q.e it_Lw_winner rfl (Or.inr ⟨hO, rfl⟩) (by decide) (by decide)
set_option maxRecDepth 20000 in
theorem wr_move {E : zE} (hE : zEv E) {l : Launch} (hl : l.stackTraces = false) {D : zD} (hD : zDok E D) (V : Nat → Nat → Int32) (P : Nat → Nat → Value) (PH : aH) (xa xb : Int32) (sz : Nat) {O : zO} (hM : ∀ l : Launch, l.stackTraces = false → zM E l y_Xx_move [.code y_Xx_move c_Xx_move 3 (some .int)] rm_Xx_move [.ref (D.1 0), .int xa, .int xb] (HM D V P PH) sz O) (hr : okI O) (hx : okX O X_ISE) : zM E l y_Lw_move [.codeWith y_Lw_move c_Lw_move 4 (some .int) hh_Lw_move] rm_Lw_move [.ref (D.1 0), .int xa, .int xb] (HM D V P PH) sz (zWp O X_ISE (-102)) := by
  refine zMX_of hE hl (by decide +kernel) [some (.ref (D.1 0)), some (.int xa), some (.int xb), none] ⟨rfl, rfl, Nat.le_of_ble_eq_true rfl⟩ ?_
  intro G C q htb
  refine Z_run C it_Lw_move 3 (f2 := (3, [some (.ref (D.1 0)), some (.int xa), some (.int xb), none], [.int xb, .int xa, .ref (D.1 0)])) rfl ?_
  refine Z_callV C it_Lw_move rfl p_Xx_move ml_Lw_100 [.int xa, .int xb] (hM _ C.l) rfl rfl (by rw [HM_at hD (show zin 0 by decide)]) rfl ⟨by decide, by decide, by decide, by decide⟩ (Nat.le_of_ble_eq_true rfl) rfl (fun v h2 sz2 hO => ?_) (fun X h2 sz2 hO => ?_)
  · obtain ⟨x, e1⟩ := hr v h2 sz2 hO
    cases e1
    show Z E G h2 sz2 4 25 (6, [some (.ref (D.1 0)), some (.int xa), some (.int xb), none], [.int x])
    exact Z_iret C q.e it_Lw_move rfl (Or.inl ⟨_, hO, rfl⟩) (by decide) (by decide)
  · have hX9 := hx X h2 sz2 hO
    subst hX9
    refine Z_catch C htb (pre := [⟨0, 6, 7, 92⟩]) (x := ⟨0, 6, 11, 103⟩) (suf := []) rfl (fun z hz => by rw [List.mem_singleton.mp hz]; exact Or.inr ⟨by decide, X_IOOBE, kl_Lw_92, by decide⟩) (by decide) (by decide) kl_Lw_103 ca_ISE (fun q9 => ?_)
    refine Z_run C it_Lw_move 2 (f2 := (14, [some (.ref (D.1 0)), some (.int xa), some (.int xb), some (.ref q9)], [.int ((-102))])) rfl ?_
    exact Z_iret C q.e it_Lw_move rfl (Or.inr ⟨hO, rfl⟩) (by decide) (by decide)
set_option maxRecDepth 20000 in
theorem wr_starts {E : zE} (hE : zEv E) {l : Launch} (hl : l.stackTraces = false) {D : zD} (hD : zDok E D) (V : Nat → Nat → Int32) (P : Nat → Nat → Value) (PH : aH)  (sz : Nat) {O : zO} (hM : ∀ l : Launch, l.stackTraces = false → zM E l y_Xx_start [.code y_Xx_start c_Xx_start 1 (some .int)] rm_Xx_start [.ref (D.1 0)] (HM D V P PH) sz O) (hr : okI O) (hx : okX O X_ISE) : zM E l y_Lw_starts [.codeWith y_Lw_starts c_Lw_starts 2 (some .int) hh_Lw_starts] rm_Lw_starts [.ref (D.1 0)] (HM D V P PH) sz (zWp O X_ISE (-101)) := by
  refine zMX_of hE hl (by decide +kernel) [some (.ref (D.1 0)), none] ⟨rfl, rfl, Nat.le_of_ble_eq_true rfl⟩ ?_
  intro G C q htb
  refine Z_run C it_Lw_starts 1 (f2 := (1, [some (.ref (D.1 0)), none], [.ref (D.1 0)])) rfl ?_
  refine Z_callV C it_Lw_starts rfl p_Xx_start ml_Lw_113 [] (hM _ C.l) rfl rfl (by rw [HM_at hD (show zin 0 by decide)]) rfl ⟨by decide, by decide, by decide, by decide⟩ (Nat.le_of_ble_eq_true rfl) rfl (fun v h2 sz2 hO => ?_) (fun X h2 sz2 hO => ?_)
  · obtain ⟨x, e1⟩ := hr v h2 sz2 hO
    cases e1
    show Z E G h2 sz2 2 13 (4, [some (.ref (D.1 0)), none], [.int x])
    exact Z_iret C q.e it_Lw_starts rfl (Or.inl ⟨_, hO, rfl⟩) (by decide) (by decide)
  · have hX9 := hx X h2 sz2 hO
    subst hX9
    refine Z_catch C htb (pre := []) (x := ⟨0, 4, 5, 103⟩) (suf := []) rfl (fun z hz => by cases hz) (by decide) (by decide) kl_Lw_103 ca_ISE (fun q9 => ?_)
    refine Z_run C it_Lw_starts 2 (f2 := (8, [some (.ref (D.1 0)), some (.ref q9)], [.int ((-101))])) rfl ?_
    exact Z_iret C q.e it_Lw_starts rfl (Or.inr ⟨hO, rfl⟩) (by decide) (by decide)
set_option maxRecDepth 20000 in
theorem wr_putsL {E : zE} (hE : zEv E) {l : Launch} (hl : l.stackTraces = false) {D : zD} (hD : zDok E D) (V : Nat → Nat → Int32) (P : Nat → Nat → Value) (PH : aH) (xa xb xc : Int32) (sz : Nat) {O : zO} (hM : ∀ l : Launch, l.stackTraces = false → zM E l y_Xx_putLeader [.code y_Xx_putLeader c_Xx_putLeader 4 (some .int)] rm_Xx_putLeader [.ref (D.1 0), .int xa, .int xb, .int xc] (HM D V P PH) sz O) (hr : okI O) (hx : okX O X_ISE) : zM E l y_Lw_puts [.codeWith y_Lw_puts c_Lw_puts 6 (some .int) hh_Lw_puts] rm_Lw_puts [.ref (D.1 0), .int (nI 1), .int xa, .int xb, .int xc] (HM D V P PH) sz (zWp O X_ISE (-103)) := by
  refine zMX_of hE hl (by decide +kernel) [some (.ref (D.1 0)), some (.int (nI 1)), some (.int xa), some (.int xb), some (.int xc), none] ⟨rfl, rfl, Nat.le_of_ble_eq_true rfl⟩ ?_
  intro G C q htb
  refine Z_run C it_Lw_puts 1 (f2 := (1, [some (.ref (D.1 0)), some (.int (nI 1)), some (.int xa), some (.int xb), some (.int xc), none], [.int (nI 1)])) rfl ?_
  refine Z_br C it_Lw_puts rfl rfl (fun hc1 => ?_) (fun hc1 => ?_)
  · exact absurd hc1 (by decide)
  · skip
    refine Z_run C it_Lw_puts 4 (f2 := (9, [some (.ref (D.1 0)), some (.int (nI 1)), some (.int xa), some (.int xb), some (.int xc), none], [.int xc, .int xb, .int xa, .ref (D.1 0)])) rfl ?_
    refine Z_callV C it_Lw_puts rfl p_Xx_putLeader ml_Lw_105 [.int xa, .int xb, .int xc] (hM _ C.l) rfl rfl (by rw [HM_at hD (show zin 0 by decide)]) rfl ⟨by decide, by decide, by decide, by decide⟩ (Nat.le_of_ble_eq_true rfl) rfl (fun v h2 sz2 hO => ?_) (fun X h2 sz2 hO => ?_)
    · obtain ⟨x, e1⟩ := hr v h2 sz2 hO
      cases e1
      show Z E G h2 sz2 3 18 (12, [some (.ref (D.1 0)), some (.int (nI 1)), some (.int xa), some (.int xb), some (.int xc), none], [.int x])
      refine Z_run C it_Lw_puts 1 (f2 := (23, [some (.ref (D.1 0)), some (.int (nI 1)), some (.int xa), some (.int xb), some (.int xc), none], [.int x])) rfl ?_
      exact Z_iret C q.e it_Lw_puts rfl (Or.inl ⟨_, hO, rfl⟩) (by decide) (by decide)
    · have hX9 := hx X h2 sz2 hO
      subst hX9
      refine Z_catch C htb (pre := [⟨0, 23, 24, 92⟩, ⟨0, 23, 29, 111⟩]) (x := ⟨0, 23, 34, 103⟩) (suf := []) rfl (fun z hz => (List.mem_cons.mp hz).elim (fun e => by rw [e]; exact Or.inr ⟨by decide, X_IOOBE, kl_Lw_92, by decide⟩) (fun hz => by rw [List.mem_singleton.mp hz]; exact Or.inr ⟨by decide, X_IAE, kl_Lw_111, by decide⟩)) (by decide) (by decide) kl_Lw_103 ca_ISE (fun q9 => ?_)
      refine Z_run C it_Lw_puts 2 (f2 := (38, [some (.ref (D.1 0)), some (.int (nI 1)), some (.int xa), some (.int xb), some (.int xc), some (.ref q9)], [.int ((-103))])) rfl ?_
      exact Z_iret C q.e it_Lw_puts rfl (Or.inr ⟨hO, rfl⟩) (by decide) (by decide)
set_option maxRecDepth 20000 in
theorem wr_putsP {E : zE} (hE : zEv E) {l : Launch} (hl : l.stackTraces = false) {D : zD} (hD : zDok E D) (V : Nat → Nat → Int32) (P : Nat → Nat → Value) (PH : aH) (xa xb xc : Int32) (sz : Nat) {O : zO} (hM : ∀ l : Launch, l.stackTraces = false → zM E l y_Xx_putPiece [.code y_Xx_putPiece c_Xx_putPiece 4 (some .int)] rm_Xx_putPiece [.ref (D.1 0), .int xa, .int xb, .int xc] (HM D V P PH) sz O) (hr : okI O) (hx : okX O X_ISE) : zM E l y_Lw_puts [.codeWith y_Lw_puts c_Lw_puts 6 (some .int) hh_Lw_puts] rm_Lw_puts [.ref (D.1 0), .int (nI 0), .int xa, .int xb, .int xc] (HM D V P PH) sz (zWp O X_ISE (-103)) := by
  refine zMX_of hE hl (by decide +kernel) [some (.ref (D.1 0)), some (.int (nI 0)), some (.int xa), some (.int xb), some (.int xc), none] ⟨rfl, rfl, Nat.le_of_ble_eq_true rfl⟩ ?_
  intro G C q htb
  refine Z_run C it_Lw_puts 1 (f2 := (1, [some (.ref (D.1 0)), some (.int (nI 0)), some (.int xa), some (.int xb), some (.int xc), none], [.int (nI 0)])) rfl ?_
  refine Z_br C it_Lw_puts rfl rfl (fun hc1 => ?_) (fun hc1 => ?_)
  · skip
    refine Z_run C it_Lw_puts 4 (f2 := (20, [some (.ref (D.1 0)), some (.int (nI 0)), some (.int xa), some (.int xb), some (.int xc), none], [.int xc, .int xb, .int xa, .ref (D.1 0)])) rfl ?_
    refine Z_callV C it_Lw_puts rfl p_Xx_putPiece ml_Lw_108 [.int xa, .int xb, .int xc] (hM _ C.l) rfl rfl (by rw [HM_at hD (show zin 0 by decide)]) rfl ⟨by decide, by decide, by decide, by decide⟩ (Nat.le_of_ble_eq_true rfl) rfl (fun v h2 sz2 hO => ?_) (fun X h2 sz2 hO => ?_)
    · obtain ⟨x, e1⟩ := hr v h2 sz2 hO
      cases e1
      show Z E G h2 sz2 3 18 (23, [some (.ref (D.1 0)), some (.int (nI 0)), some (.int xa), some (.int xb), some (.int xc), none], [.int x])
      exact Z_iret C q.e it_Lw_puts rfl (Or.inl ⟨_, hO, rfl⟩) (by decide) (by decide)
    · have hX9 := hx X h2 sz2 hO
      subst hX9
      refine Z_catch C htb (pre := [⟨0, 23, 24, 92⟩, ⟨0, 23, 29, 111⟩]) (x := ⟨0, 23, 34, 103⟩) (suf := []) rfl (fun z hz => (List.mem_cons.mp hz).elim (fun e => by rw [e]; exact Or.inr ⟨by decide, X_IOOBE, kl_Lw_92, by decide⟩) (fun hz => by rw [List.mem_singleton.mp hz]; exact Or.inr ⟨by decide, X_IAE, kl_Lw_111, by decide⟩)) (by decide) (by decide) kl_Lw_103 ca_ISE (fun q9 => ?_)
      refine Z_run C it_Lw_puts 2 (f2 := (38, [some (.ref (D.1 0)), some (.int (nI 0)), some (.int xa), some (.int xb), some (.int xc), some (.ref q9)], [.int ((-103))])) rfl ?_
      exact Z_iret C q.e it_Lw_puts rfl (Or.inr ⟨hO, rfl⟩) (by decide) (by decide)
  · exact absurd rfl hc1
/-- who has won, as the law tells it -/
def chI (ch : Option Nat) : Int32 := match ch with
  | none => -101
  | some k => nI k
theorem ct_Lw_winner {E : zE} (hE : zEv E) {l : Launch} (hl : l.stackTraces = false) {D : zD} (hD : zDok E D) (V : Nat → Nat → Int32) (P : Nat → Nat → Value) (PH : aH) (ch : Option Nat) (hch : ∀ k, ch = some k → k < 2) (hCh : V 1 6 = oI ch) (sz : Nat) : zM E l y_Lw_winner [.codeWith y_Lw_winner c_Lw_winner 2 (some .int) hh_Lw_winner] rm_Lw_winner [.ref (D.1 0)] (HM D V P PH) sz (zRet (some (.int (chI ch))) (HM D V P PH) sz) :=
  match ch, hch, hCh with
  | none, _, hCh => zM_mono (wr_winner hE hl hD V P PH sz (fun l hl => ct_Xx_winner_x hE hl hD V P PH hCh sz) okI_thr okX_thr) zWp_thr
  | some k, hch, hCh => zM_mono (wr_winner hE hl hD V P PH sz (fun l hl => ct_Xx_winner hE hl hD V P PH k (hch k rfl) hCh sz) okI_ret okX_ret) zWp_ret
def wkI (o : Option Nat) : Int32 := match o with
  | none => -102
  | some k => nI k
theorem zEx_okI {D : zD} {V : Nat → Nat → Int32} {P : Nat → Nat → Value} {PH : aH} {sz r : Nat} : okI (zEx D V P PH sz r) := fun v h s q => by
  have e := q.1
  cases e
  exact ⟨_, rfl⟩
theorem zEx_okX {D : zD} {V : Nat → Nat → Int32} {P : Nat → Nat → Value} {PH : aH} {sz r : Nat} {X : String} : okX (zEx D V P PH sz r) X := fun Y h s q => by cases q.1
theorem zThE_okI {D : zD} {V : Nat → Nat → Int32} {P : Nat → Nat → Value} {PH : aH} {sz : Nat} {X : String} : okI (zThE X D V P PH sz) := fun v h s q => by cases q.1
theorem zThE_okX {D : zD} {V : Nat → Nat → Int32} {P : Nat → Nat → Value} {PH : aH} {sz : Nat} {X : String} : okX (zThE X D V P PH sz) X := fun Y h s q => by
  have e := q.1
  cases e
  rfl
theorem zWp_Ex {D : zD} {V : Nat → Nat → Int32} {P : Nat → Nat → Value} {PH : aH} {sz k : Nat} {X : String} {r : Int32} : ∀ o h2 s2, zWp (zEx D V P PH sz k) X r o h2 s2 → zEo D V P PH sz (nI k) o h2 s2 := by
  rintro o h2 s2 (⟨w, g1, g2⟩ | ⟨g1, g2⟩)
  · rw [g2]; exact g1
  · cases g1.1
theorem zWp_ThE {D : zD} {V : Nat → Nat → Int32} {P : Nat → Nat → Value} {PH : aH} {sz : Nat} {X : String} {r : Int32} : ∀ o h2 s2, zWp (zThE X D V P PH sz) X r o h2 s2 → zEo D V P PH sz r o h2 s2 := by
  rintro o h2 s2 (⟨w, g1, g2⟩ | ⟨g1, g2⟩)
  · cases g1.1
  · exact ⟨g2, g1.2⟩
theorem ct_Lw_weakest {E : zE} (hE : zEv E) {l : Launch} (hl : l.stackTraces = false) {D : zD} (hD : zDok E D) (V : Nat → Nat → Int32) (P : Nat → Nat → Value) (PH : aH) (hF : okF (bF V 2)) (s : Nat) (hs : s < 2) (sz : Nat) : zM E l y_Lw_weakest [.codeWith y_Lw_weakest c_Lw_weakest 3 (some .int) hh_Lw_weakest] rm_Lw_weakest [.ref (D.1 0), .int (nI s)] (HM D V P PH) sz (zEo D V P PH sz (wkI (wkp (bF V 2) s 36).2)) := by
  cases hw : (wkp (bF V 2) s 36).2 with
  | none => exact zM_mono (wr_weakest hE hl hD V P PH (nI s) sz (fun l hl => ct_Xx_weakest_x2 hE hl hD V P PH hF s hs hw sz) zThE_okI zThE_okX) zWp_ThE
  | some k => exact zM_mono (wr_weakest hE hl hD V P PH (nI s) sz (fun l hl => ct_Xx_weakest hE hl hD V P PH hF s hs k hw sz) zEx_okI zEx_okX) zWp_Ex
theorem zNewP_okI {D : zD} {V : Nat → Nat → Int32} {P : Nat → Nat → Value} {PH : aH} {c : aC} {x : Int32} {sz : Nat} : okI (zNewP D V P PH c (.int x) sz) := fun v h s q => by
  obtain ⟨q0, g1, g2, g3, g4, g5⟩ := q
  cases g4
  exact ⟨_, rfl⟩
theorem zNewP_okX {D : zD} {V : Nat → Nat → Int32} {P : Nat → Nat → Value} {PH : aH} {c : aC} {v : Value} {sz : Nat} {X : String} : okX (zNewP D V P PH c v sz) X := fun Y h s q => by
  obtain ⟨q0, g1, g2, g3, g4, g5⟩ := q
  cases g4
theorem zWp_NewP {D : zD} {V : Nat → Nat → Int32} {P : Nat → Nat → Value} {PH : aH} {c : aC} {v : Value} {sz : Nat} {X : String} {r : Int32} : ∀ o h2 s2, zWp (zNewP D V P PH c v sz) X r o h2 s2 → zNewP D V P PH c v sz o h2 s2 := by
  rintro o h2 s2 (⟨w, g1, g2⟩ | ⟨g1, g2⟩)
  · rw [g2]; exact g1
  · obtain ⟨q0, -, -, -, g4, -⟩ := g1
    cases g4
