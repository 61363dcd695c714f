/-! ===== the law's wrappers, over any contract of what they call ===== -/
/-- what was answered is stored and 0 returned; or an exception's place, from 1 -/
def zWr (D : zD) (O : zO) (Xs : List String) (c : Nat) (cv : Value → Value) : zO := fun o h2 sz2 =>
  (∃ (w : Value) (V2 : Nat → Nat → Int32) (P2 : Nat → Nat → Value) (PH2 : aH), O (.inl (some w)) (HM D V2 P2 PH2) sz2 ∧ o = .inl (some (.int (nI 0))) ∧ h2 = HM D V2 (pset P2 c 0 (cv w)) PH2) ∨
  (∃ (X : String) (i : Nat), O (.inr X) h2 sz2 ∧ Xs[i]? = some X ∧ o = .inl (some (.int (nI (i + 1)))))
def cvI : Value → Value
  | .int x => .long x.toInt64
  | v => v
def cvN : Value → Value := fun v => v
/-- what a wrapper asks of the contract: a whole number, over some memory -/
def okI (D : zD) (O : zO) : Prop := ∀ v h2 sz2, O (.inl v) h2 sz2 → ∃ (x : Int32) (V2 : Nat → Nat → Int32) (P2 : Nat → Nat → Value) (PH2 : aH), v = some (.int x) ∧ h2 = HM D V2 P2 PH2
def okL (D : zD) (O : zO) : Prop := ∀ v h2 sz2, O (.inl v) h2 sz2 → ∃ (x : Int64) (V2 : Nat → Nat → Int32) (P2 : Nat → Nat → Value) (PH2 : aH), v = some (.long x) ∧ h2 = HM D V2 P2 PH2
def okD (D : zD) (O : zO) : Prop := ∀ v h2 sz2, O (.inl v) h2 sz2 → ∃ (x : UInt64) (V2 : Nat → Nat → Int32) (P2 : Nat → Nat → Value) (PH2 : aH), v = some (.double x) ∧ h2 = HM D V2 P2 PH2
def okX (O : zO) (Xs : List String) : Prop := ∀ X h2 sz2, O (.inr X) h2 sz2 → X ∈ Xs
theorem ca_IOOBE : Cond.castable X_IOOBE X_IOOBE ∈ lw_tbl := List.mem_of_getElem? (i := 234) (by decide +kernel)
theorem ca_IAE : Cond.castable X_IAE X_IAE ∈ lw_tbl := List.mem_of_getElem? (i := 307) (by decide +kernel)
theorem ca_ISE : Cond.castable X_ISE X_ISE ∈ lw_tbl := List.mem_of_getElem? (i := 363) (by decide +kernel)
theorem ca_NSE : Cond.castable X_NSE X_NSE ∈ lw_tbl := List.mem_of_getElem? (i := 655) (by decide +kernel)
set_option maxRecDepth 20000 in
theorem wr_Lw_putPiece {E : zE} (hE : zEv E) {l : Launch} (hl : l.stackTraces = false) {D : zD} (hD : zDok E D) (V : Nat → Nat → Int32) (P : Nat → Nat → Value) (PH : aH) (xa : Int32) (xb : Int32) (xc : Int32) (sz : Nat) {O : zO} (hM : ∀ l : Launch, l.stackTraces = false → zM E l y_Xx_putPiece [.code y_Xx_putPiece c_Xx_putPiece 4 (some .int)] rm_Xx_putPiece [.ref (D.1 0), .int xa, .int xb, .int xc] (HM D V P PH) sz O) (hr : okI D O) (hx : okX O [X_IOOBE, X_IAE, X_ISE]) : zM E l y_Lw_putPiece [.codeWith y_Lw_putPiece c_Lw_putPiece 6 (some .int) hh_Lw_putPiece] rm_Lw_putPiece [.ref (D.1 0), .int xa, .int xb, .int xc, .ref (D.1 44)] (HM D V P PH) sz (zWr D O [X_IOOBE, X_IAE, X_ISE] 44 cvI) := by
  refine zMX_of hE hl (by decide +kernel) [some (.ref (D.1 0)), some (.int xa), some (.int xb), some (.int xc), some (.ref (D.1 44)), none] ⟨rfl, rfl, Nat.le_of_ble_eq_true rfl⟩ ?_
  intro G C q htb
  refine Z_run C it_Lw_putPiece 6 (f2 := (7, [some (.ref (D.1 0)), some (.int xa), some (.int xb), some (.int xc), some (.ref (D.1 44)), none], [.int xc, .int xb, .int xa, .ref (D.1 0), .int (nI 0), .ref (D.1 44)])) rfl ?_
  refine Z_callV C it_Lw_putPiece rfl p_Xx_putPiece ml_Lw_7 [.int xa, .int xb, .int xc] (hM _ C.l) rfl rfl (by rw [HM_at hD (show 0 < 53 by decide)]) rfl ⟨by decide, by decide, by decide, by decide⟩ (Nat.le_of_ble_eq_true rfl) rfl (fun v h2 sz2 hO => ?_) (fun X h2 sz2 hO => ?_)
  · obtain ⟨x, V2, P2, PH2, e1, e2⟩ := hr v h2 sz2 hO
    cases e1
    subst e2
    show Z E G (HM D V2 P2 PH2) sz2 3 18 (10, [some (.ref (D.1 0)), some (.int xa), some (.int xb), some (.int xc), some (.ref (D.1 44)), none], [.int x, .int (nI 0), .ref (D.1 44)])
    refine Z_run C it_Lw_putPiece 1 (f2 := (11, [some (.ref (D.1 0)), some (.int xa), some (.int xb), some (.int xc), some (.ref (D.1 44)), none], [.long ((x).toInt64), .int (nI 0), .ref (D.1 44)])) rfl ?_
    refine Zm_astr C it_Lw_putPiece hD 44 11 rfl (by first | decide | exact isB_k hb | omega) rfl (by decide) rfl (j := 0) (by omega) trivial rfl ?_
    refine Z_run C it_Lw_putPiece 2 (f2 := (28, [some (.ref (D.1 0)), some (.int xa), some (.int xb), some (.int xc), some (.ref (D.1 44)), none], [.int (nI 0)])) rfl ?_
    exact Z_iret C q.e it_Lw_putPiece rfl (Or.inl ⟨_, V2, P2, PH2, hO, rfl, rfl⟩) (by decide) (by decide)
  · have hX9 := hx X h2 sz2 hO
    simp only [List.mem_cons, List.not_mem_nil, or_false] at hX9
    rcases hX9 with rfl | rfl | rfl
    · refine Z_catch C htb (pre := []) (x := ⟨0, 12, 15, 13⟩) (suf := [⟨0, 12, 19, 15⟩, ⟨0, 12, 23, 17⟩]) rfl (fun z hz => by cases hz) (by decide) (by decide) kl_Lw_13 ca_IOOBE (fun q9 => ?_)
      refine Z_run C it_Lw_putPiece 2 (f2 := (18, [some (.ref (D.1 0)), some (.int xa), some (.int xb), some (.int xc), some (.ref (D.1 44)), some (.ref q9)], [.int (nI 1)])) rfl ?_
      exact Z_iret C q.e it_Lw_putPiece rfl (Or.inr ⟨_, 0, hO, rfl, rfl⟩) (by decide) (by decide)
    · refine Z_catch C htb (pre := [⟨0, 12, 15, 13⟩]) (x := ⟨0, 12, 19, 15⟩) (suf := [⟨0, 12, 23, 17⟩]) rfl (fun z hz => by rw [List.mem_singleton.mp hz]; exact Or.inr ⟨by decide, X_IOOBE, kl_Lw_13, by decide⟩) (by decide) (by decide) kl_Lw_15 ca_IAE (fun q9 => ?_)
      refine Z_run C it_Lw_putPiece 2 (f2 := (22, [some (.ref (D.1 0)), some (.int xa), some (.int xb), some (.int xc), some (.ref (D.1 44)), some (.ref q9)], [.int (nI 2)])) rfl ?_
      exact Z_iret C q.e it_Lw_putPiece rfl (Or.inr ⟨_, 1, hO, rfl, rfl⟩) (by decide) (by decide)
    · refine Z_catch C htb (pre := [⟨0, 12, 15, 13⟩, ⟨0, 12, 19, 15⟩]) (x := ⟨0, 12, 23, 17⟩) (suf := []) rfl (fun z hz => (List.mem_cons.mp hz).elim (fun e => by rw [e]; exact Or.inr ⟨by decide, X_IOOBE, kl_Lw_13, by decide⟩) (fun hz => by rw [List.mem_singleton.mp hz]; exact Or.inr ⟨by decide, X_IAE, kl_Lw_15, by decide⟩)) (by decide) (by decide) kl_Lw_17 ca_ISE (fun q9 => ?_)
      refine Z_run C it_Lw_putPiece 2 (f2 := (26, [some (.ref (D.1 0)), some (.int xa), some (.int xb), some (.int xc), some (.ref (D.1 44)), some (.ref q9)], [.int (nI 3)])) rfl ?_
      exact Z_iret C q.e it_Lw_putPiece rfl (Or.inr ⟨_, 2, hO, rfl, rfl⟩) (by decide) (by decide)
set_option maxRecDepth 20000 in
theorem wr_Lw_putLeader {E : zE} (hE : zEv E) {l : Launch} (hl : l.stackTraces = false) {D : zD} (hD : zDok E D) (V : Nat → Nat → Int32) (P : Nat → Nat → Value) (PH : aH) (xa : Int32) (xb : Int32) (xc : Int32) (sz : Nat) {O : zO} (hM : ∀ l : Launch, l.stackTraces = false → zM E l y_Xx_putLeader [.code y_Xx_putLeader c_Xx_putLeader 4 (some .int)] rm_Xx_putLeader [.ref (D.1 0), .int xa, .int xb, .int xc] (HM D V P PH) sz O) (hr : okI D O) (hx : okX O [X_IOOBE, X_IAE, X_ISE]) : zM E l y_Lw_putLeader [.codeWith y_Lw_putLeader c_Lw_putLeader 6 (some .int) hh_Lw_putLeader] rm_Lw_putLeader [.ref (D.1 0), .int xa, .int xb, .int xc, .ref (D.1 44)] (HM D V P PH) sz (zWr D O [X_IOOBE, X_IAE, X_ISE] 44 cvI) := by
  refine zMX_of hE hl (by decide +kernel) [some (.ref (D.1 0)), some (.int xa), some (.int xb), some (.int xc), some (.ref (D.1 44)), none] ⟨rfl, rfl, Nat.le_of_ble_eq_true rfl⟩ ?_
  intro G C q htb
  refine Z_run C it_Lw_putLeader 6 (f2 := (7, [some (.ref (D.1 0)), some (.int xa), some (.int xb), some (.int xc), some (.ref (D.1 44)), none], [.int xc, .int xb, .int xa, .ref (D.1 0), .int (nI 0), .ref (D.1 44)])) rfl ?_
  refine Z_callV C it_Lw_putLeader rfl p_Xx_putLeader ml_Lw_19 [.int xa, .int xb, .int xc] (hM _ C.l) rfl rfl (by rw [HM_at hD (show 0 < 53 by decide)]) rfl ⟨by decide, by decide, by decide, by decide⟩ (Nat.le_of_ble_eq_true rfl) rfl (fun v h2 sz2 hO => ?_) (fun X h2 sz2 hO => ?_)
  · obtain ⟨x, V2, P2, PH2, e1, e2⟩ := hr v h2 sz2 hO
    cases e1
    subst e2
    show Z E G (HM D V2 P2 PH2) sz2 3 18 (10, [some (.ref (D.1 0)), some (.int xa), some (.int xb), some (.int xc), some (.ref (D.1 44)), none], [.int x, .int (nI 0), .ref (D.1 44)])
    refine Z_run C it_Lw_putLeader 1 (f2 := (11, [some (.ref (D.1 0)), some (.int xa), some (.int xb), some (.int xc), some (.ref (D.1 44)), none], [.long ((x).toInt64), .int (nI 0), .ref (D.1 44)])) rfl ?_
    refine Zm_astr C it_Lw_putLeader hD 44 11 rfl (by first | decide | exact isB_k hb | omega) rfl (by decide) rfl (j := 0) (by omega) trivial rfl ?_
    refine Z_run C it_Lw_putLeader 2 (f2 := (28, [some (.ref (D.1 0)), some (.int xa), some (.int xb), some (.int xc), some (.ref (D.1 44)), none], [.int (nI 0)])) rfl ?_
    exact Z_iret C q.e it_Lw_putLeader rfl (Or.inl ⟨_, V2, P2, PH2, hO, rfl, rfl⟩) (by decide) (by decide)
  · have hX9 := hx X h2 sz2 hO
    simp only [List.mem_cons, List.not_mem_nil, or_false] at hX9
    rcases hX9 with rfl | rfl | rfl
    · refine Z_catch C htb (pre := []) (x := ⟨0, 12, 15, 13⟩) (suf := [⟨0, 12, 19, 15⟩, ⟨0, 12, 23, 17⟩]) rfl (fun z hz => by cases hz) (by decide) (by decide) kl_Lw_13 ca_IOOBE (fun q9 => ?_)
      refine Z_run C it_Lw_putLeader 2 (f2 := (18, [some (.ref (D.1 0)), some (.int xa), some (.int xb), some (.int xc), some (.ref (D.1 44)), some (.ref q9)], [.int (nI 1)])) rfl ?_
      exact Z_iret C q.e it_Lw_putLeader rfl (Or.inr ⟨_, 0, hO, rfl, rfl⟩) (by decide) (by decide)
    · refine Z_catch C htb (pre := [⟨0, 12, 15, 13⟩]) (x := ⟨0, 12, 19, 15⟩) (suf := [⟨0, 12, 23, 17⟩]) rfl (fun z hz => by rw [List.mem_singleton.mp hz]; exact Or.inr ⟨by decide, X_IOOBE, kl_Lw_13, by decide⟩) (by decide) (by decide) kl_Lw_15 ca_IAE (fun q9 => ?_)
      refine Z_run C it_Lw_putLeader 2 (f2 := (22, [some (.ref (D.1 0)), some (.int xa), some (.int xb), some (.int xc), some (.ref (D.1 44)), some (.ref q9)], [.int (nI 2)])) rfl ?_
      exact Z_iret C q.e it_Lw_putLeader rfl (Or.inr ⟨_, 1, hO, rfl, rfl⟩) (by decide) (by decide)
    · refine Z_catch C htb (pre := [⟨0, 12, 15, 13⟩, ⟨0, 12, 19, 15⟩]) (x := ⟨0, 12, 23, 17⟩) (suf := []) rfl (fun z hz => (List.mem_cons.mp hz).elim (fun e => by rw [e]; exact Or.inr ⟨by decide, X_IOOBE, kl_Lw_13, by decide⟩) (fun hz => by rw [List.mem_singleton.mp hz]; exact Or.inr ⟨by decide, X_IAE, kl_Lw_15, by decide⟩)) (by decide) (by decide) kl_Lw_17 ca_ISE (fun q9 => ?_)
      refine Z_run C it_Lw_putLeader 2 (f2 := (26, [some (.ref (D.1 0)), some (.int xa), some (.int xb), some (.int xc), some (.ref (D.1 44)), some (.ref q9)], [.int (nI 3)])) rfl ?_
      exact Z_iret C q.e it_Lw_putLeader rfl (Or.inr ⟨_, 2, hO, rfl, rfl⟩) (by decide) (by decide)
set_option maxRecDepth 20000 in
theorem wr_Lw_takeAway {E : zE} (hE : zEv E) {l : Launch} (hl : l.stackTraces = false) {D : zD} (hD : zDok E D) (V : Nat → Nat → Int32) (P : Nat → Nat → Value) (PH : aH) (xa : Int32) (sz : Nat) {O : zO} (hM : ∀ l : Launch, l.stackTraces = false → zM E l y_Xx_takeAway [.code y_Xx_takeAway c_Xx_takeAway 2 (some .int)] rm_Xx_takeAway [.ref (D.1 0), .int xa] (HM D V P PH) sz O) (hr : okI D O) (hx : okX O [X_IOOBE, X_ISE]) : zM E l y_Lw_takeAway [.codeWith y_Lw_takeAway c_Lw_takeAway 4 (some .int) hh_Lw_takeAway] rm_Lw_takeAway [.ref (D.1 0), .int xa, .ref (D.1 44)] (HM D V P PH) sz (zWr D O [X_IOOBE, X_ISE] 44 cvI) := by
  refine zMX_of hE hl (by decide +kernel) [some (.ref (D.1 0)), some (.int xa), some (.ref (D.1 44)), none] ⟨rfl, rfl, Nat.le_of_ble_eq_true rfl⟩ ?_
  intro G C q htb
  refine Z_run C it_Lw_takeAway 4 (f2 := (4, [some (.ref (D.1 0)), some (.int xa), some (.ref (D.1 44)), none], [.int xa, .ref (D.1 0), .int (nI 0), .ref (D.1 44)])) rfl ?_
  refine Z_callV C it_Lw_takeAway rfl p_Xx_takeAway ml_Lw_22 [.int xa] (hM _ C.l) rfl rfl (by rw [HM_at hD (show 0 < 53 by decide)]) rfl ⟨by decide, by decide, by decide, by decide⟩ (Nat.le_of_ble_eq_true rfl) rfl (fun v h2 sz2 hO => ?_) (fun X h2 sz2 hO => ?_)
  · obtain ⟨x, V2, P2, PH2, e1, e2⟩ := hr v h2 sz2 hO
    cases e1
    subst e2
    show Z E G (HM D V2 P2 PH2) sz2 2 12 (7, [some (.ref (D.1 0)), some (.int xa), some (.ref (D.1 44)), none], [.int x, .int (nI 0), .ref (D.1 44)])
    refine Z_run C it_Lw_takeAway 1 (f2 := (8, [some (.ref (D.1 0)), some (.int xa), some (.ref (D.1 44)), none], [.long ((x).toInt64), .int (nI 0), .ref (D.1 44)])) rfl ?_
    refine Zm_astr C it_Lw_takeAway hD 44 11 rfl (by first | decide | exact isB_k hb | omega) rfl (by decide) rfl (j := 0) (by omega) trivial rfl ?_
    refine Z_run C it_Lw_takeAway 2 (f2 := (19, [some (.ref (D.1 0)), some (.int xa), some (.ref (D.1 44)), none], [.int (nI 0)])) rfl ?_
    exact Z_iret C q.e it_Lw_takeAway rfl (Or.inl ⟨_, V2, P2, PH2, hO, rfl, rfl⟩) (by decide) (by decide)
  · have hX9 := hx X h2 sz2 hO
    simp only [List.mem_cons, List.not_mem_nil, or_false] at hX9
    rcases hX9 with rfl | rfl
    · refine Z_catch C htb (pre := []) (x := ⟨0, 9, 12, 13⟩) (suf := [⟨0, 9, 15, 17⟩]) rfl (fun z hz => by cases hz) (by decide) (by decide) kl_Lw_13 ca_IOOBE (fun q9 => ?_)
      refine Z_run C it_Lw_takeAway 2 (f2 := (14, [some (.ref (D.1 0)), some (.int xa), some (.ref (D.1 44)), some (.ref q9)], [.int (nI 1)])) rfl ?_
      exact Z_iret C q.e it_Lw_takeAway rfl (Or.inr ⟨_, 0, hO, rfl, rfl⟩) (by decide) (by decide)
    · refine Z_catch C htb (pre := [⟨0, 9, 12, 13⟩]) (x := ⟨0, 9, 15, 17⟩) (suf := []) rfl (fun z hz => by rw [List.mem_singleton.mp hz]; exact Or.inr ⟨by decide, X_IOOBE, kl_Lw_13, by decide⟩) (by decide) (by decide) kl_Lw_17 ca_ISE (fun q9 => ?_)
      refine Z_run C it_Lw_takeAway 2 (f2 := (17, [some (.ref (D.1 0)), some (.int xa), some (.ref (D.1 44)), some (.ref q9)], [.int (nI 2)])) rfl ?_
      exact Z_iret C q.e it_Lw_takeAway rfl (Or.inr ⟨_, 1, hO, rfl, rfl⟩) (by decide) (by decide)
set_option maxRecDepth 20000 in
theorem wr_Lw_start {E : zE} (hE : zEv E) {l : Launch} (hl : l.stackTraces = false) {D : zD} (hD : zDok E D) (V : Nat → Nat → Int32) (P : Nat → Nat → Value) (PH : aH) (sz : Nat) {O : zO} (hM : ∀ l : Launch, l.stackTraces = false → zM E l y_Xx_start [.code y_Xx_start c_Xx_start 1 (some .int)] rm_Xx_start [.ref (D.1 0)] (HM D V P PH) sz O) (hr : okI D O) (hx : okX O [X_ISE]) : zM E l y_Lw_start [.codeWith y_Lw_start c_Lw_start 3 (some .int) hh_Lw_start] rm_Lw_start [.ref (D.1 0), .ref (D.1 44)] (HM D V P PH) sz (zWr D O [X_ISE] 44 cvI) := by
  refine zMX_of hE hl (by decide +kernel) [some (.ref (D.1 0)), some (.ref (D.1 44)), none] ⟨rfl, rfl, Nat.le_of_ble_eq_true rfl⟩ ?_
  intro G C q htb
  refine Z_run C it_Lw_start 3 (f2 := (3, [some (.ref (D.1 0)), some (.ref (D.1 44)), none], [.ref (D.1 0), .int (nI 0), .ref (D.1 44)])) rfl ?_
  refine Z_callV C it_Lw_start rfl p_Xx_start ml_Lw_26 [] (hM _ C.l) rfl rfl (by rw [HM_at hD (show 0 < 53 by decide)]) rfl ⟨by decide, by decide, by decide, by decide⟩ (Nat.le_of_ble_eq_true rfl) rfl (fun v h2 sz2 hO => ?_) (fun X h2 sz2 hO => ?_)
  · obtain ⟨x, V2, P2, PH2, e1, e2⟩ := hr v h2 sz2 hO
    cases e1
    subst e2
    show Z E G (HM D V2 P2 PH2) sz2 2 13 (6, [some (.ref (D.1 0)), some (.ref (D.1 44)), none], [.int x, .int (nI 0), .ref (D.1 44)])
    refine Z_run C it_Lw_start 1 (f2 := (7, [some (.ref (D.1 0)), some (.ref (D.1 44)), none], [.long ((x).toInt64), .int (nI 0), .ref (D.1 44)])) rfl ?_
    refine Zm_astr C it_Lw_start hD 44 11 rfl (by first | decide | exact isB_k hb | omega) rfl (by decide) rfl (j := 0) (by omega) trivial rfl ?_
    refine Z_run C it_Lw_start 2 (f2 := (15, [some (.ref (D.1 0)), some (.ref (D.1 44)), none], [.int (nI 0)])) rfl ?_
    exact Z_iret C q.e it_Lw_start rfl (Or.inl ⟨_, V2, P2, PH2, hO, rfl, rfl⟩) (by decide) (by decide)
  · have hX9 := hx X h2 sz2 hO
    rw [List.mem_singleton] at hX9
    subst hX9
    refine Z_catch C htb (pre := []) (x := ⟨0, 8, 11, 17⟩) (suf := []) rfl (fun z hz => by cases hz) (by decide) (by decide) kl_Lw_17 ca_ISE (fun q9 => ?_)
    refine Z_run C it_Lw_start 2 (f2 := (13, [some (.ref (D.1 0)), some (.ref (D.1 44)), some (.ref q9)], [.int (nI 1)])) rfl ?_
    exact Z_iret C q.e it_Lw_start rfl (Or.inr ⟨_, 0, hO, rfl, rfl⟩) (by decide) (by decide)
set_option maxRecDepth 20000 in
theorem wr_Lw_move {E : zE} (hE : zEv E) {l : Launch} (hl : l.stackTraces = false) {D : zD} (hD : zDok E D) (V : Nat → Nat → Int32) (P : Nat → Nat → Value) (PH : aH) (xa : Int32) (xb : Int32) (sz : Nat) {O : zO} (hM : ∀ l : Launch, l.stackTraces = false → zM E l y_Xx_move [.code y_Xx_move c_Xx_move 3 (some .int)] rm_Xx_move [.ref (D.1 0), .int xa, .int xb] (HM D V P PH) sz O) (hr : okI D O) (hx : okX O [X_IOOBE, X_ISE]) : zM E l y_Lw_move [.codeWith y_Lw_move c_Lw_move 5 (some .int) hh_Lw_move] rm_Lw_move [.ref (D.1 0), .int xa, .int xb, .ref (D.1 44)] (HM D V P PH) sz (zWr D O [X_IOOBE, X_ISE] 44 cvI) := by
  refine zMX_of hE hl (by decide +kernel) [some (.ref (D.1 0)), some (.int xa), some (.int xb), some (.ref (D.1 44)), none] ⟨rfl, rfl, Nat.le_of_ble_eq_true rfl⟩ ?_
  intro G C q htb
  refine Z_run C it_Lw_move 5 (f2 := (5, [some (.ref (D.1 0)), some (.int xa), some (.int xb), some (.ref (D.1 44)), none], [.int xb, .int xa, .ref (D.1 0), .int (nI 0), .ref (D.1 44)])) rfl ?_
  refine Z_callV C it_Lw_move rfl p_Xx_move ml_Lw_30 [.int xa, .int xb] (hM _ C.l) rfl rfl (by rw [HM_at hD (show 0 < 53 by decide)]) rfl ⟨by decide, by decide, by decide, by decide⟩ (Nat.le_of_ble_eq_true rfl) rfl (fun v h2 sz2 hO => ?_) (fun X h2 sz2 hO => ?_)
  · obtain ⟨x, V2, P2, PH2, e1, e2⟩ := hr v h2 sz2 hO
    cases e1
    subst e2
    show Z E G (HM D V2 P2 PH2) sz2 4 25 (8, [some (.ref (D.1 0)), some (.int xa), some (.int xb), some (.ref (D.1 44)), none], [.int x, .int (nI 0), .ref (D.1 44)])
    refine Z_run C it_Lw_move 1 (f2 := (9, [some (.ref (D.1 0)), some (.int xa), some (.int xb), some (.ref (D.1 44)), none], [.long ((x).toInt64), .int (nI 0), .ref (D.1 44)])) rfl ?_
    refine Zm_astr C it_Lw_move hD 44 11 rfl (by first | decide | exact isB_k hb | omega) rfl (by decide) rfl (j := 0) (by omega) trivial rfl ?_
    refine Z_run C it_Lw_move 2 (f2 := (22, [some (.ref (D.1 0)), some (.int xa), some (.int xb), some (.ref (D.1 44)), none], [.int (nI 0)])) rfl ?_
    exact Z_iret C q.e it_Lw_move rfl (Or.inl ⟨_, V2, P2, PH2, hO, rfl, rfl⟩) (by decide) (by decide)
  · have hX9 := hx X h2 sz2 hO
    simp only [List.mem_cons, List.not_mem_nil, or_false] at hX9
    rcases hX9 with rfl | rfl
    · refine Z_catch C htb (pre := []) (x := ⟨0, 10, 13, 13⟩) (suf := [⟨0, 10, 17, 17⟩]) rfl (fun z hz => by cases hz) (by decide) (by decide) kl_Lw_13 ca_IOOBE (fun q9 => ?_)
      refine Z_run C it_Lw_move 2 (f2 := (16, [some (.ref (D.1 0)), some (.int xa), some (.int xb), some (.ref (D.1 44)), some (.ref q9)], [.int (nI 1)])) rfl ?_
      exact Z_iret C q.e it_Lw_move rfl (Or.inr ⟨_, 0, hO, rfl, rfl⟩) (by decide) (by decide)
    · refine Z_catch C htb (pre := [⟨0, 10, 13, 13⟩]) (x := ⟨0, 10, 17, 17⟩) (suf := []) rfl (fun z hz => by rw [List.mem_singleton.mp hz]; exact Or.inr ⟨by decide, X_IOOBE, kl_Lw_13, by decide⟩) (by decide) (by decide) kl_Lw_17 ca_ISE (fun q9 => ?_)
      refine Z_run C it_Lw_move 2 (f2 := (20, [some (.ref (D.1 0)), some (.int xa), some (.int xb), some (.ref (D.1 44)), some (.ref q9)], [.int (nI 2)])) rfl ?_
      exact Z_iret C q.e it_Lw_move rfl (Or.inr ⟨_, 1, hO, rfl, rfl⟩) (by decide) (by decide)
set_option maxRecDepth 20000 in
theorem wr_Lw_play {E : zE} (hE : zEv E) {l : Launch} (hl : l.stackTraces = false) {D : zD} (hD : zDok E D) (V : Nat → Nat → Int32) (P : Nat → Nat → Value) (PH : aH) (sz : Nat) {O : zO} (hM : ∀ l : Launch, l.stackTraces = false → zM E l y_Xx_play [.code y_Xx_play c_Xx_play 5 (some .int)] rm_Xx_play [.ref (D.1 0)] (HM D V P PH) sz O) (hr : okI D O) (hx : okX O [X_IAE]) : zM E l y_Lw_play [.codeWith y_Lw_play c_Lw_play 3 (some .int) hh_Lw_play] rm_Lw_play [.ref (D.1 0), .ref (D.1 44)] (HM D V P PH) sz (zWr D O [X_IAE] 44 cvI) := by
  refine zMX_of hE hl (by decide +kernel) [some (.ref (D.1 0)), some (.ref (D.1 44)), none] ⟨rfl, rfl, Nat.le_of_ble_eq_true rfl⟩ ?_
  intro G C q htb
  refine Z_run C it_Lw_play 3 (f2 := (3, [some (.ref (D.1 0)), some (.ref (D.1 44)), none], [.ref (D.1 0), .int (nI 0), .ref (D.1 44)])) rfl ?_
  refine Z_callV C it_Lw_play rfl p_Xx_play ml_Lw_34 [] (hM _ C.l) rfl rfl (by rw [HM_at hD (show 0 < 53 by decide)]) rfl ⟨by decide, by decide, by decide, by decide⟩ (Nat.le_of_ble_eq_true rfl) rfl (fun v h2 sz2 hO => ?_) (fun X h2 sz2 hO => ?_)
  · obtain ⟨x, V2, P2, PH2, e1, e2⟩ := hr v h2 sz2 hO
    cases e1
    subst e2
    show Z E G (HM D V2 P2 PH2) sz2 13 90 (6, [some (.ref (D.1 0)), some (.ref (D.1 44)), none], [.int x, .int (nI 0), .ref (D.1 44)])
    refine Z_run C it_Lw_play 1 (f2 := (7, [some (.ref (D.1 0)), some (.ref (D.1 44)), none], [.long ((x).toInt64), .int (nI 0), .ref (D.1 44)])) rfl ?_
    refine Zm_astr C it_Lw_play hD 44 11 rfl (by first | decide | exact isB_k hb | omega) rfl (by decide) rfl (j := 0) (by omega) trivial rfl ?_
    refine Z_run C it_Lw_play 2 (f2 := (15, [some (.ref (D.1 0)), some (.ref (D.1 44)), none], [.int (nI 0)])) rfl ?_
    exact Z_iret C q.e it_Lw_play rfl (Or.inl ⟨_, V2, P2, PH2, hO, rfl, rfl⟩) (by decide) (by decide)
  · have hX9 := hx X h2 sz2 hO
    rw [List.mem_singleton] at hX9
    subst hX9
    refine Z_catch C htb (pre := []) (x := ⟨0, 8, 11, 15⟩) (suf := []) rfl (fun z hz => by cases hz) (by decide) (by decide) kl_Lw_15 ca_IAE (fun q9 => ?_)
    refine Z_run C it_Lw_play 2 (f2 := (13, [some (.ref (D.1 0)), some (.ref (D.1 44)), some (.ref q9)], [.int (nI 1)])) rfl ?_
    exact Z_iret C q.e it_Lw_play rfl (Or.inr ⟨_, 0, hO, rfl, rfl⟩) (by decide) (by decide)
set_option maxRecDepth 20000 in
theorem wr_Lw_whyNot {E : zE} (hE : zEv E) {l : Launch} (hl : l.stackTraces = false) {D : zD} (hD : zDok E D) (V : Nat → Nat → Int32) (P : Nat → Nat → Value) (PH : aH) (xa : Int32) (xb : Int32) (sz : Nat) {O : zO} (hM : ∀ l : Launch, l.stackTraces = false → zM E l y_Xx_whyNot [.code y_Xx_whyNot c_Xx_whyNot 3 (some .int)] rm_Xx_whyNot [.ref (D.1 0), .int xa, .int xb] (HM D V P PH) sz O) (hr : okI D O) (hx : okX O [X_IOOBE]) : zM E l y_Lw_whyNot [.codeWith y_Lw_whyNot c_Lw_whyNot 5 (some .int) hh_Lw_whyNot] rm_Lw_whyNot [.ref (D.1 0), .int xa, .int xb, .ref (D.1 44)] (HM D V P PH) sz (zWr D O [X_IOOBE] 44 cvI) := by
  refine zMX_of hE hl (by decide +kernel) [some (.ref (D.1 0)), some (.int xa), some (.int xb), some (.ref (D.1 44)), none] ⟨rfl, rfl, Nat.le_of_ble_eq_true rfl⟩ ?_
  intro G C q htb
  refine Z_run C it_Lw_whyNot 5 (f2 := (5, [some (.ref (D.1 0)), some (.int xa), some (.int xb), some (.ref (D.1 44)), none], [.int xb, .int xa, .ref (D.1 0), .int (nI 0), .ref (D.1 44)])) rfl ?_
  refine Z_callV C it_Lw_whyNot rfl p_Xx_whyNot ml_Lw_37 [.int xa, .int xb] (hM _ C.l) rfl rfl (by rw [HM_at hD (show 0 < 53 by decide)]) rfl ⟨by decide, by decide, by decide, by decide⟩ (Nat.le_of_ble_eq_true rfl) rfl (fun v h2 sz2 hO => ?_) (fun X h2 sz2 hO => ?_)
  · obtain ⟨x, V2, P2, PH2, e1, e2⟩ := hr v h2 sz2 hO
    cases e1
    subst e2
    show Z E G (HM D V2 P2 PH2) sz2 2 12 (8, [some (.ref (D.1 0)), some (.int xa), some (.int xb), some (.ref (D.1 44)), none], [.int x, .int (nI 0), .ref (D.1 44)])
    refine Z_run C it_Lw_whyNot 1 (f2 := (9, [some (.ref (D.1 0)), some (.int xa), some (.int xb), some (.ref (D.1 44)), none], [.long ((x).toInt64), .int (nI 0), .ref (D.1 44)])) rfl ?_
    refine Zm_astr C it_Lw_whyNot hD 44 11 rfl (by first | decide | exact isB_k hb | omega) rfl (by decide) rfl (j := 0) (by omega) trivial rfl ?_
    refine Z_run C it_Lw_whyNot 2 (f2 := (18, [some (.ref (D.1 0)), some (.int xa), some (.int xb), some (.ref (D.1 44)), none], [.int (nI 0)])) rfl ?_
    exact Z_iret C q.e it_Lw_whyNot rfl (Or.inl ⟨_, V2, P2, PH2, hO, rfl, rfl⟩) (by decide) (by decide)
  · have hX9 := hx X h2 sz2 hO
    rw [List.mem_singleton] at hX9
    subst hX9
    refine Z_catch C htb (pre := []) (x := ⟨0, 10, 13, 13⟩) (suf := []) rfl (fun z hz => by cases hz) (by decide) (by decide) kl_Lw_13 ca_IOOBE (fun q9 => ?_)
    refine Z_run C it_Lw_whyNot 2 (f2 := (16, [some (.ref (D.1 0)), some (.int xa), some (.int xb), some (.ref (D.1 44)), some (.ref q9)], [.int (nI 1)])) rfl ?_
    exact Z_iret C q.e it_Lw_whyNot rfl (Or.inr ⟨_, 0, hO, rfl, rfl⟩) (by decide) (by decide)
set_option maxRecDepth 20000 in
theorem wr_Lw_append {E : zE} (hE : zEv E) {l : Launch} (hl : l.stackTraces = false) {D : zD} (hD : zDok E D) (V : Nat → Nat → Int32) (P : Nat → Nat → Value) (PH : aH) (xa : Int32) (sz : Nat) {O : zO} (hM : ∀ l : Launch, l.stackTraces = false → zM E l y_Xx_append [.code y_Xx_append c_Xx_append 2 (some .int)] rm_Xx_append [.ref (D.1 0), .int xa] (HM D V P PH) sz O) (hr : okI D O) (hx : okX O [X_ISE]) : zM E l y_Lw_append [.codeWith y_Lw_append c_Lw_append 4 (some .int) hh_Lw_append] rm_Lw_append [.ref (D.1 0), .int xa, .ref (D.1 44)] (HM D V P PH) sz (zWr D O [X_ISE] 44 cvI) := by
  refine zMX_of hE hl (by decide +kernel) [some (.ref (D.1 0)), some (.int xa), some (.ref (D.1 44)), none] ⟨rfl, rfl, Nat.le_of_ble_eq_true rfl⟩ ?_
  intro G C q htb
  refine Z_run C it_Lw_append 4 (f2 := (4, [some (.ref (D.1 0)), some (.int xa), some (.ref (D.1 44)), none], [.int xa, .ref (D.1 0), .int (nI 0), .ref (D.1 44)])) rfl ?_
  refine Z_callV C it_Lw_append rfl p_Xx_append ml_Lw_40 [.int xa] (hM _ C.l) rfl rfl (by rw [HM_at hD (show 0 < 53 by decide)]) rfl ⟨by decide, by decide, by decide, by decide⟩ (Nat.le_of_ble_eq_true rfl) rfl (fun v h2 sz2 hO => ?_) (fun X h2 sz2 hO => ?_)
  · obtain ⟨x, V2, P2, PH2, e1, e2⟩ := hr v h2 sz2 hO
    cases e1
    subst e2
    show Z E G (HM D V2 P2 PH2) sz2 1 6 (7, [some (.ref (D.1 0)), some (.int xa), some (.ref (D.1 44)), none], [.int x, .int (nI 0), .ref (D.1 44)])
    refine Z_run C it_Lw_append 1 (f2 := (8, [some (.ref (D.1 0)), some (.int xa), some (.ref (D.1 44)), none], [.long ((x).toInt64), .int (nI 0), .ref (D.1 44)])) rfl ?_
    refine Zm_astr C it_Lw_append hD 44 11 rfl (by first | decide | exact isB_k hb | omega) rfl (by decide) rfl (j := 0) (by omega) trivial rfl ?_
    refine Z_run C it_Lw_append 2 (f2 := (16, [some (.ref (D.1 0)), some (.int xa), some (.ref (D.1 44)), none], [.int (nI 0)])) rfl ?_
    exact Z_iret C q.e it_Lw_append rfl (Or.inl ⟨_, V2, P2, PH2, hO, rfl, rfl⟩) (by decide) (by decide)
  · have hX9 := hx X h2 sz2 hO
    rw [List.mem_singleton] at hX9
    subst hX9
    refine Z_catch C htb (pre := []) (x := ⟨0, 9, 12, 17⟩) (suf := []) rfl (fun z hz => by cases hz) (by decide) (by decide) kl_Lw_17 ca_ISE (fun q9 => ?_)
    refine Z_run C it_Lw_append 2 (f2 := (14, [some (.ref (D.1 0)), some (.int xa), some (.ref (D.1 44)), some (.ref q9)], [.int (nI 1)])) rfl ?_
    exact Z_iret C q.e it_Lw_append rfl (Or.inr ⟨_, 0, hO, rfl, rfl⟩) (by decide) (by decide)
set_option maxRecDepth 20000 in
theorem wr_Lw_firstError {E : zE} (hE : zEv E) {l : Launch} (hl : l.stackTraces = false) {D : zD} (hD : zDok E D) (V : Nat → Nat → Int32) (P : Nat → Nat → Value) (PH : aH) (sz : Nat) {O : zO} (hM : ∀ l : Launch, l.stackTraces = false → zM E l y_Xx_firstError [.code y_Xx_firstError c_Xx_firstError 1 (some .int)] rm_Xx_firstError [.ref (D.1 0)] (HM D V P PH) sz O) (hr : okI D O) (hx : okX O [X_ISE]) : zM E l y_Lw_firstError [.codeWith y_Lw_firstError c_Lw_firstError 3 (some .int) hh_Lw_firstError] rm_Lw_firstError [.ref (D.1 0), .ref (D.1 44)] (HM D V P PH) sz (zWr D O [X_ISE] 44 cvI) := by
  refine zMX_of hE hl (by decide +kernel) [some (.ref (D.1 0)), some (.ref (D.1 44)), none] ⟨rfl, rfl, Nat.le_of_ble_eq_true rfl⟩ ?_
  intro G C q htb
  refine Z_run C it_Lw_firstError 3 (f2 := (3, [some (.ref (D.1 0)), some (.ref (D.1 44)), none], [.ref (D.1 0), .int (nI 0), .ref (D.1 44)])) rfl ?_
  refine Z_callV C it_Lw_firstError rfl p_Xx_firstError ml_Lw_44 [] (hM _ C.l) rfl rfl (by rw [HM_at hD (show 0 < 53 by decide)]) rfl ⟨by decide, by decide, by decide, by decide⟩ (Nat.le_of_ble_eq_true rfl) rfl (fun v h2 sz2 hO => ?_) (fun X h2 sz2 hO => ?_)
  · obtain ⟨x, V2, P2, PH2, e1, e2⟩ := hr v h2 sz2 hO
    cases e1
    subst e2
    show Z E G (HM D V2 P2 PH2) sz2 1 6 (6, [some (.ref (D.1 0)), some (.ref (D.1 44)), none], [.int x, .int (nI 0), .ref (D.1 44)])
    refine Z_run C it_Lw_firstError 1 (f2 := (7, [some (.ref (D.1 0)), some (.ref (D.1 44)), none], [.long ((x).toInt64), .int (nI 0), .ref (D.1 44)])) rfl ?_
    refine Zm_astr C it_Lw_firstError hD 44 11 rfl (by first | decide | exact isB_k hb | omega) rfl (by decide) rfl (j := 0) (by omega) trivial rfl ?_
    refine Z_run C it_Lw_firstError 2 (f2 := (15, [some (.ref (D.1 0)), some (.ref (D.1 44)), none], [.int (nI 0)])) rfl ?_
    exact Z_iret C q.e it_Lw_firstError rfl (Or.inl ⟨_, V2, P2, PH2, hO, rfl, rfl⟩) (by decide) (by decide)
  · have hX9 := hx X h2 sz2 hO
    rw [List.mem_singleton] at hX9
    subst hX9
    refine Z_catch C htb (pre := []) (x := ⟨0, 8, 11, 17⟩) (suf := []) rfl (fun z hz => by cases hz) (by decide) (by decide) kl_Lw_17 ca_ISE (fun q9 => ?_)
    refine Z_run C it_Lw_firstError 2 (f2 := (13, [some (.ref (D.1 0)), some (.ref (D.1 44)), some (.ref q9)], [.int (nI 1)])) rfl ?_
    exact Z_iret C q.e it_Lw_firstError rfl (Or.inr ⟨_, 0, hO, rfl, rfl⟩) (by decide) (by decide)
set_option maxRecDepth 20000 in
theorem wr_Lw_undo {E : zE} (hE : zEv E) {l : Launch} (hl : l.stackTraces = false) {D : zD} (hD : zDok E D) (V : Nat → Nat → Int32) (P : Nat → Nat → Value) (PH : aH) (sz : Nat) {O : zO} (hM : ∀ l : Launch, l.stackTraces = false → zM E l y_Xx_undo [.code y_Xx_undo c_Xx_undo 1 (some .int)] rm_Xx_undo [.ref (D.1 0)] (HM D V P PH) sz O) (hr : okI D O) (hx : okX O [X_ISE]) : zM E l y_Lw_undo [.codeWith y_Lw_undo c_Lw_undo 3 (some .int) hh_Lw_undo] rm_Lw_undo [.ref (D.1 0), .ref (D.1 44)] (HM D V P PH) sz (zWr D O [X_ISE] 44 cvI) := by
  refine zMX_of hE hl (by decide +kernel) [some (.ref (D.1 0)), some (.ref (D.1 44)), none] ⟨rfl, rfl, Nat.le_of_ble_eq_true rfl⟩ ?_
  intro G C q htb
  refine Z_run C it_Lw_undo 3 (f2 := (3, [some (.ref (D.1 0)), some (.ref (D.1 44)), none], [.ref (D.1 0), .int (nI 0), .ref (D.1 44)])) rfl ?_
  refine Z_callV C it_Lw_undo rfl p_Xx_undo ml_Lw_47 [] (hM _ C.l) rfl rfl (by rw [HM_at hD (show 0 < 53 by decide)]) rfl ⟨by decide, by decide, by decide, by decide⟩ (Nat.le_of_ble_eq_true rfl) rfl (fun v h2 sz2 hO => ?_) (fun X h2 sz2 hO => ?_)
  · obtain ⟨x, V2, P2, PH2, e1, e2⟩ := hr v h2 sz2 hO
    cases e1
    subst e2
    show Z E G (HM D V2 P2 PH2) sz2 1 6 (6, [some (.ref (D.1 0)), some (.ref (D.1 44)), none], [.int x, .int (nI 0), .ref (D.1 44)])
    refine Z_run C it_Lw_undo 1 (f2 := (7, [some (.ref (D.1 0)), some (.ref (D.1 44)), none], [.long ((x).toInt64), .int (nI 0), .ref (D.1 44)])) rfl ?_
    refine Zm_astr C it_Lw_undo hD 44 11 rfl (by first | decide | exact isB_k hb | omega) rfl (by decide) rfl (j := 0) (by omega) trivial rfl ?_
    refine Z_run C it_Lw_undo 2 (f2 := (15, [some (.ref (D.1 0)), some (.ref (D.1 44)), none], [.int (nI 0)])) rfl ?_
    exact Z_iret C q.e it_Lw_undo rfl (Or.inl ⟨_, V2, P2, PH2, hO, rfl, rfl⟩) (by decide) (by decide)
  · have hX9 := hx X h2 sz2 hO
    rw [List.mem_singleton] at hX9
    subst hX9
    refine Z_catch C htb (pre := []) (x := ⟨0, 8, 11, 17⟩) (suf := []) rfl (fun z hz => by cases hz) (by decide) (by decide) kl_Lw_17 ca_ISE (fun q9 => ?_)
    refine Z_run C it_Lw_undo 2 (f2 := (13, [some (.ref (D.1 0)), some (.ref (D.1 44)), some (.ref q9)], [.int (nI 1)])) rfl ?_
    exact Z_iret C q.e it_Lw_undo rfl (Or.inr ⟨_, 0, hO, rfl, rfl⟩) (by decide) (by decide)
set_option maxRecDepth 20000 in
theorem wr_Lw_pieces {E : zE} (hE : zEv E) {l : Launch} (hl : l.stackTraces = false) {D : zD} (hD : zDok E D) (V : Nat → Nat → Int32) (P : Nat → Nat → Value) (PH : aH) (xa : Int32) (sz : Nat) {O : zO} (hM : ∀ l : Launch, l.stackTraces = false → zM E l y_Xx_pieces [.code y_Xx_pieces c_Xx_pieces 2 (some .int)] rm_Xx_pieces [.ref (D.1 0), .int xa] (HM D V P PH) sz O) (hr : okI D O) (hx : okX O [X_IOOBE]) : zM E l y_Lw_pieces [.codeWith y_Lw_pieces c_Lw_pieces 4 (some .int) hh_Lw_pieces] rm_Lw_pieces [.ref (D.1 0), .int xa, .ref (D.1 44)] (HM D V P PH) sz (zWr D O [X_IOOBE] 44 cvI) := by
  refine zMX_of hE hl (by decide +kernel) [some (.ref (D.1 0)), some (.int xa), some (.ref (D.1 44)), none] ⟨rfl, rfl, Nat.le_of_ble_eq_true rfl⟩ ?_
  intro G C q htb
  refine Z_run C it_Lw_pieces 4 (f2 := (4, [some (.ref (D.1 0)), some (.int xa), some (.ref (D.1 44)), none], [.int xa, .ref (D.1 0), .int (nI 0), .ref (D.1 44)])) rfl ?_
  refine Z_callV C it_Lw_pieces rfl p_Xx_pieces ml_Lw_50 [.int xa] (hM _ C.l) rfl rfl (by rw [HM_at hD (show 0 < 53 by decide)]) rfl ⟨by decide, by decide, by decide, by decide⟩ (Nat.le_of_ble_eq_true rfl) rfl (fun v h2 sz2 hO => ?_) (fun X h2 sz2 hO => ?_)
  · obtain ⟨x, V2, P2, PH2, e1, e2⟩ := hr v h2 sz2 hO
    cases e1
    subst e2
    show Z E G (HM D V2 P2 PH2) sz2 1 6 (7, [some (.ref (D.1 0)), some (.int xa), some (.ref (D.1 44)), none], [.int x, .int (nI 0), .ref (D.1 44)])
    refine Z_run C it_Lw_pieces 1 (f2 := (8, [some (.ref (D.1 0)), some (.int xa), some (.ref (D.1 44)), none], [.long ((x).toInt64), .int (nI 0), .ref (D.1 44)])) rfl ?_
    refine Zm_astr C it_Lw_pieces hD 44 11 rfl (by first | decide | exact isB_k hb | omega) rfl (by decide) rfl (j := 0) (by omega) trivial rfl ?_
    refine Z_run C it_Lw_pieces 2 (f2 := (16, [some (.ref (D.1 0)), some (.int xa), some (.ref (D.1 44)), none], [.int (nI 0)])) rfl ?_
    exact Z_iret C q.e it_Lw_pieces rfl (Or.inl ⟨_, V2, P2, PH2, hO, rfl, rfl⟩) (by decide) (by decide)
  · have hX9 := hx X h2 sz2 hO
    rw [List.mem_singleton] at hX9
    subst hX9
    refine Z_catch C htb (pre := []) (x := ⟨0, 9, 12, 13⟩) (suf := []) rfl (fun z hz => by cases hz) (by decide) (by decide) kl_Lw_13 ca_IOOBE (fun q9 => ?_)
    refine Z_run C it_Lw_pieces 2 (f2 := (14, [some (.ref (D.1 0)), some (.int xa), some (.ref (D.1 44)), some (.ref q9)], [.int (nI 1)])) rfl ?_
    exact Z_iret C q.e it_Lw_pieces rfl (Or.inr ⟨_, 0, hO, rfl, rfl⟩) (by decide) (by decide)
set_option maxRecDepth 20000 in
theorem wr_Lw_sideAt {E : zE} (hE : zEv E) {l : Launch} (hl : l.stackTraces = false) {D : zD} (hD : zDok E D) (V : Nat → Nat → Int32) (P : Nat → Nat → Value) (PH : aH) (xa : Int32) (sz : Nat) {O : zO} (hM : ∀ l : Launch, l.stackTraces = false → zM E l y_Xx_sideAt [.code y_Xx_sideAt c_Xx_sideAt 2 (some .int)] rm_Xx_sideAt [.ref (D.1 0), .int xa] (HM D V P PH) sz O) (hr : okI D O) (hx : okX O [X_IOOBE, X_NSE]) : zM E l y_Lw_sideAt [.codeWith y_Lw_sideAt c_Lw_sideAt 4 (some .int) hh_Lw_sideAt] rm_Lw_sideAt [.ref (D.1 0), .int xa, .ref (D.1 44)] (HM D V P PH) sz (zWr D O [X_IOOBE, X_NSE] 44 cvI) := by
  refine zMX_of hE hl (by decide +kernel) [some (.ref (D.1 0)), some (.int xa), some (.ref (D.1 44)), none] ⟨rfl, rfl, Nat.le_of_ble_eq_true rfl⟩ ?_
  intro G C q htb
  refine Z_run C it_Lw_sideAt 4 (f2 := (4, [some (.ref (D.1 0)), some (.int xa), some (.ref (D.1 44)), none], [.int xa, .ref (D.1 0), .int (nI 0), .ref (D.1 44)])) rfl ?_
  refine Z_callV C it_Lw_sideAt rfl p_Xx_sideAt ml_Lw_53 [.int xa] (hM _ C.l) rfl rfl (by rw [HM_at hD (show 0 < 53 by decide)]) rfl ⟨by decide, by decide, by decide, by decide⟩ (Nat.le_of_ble_eq_true rfl) rfl (fun v h2 sz2 hO => ?_) (fun X h2 sz2 hO => ?_)
  · obtain ⟨x, V2, P2, PH2, e1, e2⟩ := hr v h2 sz2 hO
    cases e1
    subst e2
    show Z E G (HM D V2 P2 PH2) sz2 2 12 (7, [some (.ref (D.1 0)), some (.int xa), some (.ref (D.1 44)), none], [.int x, .int (nI 0), .ref (D.1 44)])
    refine Z_run C it_Lw_sideAt 1 (f2 := (8, [some (.ref (D.1 0)), some (.int xa), some (.ref (D.1 44)), none], [.long ((x).toInt64), .int (nI 0), .ref (D.1 44)])) rfl ?_
    refine Zm_astr C it_Lw_sideAt hD 44 11 rfl (by first | decide | exact isB_k hb | omega) rfl (by decide) rfl (j := 0) (by omega) trivial rfl ?_
    refine Z_run C it_Lw_sideAt 2 (f2 := (19, [some (.ref (D.1 0)), some (.int xa), some (.ref (D.1 44)), none], [.int (nI 0)])) rfl ?_
    exact Z_iret C q.e it_Lw_sideAt rfl (Or.inl ⟨_, V2, P2, PH2, hO, rfl, rfl⟩) (by decide) (by decide)
  · have hX9 := hx X h2 sz2 hO
    simp only [List.mem_cons, List.not_mem_nil, or_false] at hX9
    rcases hX9 with rfl | rfl
    · refine Z_catch C htb (pre := []) (x := ⟨0, 9, 12, 13⟩) (suf := [⟨0, 9, 15, 56⟩]) rfl (fun z hz => by cases hz) (by decide) (by decide) kl_Lw_13 ca_IOOBE (fun q9 => ?_)
      refine Z_run C it_Lw_sideAt 2 (f2 := (14, [some (.ref (D.1 0)), some (.int xa), some (.ref (D.1 44)), some (.ref q9)], [.int (nI 1)])) rfl ?_
      exact Z_iret C q.e it_Lw_sideAt rfl (Or.inr ⟨_, 0, hO, rfl, rfl⟩) (by decide) (by decide)
    · refine Z_catch C htb (pre := [⟨0, 9, 12, 13⟩]) (x := ⟨0, 9, 15, 56⟩) (suf := []) rfl (fun z hz => by rw [List.mem_singleton.mp hz]; exact Or.inr ⟨by decide, X_IOOBE, kl_Lw_13, by decide⟩) (by decide) (by decide) kl_Lw_56 ca_NSE (fun q9 => ?_)
      refine Z_run C it_Lw_sideAt 2 (f2 := (17, [some (.ref (D.1 0)), some (.int xa), some (.ref (D.1 44)), some (.ref q9)], [.int (nI 2)])) rfl ?_
      exact Z_iret C q.e it_Lw_sideAt rfl (Or.inr ⟨_, 1, hO, rfl, rfl⟩) (by decide) (by decide)
set_option maxRecDepth 20000 in
theorem wr_Lw_stepsAt {E : zE} (hE : zEv E) {l : Launch} (hl : l.stackTraces = false) {D : zD} (hD : zDok E D) (V : Nat → Nat → Int32) (P : Nat → Nat → Value) (PH : aH) (xa : Int32) (sz : Nat) {O : zO} (hM : ∀ l : Launch, l.stackTraces = false → zM E l y_Xx_stepsAt [.code y_Xx_stepsAt c_Xx_stepsAt 2 (some .int)] rm_Xx_stepsAt [.ref (D.1 0), .int xa] (HM D V P PH) sz O) (hr : okI D O) (hx : okX O [X_IOOBE, X_NSE]) : zM E l y_Lw_stepsAt [.codeWith y_Lw_stepsAt c_Lw_stepsAt 4 (some .int) hh_Lw_stepsAt] rm_Lw_stepsAt [.ref (D.1 0), .int xa, .ref (D.1 44)] (HM D V P PH) sz (zWr D O [X_IOOBE, X_NSE] 44 cvI) := by
  refine zMX_of hE hl (by decide +kernel) [some (.ref (D.1 0)), some (.int xa), some (.ref (D.1 44)), none] ⟨rfl, rfl, Nat.le_of_ble_eq_true rfl⟩ ?_
  intro G C q htb
  refine Z_run C it_Lw_stepsAt 4 (f2 := (4, [some (.ref (D.1 0)), some (.int xa), some (.ref (D.1 44)), none], [.int xa, .ref (D.1 0), .int (nI 0), .ref (D.1 44)])) rfl ?_
  refine Z_callV C it_Lw_stepsAt rfl p_Xx_stepsAt ml_Lw_58 [.int xa] (hM _ C.l) rfl rfl (by rw [HM_at hD (show 0 < 53 by decide)]) rfl ⟨by decide, by decide, by decide, by decide⟩ (Nat.le_of_ble_eq_true rfl) rfl (fun v h2 sz2 hO => ?_) (fun X h2 sz2 hO => ?_)
  · obtain ⟨x, V2, P2, PH2, e1, e2⟩ := hr v h2 sz2 hO
    cases e1
    subst e2
    show Z E G (HM D V2 P2 PH2) sz2 2 12 (7, [some (.ref (D.1 0)), some (.int xa), some (.ref (D.1 44)), none], [.int x, .int (nI 0), .ref (D.1 44)])
    refine Z_run C it_Lw_stepsAt 1 (f2 := (8, [some (.ref (D.1 0)), some (.int xa), some (.ref (D.1 44)), none], [.long ((x).toInt64), .int (nI 0), .ref (D.1 44)])) rfl ?_
    refine Zm_astr C it_Lw_stepsAt hD 44 11 rfl (by first | decide | exact isB_k hb | omega) rfl (by decide) rfl (j := 0) (by omega) trivial rfl ?_
    refine Z_run C it_Lw_stepsAt 2 (f2 := (19, [some (.ref (D.1 0)), some (.int xa), some (.ref (D.1 44)), none], [.int (nI 0)])) rfl ?_
    exact Z_iret C q.e it_Lw_stepsAt rfl (Or.inl ⟨_, V2, P2, PH2, hO, rfl, rfl⟩) (by decide) (by decide)
  · have hX9 := hx X h2 sz2 hO
    simp only [List.mem_cons, List.not_mem_nil, or_false] at hX9
    rcases hX9 with rfl | rfl
    · refine Z_catch C htb (pre := []) (x := ⟨0, 9, 12, 13⟩) (suf := [⟨0, 9, 15, 56⟩]) rfl (fun z hz => by cases hz) (by decide) (by decide) kl_Lw_13 ca_IOOBE (fun q9 => ?_)
      refine Z_run C it_Lw_stepsAt 2 (f2 := (14, [some (.ref (D.1 0)), some (.int xa), some (.ref (D.1 44)), some (.ref q9)], [.int (nI 1)])) rfl ?_
      exact Z_iret C q.e it_Lw_stepsAt rfl (Or.inr ⟨_, 0, hO, rfl, rfl⟩) (by decide) (by decide)
    · refine Z_catch C htb (pre := [⟨0, 9, 12, 13⟩]) (x := ⟨0, 9, 15, 56⟩) (suf := []) rfl (fun z hz => by rw [List.mem_singleton.mp hz]; exact Or.inr ⟨by decide, X_IOOBE, kl_Lw_13, by decide⟩) (by decide) (by decide) kl_Lw_56 ca_NSE (fun q9 => ?_)
      refine Z_run C it_Lw_stepsAt 2 (f2 := (17, [some (.ref (D.1 0)), some (.int xa), some (.ref (D.1 44)), some (.ref q9)], [.int (nI 2)])) rfl ?_
      exact Z_iret C q.e it_Lw_stepsAt rfl (Or.inr ⟨_, 1, hO, rfl, rfl⟩) (by decide) (by decide)
set_option maxRecDepth 20000 in
theorem wr_Lw_worthAt {E : zE} (hE : zEv E) {l : Launch} (hl : l.stackTraces = false) {D : zD} (hD : zDok E D) (V : Nat → Nat → Int32) (P : Nat → Nat → Value) (PH : aH) (xa : Int32) (sz : Nat) {O : zO} (hM : ∀ l : Launch, l.stackTraces = false → zM E l y_Xx_worthAt [.code y_Xx_worthAt c_Xx_worthAt 2 (some .int)] rm_Xx_worthAt [.ref (D.1 0), .int xa] (HM D V P PH) sz O) (hr : okI D O) (hx : okX O [X_IOOBE, X_NSE]) : zM E l y_Lw_worthAt [.codeWith y_Lw_worthAt c_Lw_worthAt 4 (some .int) hh_Lw_worthAt] rm_Lw_worthAt [.ref (D.1 0), .int xa, .ref (D.1 44)] (HM D V P PH) sz (zWr D O [X_IOOBE, X_NSE] 44 cvI) := by
  refine zMX_of hE hl (by decide +kernel) [some (.ref (D.1 0)), some (.int xa), some (.ref (D.1 44)), none] ⟨rfl, rfl, Nat.le_of_ble_eq_true rfl⟩ ?_
  intro G C q htb
  refine Z_run C it_Lw_worthAt 4 (f2 := (4, [some (.ref (D.1 0)), some (.int xa), some (.ref (D.1 44)), none], [.int xa, .ref (D.1 0), .int (nI 0), .ref (D.1 44)])) rfl ?_
  refine Z_callV C it_Lw_worthAt rfl p_Xx_worthAt ml_Lw_61 [.int xa] (hM _ C.l) rfl rfl (by rw [HM_at hD (show 0 < 53 by decide)]) rfl ⟨by decide, by decide, by decide, by decide⟩ (Nat.le_of_ble_eq_true rfl) rfl (fun v h2 sz2 hO => ?_) (fun X h2 sz2 hO => ?_)
  · obtain ⟨x, V2, P2, PH2, e1, e2⟩ := hr v h2 sz2 hO
    cases e1
    subst e2
    show Z E G (HM D V2 P2 PH2) sz2 2 12 (7, [some (.ref (D.1 0)), some (.int xa), some (.ref (D.1 44)), none], [.int x, .int (nI 0), .ref (D.1 44)])
    refine Z_run C it_Lw_worthAt 1 (f2 := (8, [some (.ref (D.1 0)), some (.int xa), some (.ref (D.1 44)), none], [.long ((x).toInt64), .int (nI 0), .ref (D.1 44)])) rfl ?_
    refine Zm_astr C it_Lw_worthAt hD 44 11 rfl (by first | decide | exact isB_k hb | omega) rfl (by decide) rfl (j := 0) (by omega) trivial rfl ?_
    refine Z_run C it_Lw_worthAt 2 (f2 := (19, [some (.ref (D.1 0)), some (.int xa), some (.ref (D.1 44)), none], [.int (nI 0)])) rfl ?_
    exact Z_iret C q.e it_Lw_worthAt rfl (Or.inl ⟨_, V2, P2, PH2, hO, rfl, rfl⟩) (by decide) (by decide)
  · have hX9 := hx X h2 sz2 hO
    simp only [List.mem_cons, List.not_mem_nil, or_false] at hX9
    rcases hX9 with rfl | rfl
    · refine Z_catch C htb (pre := []) (x := ⟨0, 9, 12, 13⟩) (suf := [⟨0, 9, 15, 56⟩]) rfl (fun z hz => by cases hz) (by decide) (by decide) kl_Lw_13 ca_IOOBE (fun q9 => ?_)
      refine Z_run C it_Lw_worthAt 2 (f2 := (14, [some (.ref (D.1 0)), some (.int xa), some (.ref (D.1 44)), some (.ref q9)], [.int (nI 1)])) rfl ?_
      exact Z_iret C q.e it_Lw_worthAt rfl (Or.inr ⟨_, 0, hO, rfl, rfl⟩) (by decide) (by decide)
    · refine Z_catch C htb (pre := [⟨0, 9, 12, 13⟩]) (x := ⟨0, 9, 15, 56⟩) (suf := []) rfl (fun z hz => by rw [List.mem_singleton.mp hz]; exact Or.inr ⟨by decide, X_IOOBE, kl_Lw_13, by decide⟩) (by decide) (by decide) kl_Lw_56 ca_NSE (fun q9 => ?_)
      refine Z_run C it_Lw_worthAt 2 (f2 := (17, [some (.ref (D.1 0)), some (.int xa), some (.ref (D.1 44)), some (.ref q9)], [.int (nI 2)])) rfl ?_
      exact Z_iret C q.e it_Lw_worthAt rfl (Or.inr ⟨_, 1, hO, rfl, rfl⟩) (by decide) (by decide)
set_option maxRecDepth 20000 in
theorem wr_Lw_leaderOf {E : zE} (hE : zEv E) {l : Launch} (hl : l.stackTraces = false) {D : zD} (hD : zDok E D) (V : Nat → Nat → Int32) (P : Nat → Nat → Value) (PH : aH) (xa : Int32) (sz : Nat) {O : zO} (hM : ∀ l : Launch, l.stackTraces = false → zM E l y_Xx_leaderOf [.code y_Xx_leaderOf c_Xx_leaderOf 3 (some .int)] rm_Xx_leaderOf [.ref (D.1 0), .int xa] (HM D V P PH) sz O) (hr : okI D O) (hx : okX O [X_IOOBE, X_NSE]) : zM E l y_Lw_leaderOf [.codeWith y_Lw_leaderOf c_Lw_leaderOf 4 (some .int) hh_Lw_leaderOf] rm_Lw_leaderOf [.ref (D.1 0), .int xa, .ref (D.1 44)] (HM D V P PH) sz (zWr D O [X_IOOBE, X_NSE] 44 cvI) := by
  refine zMX_of hE hl (by decide +kernel) [some (.ref (D.1 0)), some (.int xa), some (.ref (D.1 44)), none] ⟨rfl, rfl, Nat.le_of_ble_eq_true rfl⟩ ?_
  intro G C q htb
  refine Z_run C it_Lw_leaderOf 4 (f2 := (4, [some (.ref (D.1 0)), some (.int xa), some (.ref (D.1 44)), none], [.int xa, .ref (D.1 0), .int (nI 0), .ref (D.1 44)])) rfl ?_
  refine Z_callV C it_Lw_leaderOf rfl p_Xx_leaderOf ml_Lw_64 [.int xa] (hM _ C.l) rfl rfl (by rw [HM_at hD (show 0 < 53 by decide)]) rfl ⟨by decide, by decide, by decide, by decide⟩ (Nat.le_of_ble_eq_true rfl) rfl (fun v h2 sz2 hO => ?_) (fun X h2 sz2 hO => ?_)
  · obtain ⟨x, V2, P2, PH2, e1, e2⟩ := hr v h2 sz2 hO
    cases e1
    subst e2
    show Z E G (HM D V2 P2 PH2) sz2 2 12 (7, [some (.ref (D.1 0)), some (.int xa), some (.ref (D.1 44)), none], [.int x, .int (nI 0), .ref (D.1 44)])
    refine Z_run C it_Lw_leaderOf 1 (f2 := (8, [some (.ref (D.1 0)), some (.int xa), some (.ref (D.1 44)), none], [.long ((x).toInt64), .int (nI 0), .ref (D.1 44)])) rfl ?_
    refine Zm_astr C it_Lw_leaderOf hD 44 11 rfl (by first | decide | exact isB_k hb | omega) rfl (by decide) rfl (j := 0) (by omega) trivial rfl ?_
    refine Z_run C it_Lw_leaderOf 2 (f2 := (19, [some (.ref (D.1 0)), some (.int xa), some (.ref (D.1 44)), none], [.int (nI 0)])) rfl ?_
    exact Z_iret C q.e it_Lw_leaderOf rfl (Or.inl ⟨_, V2, P2, PH2, hO, rfl, rfl⟩) (by decide) (by decide)
  · have hX9 := hx X h2 sz2 hO
    simp only [List.mem_cons, List.not_mem_nil, or_false] at hX9
    rcases hX9 with rfl | rfl
    · refine Z_catch C htb (pre := []) (x := ⟨0, 9, 12, 13⟩) (suf := [⟨0, 9, 15, 56⟩]) rfl (fun z hz => by cases hz) (by decide) (by decide) kl_Lw_13 ca_IOOBE (fun q9 => ?_)
      refine Z_run C it_Lw_leaderOf 2 (f2 := (14, [some (.ref (D.1 0)), some (.int xa), some (.ref (D.1 44)), some (.ref q9)], [.int (nI 1)])) rfl ?_
      exact Z_iret C q.e it_Lw_leaderOf rfl (Or.inr ⟨_, 0, hO, rfl, rfl⟩) (by decide) (by decide)
    · refine Z_catch C htb (pre := [⟨0, 9, 12, 13⟩]) (x := ⟨0, 9, 15, 56⟩) (suf := []) rfl (fun z hz => by rw [List.mem_singleton.mp hz]; exact Or.inr ⟨by decide, X_IOOBE, kl_Lw_13, by decide⟩) (by decide) (by decide) kl_Lw_56 ca_NSE (fun q9 => ?_)
      refine Z_run C it_Lw_leaderOf 2 (f2 := (17, [some (.ref (D.1 0)), some (.int xa), some (.ref (D.1 44)), some (.ref q9)], [.int (nI 2)])) rfl ?_
      exact Z_iret C q.e it_Lw_leaderOf rfl (Or.inr ⟨_, 1, hO, rfl, rfl⟩) (by decide) (by decide)
set_option maxRecDepth 20000 in
theorem wr_Lw_knowing {E : zE} (hE : zEv E) {l : Launch} (hl : l.stackTraces = false) {D : zD} (hD : zDok E D) (V : Nat → Nat → Int32) (P : Nat → Nat → Value) (PH : aH) (xa : Int32) (xb : Int32) (sz : Nat) {O : zO} (hM : ∀ l : Launch, l.stackTraces = false → zM E l y_Xx_knowing [.code y_Xx_knowing c_Xx_knowing 3 (some .int)] rm_Xx_knowing [.ref (D.1 0), .int xa, .int xb] (HM D V P PH) sz O) (hr : okI D O) (hx : okX O [X_IOOBE]) : zM E l y_Lw_knowing [.codeWith y_Lw_knowing c_Lw_knowing 5 (some .int) hh_Lw_knowing] rm_Lw_knowing [.ref (D.1 0), .int xa, .int xb, .ref (D.1 44)] (HM D V P PH) sz (zWr D O [X_IOOBE] 44 cvI) := by
  refine zMX_of hE hl (by decide +kernel) [some (.ref (D.1 0)), some (.int xa), some (.int xb), some (.ref (D.1 44)), none] ⟨rfl, rfl, Nat.le_of_ble_eq_true rfl⟩ ?_
  intro G C q htb
  refine Z_run C it_Lw_knowing 5 (f2 := (5, [some (.ref (D.1 0)), some (.int xa), some (.int xb), some (.ref (D.1 44)), none], [.int xb, .int xa, .ref (D.1 0), .int (nI 0), .ref (D.1 44)])) rfl ?_
  refine Z_callV C it_Lw_knowing rfl p_Xx_knowing ml_Lw_67 [.int xa, .int xb] (hM _ C.l) rfl rfl (by rw [HM_at hD (show 0 < 53 by decide)]) rfl ⟨by decide, by decide, by decide, by decide⟩ (Nat.le_of_ble_eq_true rfl) rfl (fun v h2 sz2 hO => ?_) (fun X h2 sz2 hO => ?_)
  · obtain ⟨x, V2, P2, PH2, e1, e2⟩ := hr v h2 sz2 hO
    cases e1
    subst e2
    show Z E G (HM D V2 P2 PH2) sz2 2 12 (8, [some (.ref (D.1 0)), some (.int xa), some (.int xb), some (.ref (D.1 44)), none], [.int x, .int (nI 0), .ref (D.1 44)])
    refine Z_run C it_Lw_knowing 1 (f2 := (9, [some (.ref (D.1 0)), some (.int xa), some (.int xb), some (.ref (D.1 44)), none], [.long ((x).toInt64), .int (nI 0), .ref (D.1 44)])) rfl ?_
    refine Zm_astr C it_Lw_knowing hD 44 11 rfl (by first | decide | exact isB_k hb | omega) rfl (by decide) rfl (j := 0) (by omega) trivial rfl ?_
    refine Z_run C it_Lw_knowing 2 (f2 := (18, [some (.ref (D.1 0)), some (.int xa), some (.int xb), some (.ref (D.1 44)), none], [.int (nI 0)])) rfl ?_
    exact Z_iret C q.e it_Lw_knowing rfl (Or.inl ⟨_, V2, P2, PH2, hO, rfl, rfl⟩) (by decide) (by decide)
  · have hX9 := hx X h2 sz2 hO
    rw [List.mem_singleton] at hX9
    subst hX9
    refine Z_catch C htb (pre := []) (x := ⟨0, 10, 13, 13⟩) (suf := []) rfl (fun z hz => by cases hz) (by decide) (by decide) kl_Lw_13 ca_IOOBE (fun q9 => ?_)
    refine Z_run C it_Lw_knowing 2 (f2 := (16, [some (.ref (D.1 0)), some (.int xa), some (.int xb), some (.ref (D.1 44)), some (.ref q9)], [.int (nI 1)])) rfl ?_
    exact Z_iret C q.e it_Lw_knowing rfl (Or.inr ⟨_, 0, hO, rfl, rfl⟩) (by decide) (by decide)
set_option maxRecDepth 20000 in
theorem wr_Lw_reach {E : zE} (hE : zEv E) {l : Launch} (hl : l.stackTraces = false) {D : zD} (hD : zDok E D) (V : Nat → Nat → Int32) (P : Nat → Nat → Value) (PH : aH) (xa : Int32) (sz : Nat) {O : zO} (hM : ∀ l : Launch, l.stackTraces = false → zM E l y_Xx_reach [.code y_Xx_reach c_Xx_reach 2 (some .long)] rm_Xx_reach [.ref (D.1 0), .int xa] (HM D V P PH) sz O) (hr : okL D O) (hx : okX O [X_IOOBE, X_NSE]) : zM E l y_Lw_reach [.codeWith y_Lw_reach c_Lw_reach 4 (some .int) hh_Lw_reach] rm_Lw_reach [.ref (D.1 0), .int xa, .ref (D.1 44)] (HM D V P PH) sz (zWr D O [X_IOOBE, X_NSE] 44 cvN) := by
  refine zMX_of hE hl (by decide +kernel) [some (.ref (D.1 0)), some (.int xa), some (.ref (D.1 44)), none] ⟨rfl, rfl, Nat.le_of_ble_eq_true rfl⟩ ?_
  intro G C q htb
  refine Z_run C it_Lw_reach 4 (f2 := (4, [some (.ref (D.1 0)), some (.int xa), some (.ref (D.1 44)), none], [.int xa, .ref (D.1 0), .int (nI 0), .ref (D.1 44)])) rfl ?_
  refine Z_callV C it_Lw_reach rfl p_Xx_reach ml_Lw_70 [.int xa] (hM _ C.l) rfl rfl (by rw [HM_at hD (show 0 < 53 by decide)]) rfl ⟨by decide, by decide, by decide, by decide⟩ (Nat.le_of_ble_eq_true rfl) rfl (fun v h2 sz2 hO => ?_) (fun X h2 sz2 hO => ?_)
  · obtain ⟨x, V2, P2, PH2, e1, e2⟩ := hr v h2 sz2 hO
    cases e1
    subst e2
    show Z E G (HM D V2 P2 PH2) sz2 2 12 (7, [some (.ref (D.1 0)), some (.int xa), some (.ref (D.1 44)), none], [.long x, .int (nI 0), .ref (D.1 44)])
    refine Zm_astr C it_Lw_reach hD 44 11 rfl (by first | decide | exact isB_k hb | omega) rfl (by decide) rfl (j := 0) (by omega) trivial rfl ?_
    refine Z_run C it_Lw_reach 2 (f2 := (18, [some (.ref (D.1 0)), some (.int xa), some (.ref (D.1 44)), none], [.int (nI 0)])) rfl ?_
    exact Z_iret C q.e it_Lw_reach rfl (Or.inl ⟨_, V2, P2, PH2, hO, rfl, rfl⟩) (by decide) (by decide)
  · have hX9 := hx X h2 sz2 hO
    simp only [List.mem_cons, List.not_mem_nil, or_false] at hX9
    rcases hX9 with rfl | rfl
    · refine Z_catch C htb (pre := []) (x := ⟨0, 8, 11, 13⟩) (suf := [⟨0, 8, 14, 56⟩]) rfl (fun z hz => by cases hz) (by decide) (by decide) kl_Lw_13 ca_IOOBE (fun q9 => ?_)
      refine Z_run C it_Lw_reach 2 (f2 := (13, [some (.ref (D.1 0)), some (.int xa), some (.ref (D.1 44)), some (.ref q9)], [.int (nI 1)])) rfl ?_
      exact Z_iret C q.e it_Lw_reach rfl (Or.inr ⟨_, 0, hO, rfl, rfl⟩) (by decide) (by decide)
    · refine Z_catch C htb (pre := [⟨0, 8, 11, 13⟩]) (x := ⟨0, 8, 14, 56⟩) (suf := []) rfl (fun z hz => by rw [List.mem_singleton.mp hz]; exact Or.inr ⟨by decide, X_IOOBE, kl_Lw_13, by decide⟩) (by decide) (by decide) kl_Lw_56 ca_NSE (fun q9 => ?_)
      refine Z_run C it_Lw_reach 2 (f2 := (16, [some (.ref (D.1 0)), some (.int xa), some (.ref (D.1 44)), some (.ref q9)], [.int (nI 2)])) rfl ?_
      exact Z_iret C q.e it_Lw_reach rfl (Or.inr ⟨_, 1, hO, rfl, rfl⟩) (by decide) (by decide)
set_option maxRecDepth 20000 in
theorem wr_Lw_moveCount {E : zE} (hE : zEv E) {l : Launch} (hl : l.stackTraces = false) {D : zD} (hD : zDok E D) (V : Nat → Nat → Int32) (P : Nat → Nat → Value) (PH : aH) (xa : Int32) (sz : Nat) {O : zO} (hM : ∀ l : Launch, l.stackTraces = false → zM E l y_Xx_moveCount [.code y_Xx_moveCount c_Xx_moveCount 2 (some .int)] rm_Xx_moveCount [.ref (D.1 0), .int xa] (HM D V P PH) sz O) (hr : okI D O) (hx : okX O [X_IOOBE]) : zM E l y_Lw_moveCount [.codeWith y_Lw_moveCount c_Lw_moveCount 4 (some .int) hh_Lw_moveCount] rm_Lw_moveCount [.ref (D.1 0), .int xa, .ref (D.1 44)] (HM D V P PH) sz (zWr D O [X_IOOBE] 44 cvI) := by
  refine zMX_of hE hl (by decide +kernel) [some (.ref (D.1 0)), some (.int xa), some (.ref (D.1 44)), none] ⟨rfl, rfl, Nat.le_of_ble_eq_true rfl⟩ ?_
  intro G C q htb
  refine Z_run C it_Lw_moveCount 4 (f2 := (4, [some (.ref (D.1 0)), some (.int xa), some (.ref (D.1 44)), none], [.int xa, .ref (D.1 0), .int (nI 0), .ref (D.1 44)])) rfl ?_
  refine Z_callV C it_Lw_moveCount rfl p_Xx_moveCount ml_Lw_74 [.int xa] (hM _ C.l) rfl rfl (by rw [HM_at hD (show 0 < 53 by decide)]) rfl ⟨by decide, by decide, by decide, by decide⟩ (Nat.le_of_ble_eq_true rfl) rfl (fun v h2 sz2 hO => ?_) (fun X h2 sz2 hO => ?_)
  · obtain ⟨x, V2, P2, PH2, e1, e2⟩ := hr v h2 sz2 hO
    cases e1
    subst e2
    show Z E G (HM D V2 P2 PH2) sz2 1 6 (7, [some (.ref (D.1 0)), some (.int xa), some (.ref (D.1 44)), none], [.int x, .int (nI 0), .ref (D.1 44)])
    refine Z_run C it_Lw_moveCount 1 (f2 := (8, [some (.ref (D.1 0)), some (.int xa), some (.ref (D.1 44)), none], [.long ((x).toInt64), .int (nI 0), .ref (D.1 44)])) rfl ?_
    refine Zm_astr C it_Lw_moveCount hD 44 11 rfl (by first | decide | exact isB_k hb | omega) rfl (by decide) rfl (j := 0) (by omega) trivial rfl ?_
    refine Z_run C it_Lw_moveCount 2 (f2 := (16, [some (.ref (D.1 0)), some (.int xa), some (.ref (D.1 44)), none], [.int (nI 0)])) rfl ?_
    exact Z_iret C q.e it_Lw_moveCount rfl (Or.inl ⟨_, V2, P2, PH2, hO, rfl, rfl⟩) (by decide) (by decide)
  · have hX9 := hx X h2 sz2 hO
    rw [List.mem_singleton] at hX9
    subst hX9
    refine Z_catch C htb (pre := []) (x := ⟨0, 9, 12, 13⟩) (suf := []) rfl (fun z hz => by cases hz) (by decide) (by decide) kl_Lw_13 ca_IOOBE (fun q9 => ?_)
    refine Z_run C it_Lw_moveCount 2 (f2 := (14, [some (.ref (D.1 0)), some (.int xa), some (.ref (D.1 44)), some (.ref q9)], [.int (nI 1)])) rfl ?_
    exact Z_iret C q.e it_Lw_moveCount rfl (Or.inr ⟨_, 0, hO, rfl, rfl⟩) (by decide) (by decide)
set_option maxRecDepth 20000 in
theorem wr_Lw_guards {E : zE} (hE : zEv E) {l : Launch} (hl : l.stackTraces = false) {D : zD} (hD : zDok E D) (V : Nat → Nat → Int32) (P : Nat → Nat → Value) (PH : aH) (xa : Int32) (xb : Int32) (sz : Nat) {O : zO} (hM : ∀ l : Launch, l.stackTraces = false → zM E l y_Xx_guards [.code y_Xx_guards c_Xx_guards 3 (some .int)] rm_Xx_guards [.ref (D.1 0), .int xa, .int xb] (HM D V P PH) sz O) (hr : okI D O) (hx : okX O [X_IOOBE]) : zM E l y_Lw_guards [.codeWith y_Lw_guards c_Lw_guards 5 (some .int) hh_Lw_guards] rm_Lw_guards [.ref (D.1 0), .int xa, .int xb, .ref (D.1 44)] (HM D V P PH) sz (zWr D O [X_IOOBE] 44 cvI) := by
  refine zMX_of hE hl (by decide +kernel) [some (.ref (D.1 0)), some (.int xa), some (.int xb), some (.ref (D.1 44)), none] ⟨rfl, rfl, Nat.le_of_ble_eq_true rfl⟩ ?_
  intro G C q htb
  refine Z_run C it_Lw_guards 5 (f2 := (5, [some (.ref (D.1 0)), some (.int xa), some (.int xb), some (.ref (D.1 44)), none], [.int xb, .int xa, .ref (D.1 0), .int (nI 0), .ref (D.1 44)])) rfl ?_
  refine Z_callV C it_Lw_guards rfl p_Xx_guards ml_Lw_77 [.int xa, .int xb] (hM _ C.l) rfl rfl (by rw [HM_at hD (show 0 < 53 by decide)]) rfl ⟨by decide, by decide, by decide, by decide⟩ (Nat.le_of_ble_eq_true rfl) rfl (fun v h2 sz2 hO => ?_) (fun X h2 sz2 hO => ?_)
  · obtain ⟨x, V2, P2, PH2, e1, e2⟩ := hr v h2 sz2 hO
    cases e1
    subst e2
    show Z E G (HM D V2 P2 PH2) sz2 2 12 (8, [some (.ref (D.1 0)), some (.int xa), some (.int xb), some (.ref (D.1 44)), none], [.int x, .int (nI 0), .ref (D.1 44)])
    refine Z_run C it_Lw_guards 1 (f2 := (9, [some (.ref (D.1 0)), some (.int xa), some (.int xb), some (.ref (D.1 44)), none], [.long ((x).toInt64), .int (nI 0), .ref (D.1 44)])) rfl ?_
    refine Zm_astr C it_Lw_guards hD 44 11 rfl (by first | decide | exact isB_k hb | omega) rfl (by decide) rfl (j := 0) (by omega) trivial rfl ?_
    refine Z_run C it_Lw_guards 2 (f2 := (18, [some (.ref (D.1 0)), some (.int xa), some (.int xb), some (.ref (D.1 44)), none], [.int (nI 0)])) rfl ?_
    exact Z_iret C q.e it_Lw_guards rfl (Or.inl ⟨_, V2, P2, PH2, hO, rfl, rfl⟩) (by decide) (by decide)
  · have hX9 := hx X h2 sz2 hO
    rw [List.mem_singleton] at hX9
    subst hX9
    refine Z_catch C htb (pre := []) (x := ⟨0, 10, 13, 13⟩) (suf := []) rfl (fun z hz => by cases hz) (by decide) (by decide) kl_Lw_13 ca_IOOBE (fun q9 => ?_)
    refine Z_run C it_Lw_guards 2 (f2 := (16, [some (.ref (D.1 0)), some (.int xa), some (.int xb), some (.ref (D.1 44)), some (.ref q9)], [.int (nI 1)])) rfl ?_
    exact Z_iret C q.e it_Lw_guards rfl (Or.inr ⟨_, 0, hO, rfl, rfl⟩) (by decide) (by decide)
set_option maxRecDepth 20000 in
theorem wr_Lw_guardsByLooking {E : zE} (hE : zEv E) {l : Launch} (hl : l.stackTraces = false) {D : zD} (hD : zDok E D) (V : Nat → Nat → Int32) (P : Nat → Nat → Value) (PH : aH) (xa : Int32) (xb : Int32) (sz : Nat) {O : zO} (hM : ∀ l : Launch, l.stackTraces = false → zM E l y_Xx_guardsByLooking [.code y_Xx_guardsByLooking c_Xx_guardsByLooking 3 (some .int)] rm_Xx_guardsByLooking [.ref (D.1 0), .int xa, .int xb] (HM D V P PH) sz O) (hr : okI D O) (hx : okX O [X_IOOBE]) : zM E l y_Lw_guardsByLooking [.codeWith y_Lw_guardsByLooking c_Lw_guardsByLooking 5 (some .int) hh_Lw_guardsByLooking] rm_Lw_guardsByLooking [.ref (D.1 0), .int xa, .int xb, .ref (D.1 44)] (HM D V P PH) sz (zWr D O [X_IOOBE] 44 cvI) := by
  refine zMX_of hE hl (by decide +kernel) [some (.ref (D.1 0)), some (.int xa), some (.int xb), some (.ref (D.1 44)), none] ⟨rfl, rfl, Nat.le_of_ble_eq_true rfl⟩ ?_
  intro G C q htb
  refine Z_run C it_Lw_guardsByLooking 5 (f2 := (5, [some (.ref (D.1 0)), some (.int xa), some (.int xb), some (.ref (D.1 44)), none], [.int xb, .int xa, .ref (D.1 0), .int (nI 0), .ref (D.1 44)])) rfl ?_
  refine Z_callV C it_Lw_guardsByLooking rfl p_Xx_guardsByLooking ml_Lw_80 [.int xa, .int xb] (hM _ C.l) rfl rfl (by rw [HM_at hD (show 0 < 53 by decide)]) rfl ⟨by decide, by decide, by decide, by decide⟩ (Nat.le_of_ble_eq_true rfl) rfl (fun v h2 sz2 hO => ?_) (fun X h2 sz2 hO => ?_)
  · obtain ⟨x, V2, P2, PH2, e1, e2⟩ := hr v h2 sz2 hO
    cases e1
    subst e2
    show Z E G (HM D V2 P2 PH2) sz2 2 12 (8, [some (.ref (D.1 0)), some (.int xa), some (.int xb), some (.ref (D.1 44)), none], [.int x, .int (nI 0), .ref (D.1 44)])
    refine Z_run C it_Lw_guardsByLooking 1 (f2 := (9, [some (.ref (D.1 0)), some (.int xa), some (.int xb), some (.ref (D.1 44)), none], [.long ((x).toInt64), .int (nI 0), .ref (D.1 44)])) rfl ?_
    refine Zm_astr C it_Lw_guardsByLooking hD 44 11 rfl (by first | decide | exact isB_k hb | omega) rfl (by decide) rfl (j := 0) (by omega) trivial rfl ?_
    refine Z_run C it_Lw_guardsByLooking 2 (f2 := (18, [some (.ref (D.1 0)), some (.int xa), some (.int xb), some (.ref (D.1 44)), none], [.int (nI 0)])) rfl ?_
    exact Z_iret C q.e it_Lw_guardsByLooking rfl (Or.inl ⟨_, V2, P2, PH2, hO, rfl, rfl⟩) (by decide) (by decide)
  · have hX9 := hx X h2 sz2 hO
    rw [List.mem_singleton] at hX9
    subst hX9
    refine Z_catch C htb (pre := []) (x := ⟨0, 10, 13, 13⟩) (suf := []) rfl (fun z hz => by cases hz) (by decide) (by decide) kl_Lw_13 ca_IOOBE (fun q9 => ?_)
    refine Z_run C it_Lw_guardsByLooking 2 (f2 := (16, [some (.ref (D.1 0)), some (.int xa), some (.int xb), some (.ref (D.1 44)), some (.ref q9)], [.int (nI 1)])) rfl ?_
    exact Z_iret C q.e it_Lw_guardsByLooking rfl (Or.inr ⟨_, 0, hO, rfl, rfl⟩) (by decide) (by decide)
set_option maxRecDepth 20000 in
theorem wr_Lw_guarded {E : zE} (hE : zEv E) {l : Launch} (hl : l.stackTraces = false) {D : zD} (hD : zDok E D) (V : Nat → Nat → Int32) (P : Nat → Nat → Value) (PH : aH) (xa : Int32) (sz : Nat) {O : zO} (hM : ∀ l : Launch, l.stackTraces = false → zM E l y_Xx_guarded [.code y_Xx_guarded c_Xx_guarded 2 (some .long)] rm_Xx_guarded [.ref (D.1 0), .int xa] (HM D V P PH) sz O) (hr : okL D O) (hx : okX O [X_IOOBE]) : zM E l y_Lw_guarded [.codeWith y_Lw_guarded c_Lw_guarded 4 (some .int) hh_Lw_guarded] rm_Lw_guarded [.ref (D.1 0), .int xa, .ref (D.1 44)] (HM D V P PH) sz (zWr D O [X_IOOBE] 44 cvN) := by
  refine zMX_of hE hl (by decide +kernel) [some (.ref (D.1 0)), some (.int xa), some (.ref (D.1 44)), none] ⟨rfl, rfl, Nat.le_of_ble_eq_true rfl⟩ ?_
  intro G C q htb
  refine Z_run C it_Lw_guarded 4 (f2 := (4, [some (.ref (D.1 0)), some (.int xa), some (.ref (D.1 44)), none], [.int xa, .ref (D.1 0), .int (nI 0), .ref (D.1 44)])) rfl ?_
  refine Z_callV C it_Lw_guarded rfl p_Xx_guarded ml_Lw_83 [.int xa] (hM _ C.l) rfl rfl (by rw [HM_at hD (show 0 < 53 by decide)]) rfl ⟨by decide, by decide, by decide, by decide⟩ (Nat.le_of_ble_eq_true rfl) rfl (fun v h2 sz2 hO => ?_) (fun X h2 sz2 hO => ?_)
  · obtain ⟨x, V2, P2, PH2, e1, e2⟩ := hr v h2 sz2 hO
    cases e1
    subst e2
    show Z E G (HM D V2 P2 PH2) sz2 1 6 (7, [some (.ref (D.1 0)), some (.int xa), some (.ref (D.1 44)), none], [.long x, .int (nI 0), .ref (D.1 44)])
    refine Zm_astr C it_Lw_guarded hD 44 11 rfl (by first | decide | exact isB_k hb | omega) rfl (by decide) rfl (j := 0) (by omega) trivial rfl ?_
    refine Z_run C it_Lw_guarded 2 (f2 := (15, [some (.ref (D.1 0)), some (.int xa), some (.ref (D.1 44)), none], [.int (nI 0)])) rfl ?_
    exact Z_iret C q.e it_Lw_guarded rfl (Or.inl ⟨_, V2, P2, PH2, hO, rfl, rfl⟩) (by decide) (by decide)
  · have hX9 := hx X h2 sz2 hO
    rw [List.mem_singleton] at hX9
    subst hX9
    refine Z_catch C htb (pre := []) (x := ⟨0, 8, 11, 13⟩) (suf := []) rfl (fun z hz => by cases hz) (by decide) (by decide) kl_Lw_13 ca_IOOBE (fun q9 => ?_)
    refine Z_run C it_Lw_guarded 2 (f2 := (13, [some (.ref (D.1 0)), some (.int xa), some (.ref (D.1 44)), some (.ref q9)], [.int (nI 1)])) rfl ?_
    exact Z_iret C q.e it_Lw_guarded rfl (Or.inr ⟨_, 0, hO, rfl, rfl⟩) (by decide) (by decide)
set_option maxRecDepth 20000 in
theorem wr_Lw_exchange {E : zE} (hE : zEv E) {l : Launch} (hl : l.stackTraces = false) {D : zD} (hD : zDok E D) (V : Nat → Nat → Int32) (P : Nat → Nat → Value) (PH : aH) (xa : Int32) (sz : Nat) {O : zO} (hM : ∀ l : Launch, l.stackTraces = false → zM E l y_Xx_exchange [.code y_Xx_exchange c_Xx_exchange 2 (some .int)] rm_Xx_exchange [.ref (D.1 0), .int xa] (HM D V P PH) sz O) (hr : okI D O) (hx : okX O [X_IOOBE, X_NSE]) : zM E l y_Lw_exchange [.codeWith y_Lw_exchange c_Lw_exchange 4 (some .int) hh_Lw_exchange] rm_Lw_exchange [.ref (D.1 0), .int xa, .ref (D.1 44)] (HM D V P PH) sz (zWr D O [X_IOOBE, X_NSE] 44 cvI) := by
  refine zMX_of hE hl (by decide +kernel) [some (.ref (D.1 0)), some (.int xa), some (.ref (D.1 44)), none] ⟨rfl, rfl, Nat.le_of_ble_eq_true rfl⟩ ?_
  intro G C q htb
  refine Z_run C it_Lw_exchange 4 (f2 := (4, [some (.ref (D.1 0)), some (.int xa), some (.ref (D.1 44)), none], [.int xa, .ref (D.1 0), .int (nI 0), .ref (D.1 44)])) rfl ?_
  refine Z_callV C it_Lw_exchange rfl p_Xx_exchange ml_Lw_86 [.int xa] (hM _ C.l) rfl rfl (by rw [HM_at hD (show 0 < 53 by decide)]) rfl ⟨by decide, by decide, by decide, by decide⟩ (Nat.le_of_ble_eq_true rfl) rfl (fun v h2 sz2 hO => ?_) (fun X h2 sz2 hO => ?_)
  · obtain ⟨x, V2, P2, PH2, e1, e2⟩ := hr v h2 sz2 hO
    cases e1
    subst e2
    show Z E G (HM D V2 P2 PH2) sz2 2 12 (7, [some (.ref (D.1 0)), some (.int xa), some (.ref (D.1 44)), none], [.int x, .int (nI 0), .ref (D.1 44)])
    refine Z_run C it_Lw_exchange 1 (f2 := (8, [some (.ref (D.1 0)), some (.int xa), some (.ref (D.1 44)), none], [.long ((x).toInt64), .int (nI 0), .ref (D.1 44)])) rfl ?_
    refine Zm_astr C it_Lw_exchange hD 44 11 rfl (by first | decide | exact isB_k hb | omega) rfl (by decide) rfl (j := 0) (by omega) trivial rfl ?_
    refine Z_run C it_Lw_exchange 2 (f2 := (19, [some (.ref (D.1 0)), some (.int xa), some (.ref (D.1 44)), none], [.int (nI 0)])) rfl ?_
    exact Z_iret C q.e it_Lw_exchange rfl (Or.inl ⟨_, V2, P2, PH2, hO, rfl, rfl⟩) (by decide) (by decide)
  · have hX9 := hx X h2 sz2 hO
    simp only [List.mem_cons, List.not_mem_nil, or_false] at hX9
    rcases hX9 with rfl | rfl
    · refine Z_catch C htb (pre := []) (x := ⟨0, 9, 12, 13⟩) (suf := [⟨0, 9, 15, 56⟩]) rfl (fun z hz => by cases hz) (by decide) (by decide) kl_Lw_13 ca_IOOBE (fun q9 => ?_)
      refine Z_run C it_Lw_exchange 2 (f2 := (14, [some (.ref (D.1 0)), some (.int xa), some (.ref (D.1 44)), some (.ref q9)], [.int (nI 1)])) rfl ?_
      exact Z_iret C q.e it_Lw_exchange rfl (Or.inr ⟨_, 0, hO, rfl, rfl⟩) (by decide) (by decide)
    · refine Z_catch C htb (pre := [⟨0, 9, 12, 13⟩]) (x := ⟨0, 9, 15, 56⟩) (suf := []) rfl (fun z hz => by rw [List.mem_singleton.mp hz]; exact Or.inr ⟨by decide, X_IOOBE, kl_Lw_13, by decide⟩) (by decide) (by decide) kl_Lw_56 ca_NSE (fun q9 => ?_)
      refine Z_run C it_Lw_exchange 2 (f2 := (17, [some (.ref (D.1 0)), some (.int xa), some (.ref (D.1 44)), some (.ref q9)], [.int (nI 2)])) rfl ?_
      exact Z_iret C q.e it_Lw_exchange rfl (Or.inr ⟨_, 1, hO, rfl, rfl⟩) (by decide) (by decide)
set_option maxRecDepth 20000 in
theorem wr_Lw_weakest {E : zE} (hE : zEv E) {l : Launch} (hl : l.stackTraces = false) {D : zD} (hD : zDok E D) (V : Nat → Nat → Int32) (P : Nat → Nat → Value) (PH : aH) (xa : Int32) (sz : Nat) {O : zO} (hM : ∀ l : Launch, l.stackTraces = false → zM E l y_Xx_weakest [.code y_Xx_weakest c_Xx_weakest 6 (some .int)] rm_Xx_weakest [.ref (D.1 0), .int xa] (HM D V P PH) sz O) (hr : okI D O) (hx : okX O [X_IOOBE, X_NSE]) : zM E l y_Lw_weakest [.codeWith y_Lw_weakest c_Lw_weakest 4 (some .int) hh_Lw_weakest] rm_Lw_weakest [.ref (D.1 0), .int xa, .ref (D.1 44)] (HM D V P PH) sz (zWr D O [X_IOOBE, X_NSE] 44 cvI) := by
  refine zMX_of hE hl (by decide +kernel) [some (.ref (D.1 0)), some (.int xa), some (.ref (D.1 44)), none] ⟨rfl, rfl, Nat.le_of_ble_eq_true rfl⟩ ?_
  intro G C q htb
  refine Z_run C it_Lw_weakest 4 (f2 := (4, [some (.ref (D.1 0)), some (.int xa), some (.ref (D.1 44)), none], [.int xa, .ref (D.1 0), .int (nI 0), .ref (D.1 44)])) rfl ?_
  refine Z_callV C it_Lw_weakest rfl p_Xx_weakest ml_Lw_89 [.int xa] (hM _ C.l) rfl rfl (by rw [HM_at hD (show 0 < 53 by decide)]) rfl ⟨by decide, by decide, by decide, by decide⟩ (Nat.le_of_ble_eq_true rfl) rfl (fun v h2 sz2 hO => ?_) (fun X h2 sz2 hO => ?_)
  · obtain ⟨x, V2, P2, PH2, e1, e2⟩ := hr v h2 sz2 hO
    cases e1
    subst e2
    show Z E G (HM D V2 P2 PH2) sz2 2 12 (7, [some (.ref (D.1 0)), some (.int xa), some (.ref (D.1 44)), none], [.int x, .int (nI 0), .ref (D.1 44)])
    refine Z_run C it_Lw_weakest 1 (f2 := (8, [some (.ref (D.1 0)), some (.int xa), some (.ref (D.1 44)), none], [.long ((x).toInt64), .int (nI 0), .ref (D.1 44)])) rfl ?_
    refine Zm_astr C it_Lw_weakest hD 44 11 rfl (by first | decide | exact isB_k hb | omega) rfl (by decide) rfl (j := 0) (by omega) trivial rfl ?_
    refine Z_run C it_Lw_weakest 2 (f2 := (19, [some (.ref (D.1 0)), some (.int xa), some (.ref (D.1 44)), none], [.int (nI 0)])) rfl ?_
    exact Z_iret C q.e it_Lw_weakest rfl (Or.inl ⟨_, V2, P2, PH2, hO, rfl, rfl⟩) (by decide) (by decide)
  · have hX9 := hx X h2 sz2 hO
    simp only [List.mem_cons, List.not_mem_nil, or_false] at hX9
    rcases hX9 with rfl | rfl
    · refine Z_catch C htb (pre := []) (x := ⟨0, 9, 12, 13⟩) (suf := [⟨0, 9, 15, 56⟩]) rfl (fun z hz => by cases hz) (by decide) (by decide) kl_Lw_13 ca_IOOBE (fun q9 => ?_)
      refine Z_run C it_Lw_weakest 2 (f2 := (14, [some (.ref (D.1 0)), some (.int xa), some (.ref (D.1 44)), some (.ref q9)], [.int (nI 1)])) rfl ?_
      exact Z_iret C q.e it_Lw_weakest rfl (Or.inr ⟨_, 0, hO, rfl, rfl⟩) (by decide) (by decide)
    · refine Z_catch C htb (pre := [⟨0, 9, 12, 13⟩]) (x := ⟨0, 9, 15, 56⟩) (suf := []) rfl (fun z hz => by rw [List.mem_singleton.mp hz]; exact Or.inr ⟨by decide, X_IOOBE, kl_Lw_13, by decide⟩) (by decide) (by decide) kl_Lw_56 ca_NSE (fun q9 => ?_)
      refine Z_run C it_Lw_weakest 2 (f2 := (17, [some (.ref (D.1 0)), some (.int xa), some (.ref (D.1 44)), some (.ref q9)], [.int (nI 2)])) rfl ?_
      exact Z_iret C q.e it_Lw_weakest rfl (Or.inr ⟨_, 1, hO, rfl, rfl⟩) (by decide) (by decide)
set_option maxRecDepth 20000 in
theorem wr_Lw_winner {E : zE} (hE : zEv E) {l : Launch} (hl : l.stackTraces = false) {D : zD} (hD : zDok E D) (V : Nat → Nat → Int32) (P : Nat → Nat → Value) (PH : aH) (sz : Nat) {O : zO} (hM : ∀ l : Launch, l.stackTraces = false → zM E l y_Xx_winner [.code y_Xx_winner c_Xx_winner 1 (some .int)] rm_Xx_winner [.ref (D.1 0)] (HM D V P PH) sz O) (hr : okI D O) (hx : okX O [X_NSE]) : zM E l y_Lw_winner [.codeWith y_Lw_winner c_Lw_winner 3 (some .int) hh_Lw_winner] rm_Lw_winner [.ref (D.1 0), .ref (D.1 44)] (HM D V P PH) sz (zWr D O [X_NSE] 44 cvI) := by
  refine zMX_of hE hl (by decide +kernel) [some (.ref (D.1 0)), some (.ref (D.1 44)), none] ⟨rfl, rfl, Nat.le_of_ble_eq_true rfl⟩ ?_
  intro G C q htb
  refine Z_run C it_Lw_winner 3 (f2 := (3, [some (.ref (D.1 0)), some (.ref (D.1 44)), none], [.ref (D.1 0), .int (nI 0), .ref (D.1 44)])) rfl ?_
  refine Z_callV C it_Lw_winner rfl p_Xx_winner ml_Lw_92 [] (hM _ C.l) rfl rfl (by rw [HM_at hD (show 0 < 53 by decide)]) rfl ⟨by decide, by decide, by decide, by decide⟩ (Nat.le_of_ble_eq_true rfl) rfl (fun v h2 sz2 hO => ?_) (fun X h2 sz2 hO => ?_)
  · obtain ⟨x, V2, P2, PH2, e1, e2⟩ := hr v h2 sz2 hO
    cases e1
    subst e2
    show Z E G (HM D V2 P2 PH2) sz2 1 6 (6, [some (.ref (D.1 0)), some (.ref (D.1 44)), none], [.int x, .int (nI 0), .ref (D.1 44)])
    refine Z_run C it_Lw_winner 1 (f2 := (7, [some (.ref (D.1 0)), some (.ref (D.1 44)), none], [.long ((x).toInt64), .int (nI 0), .ref (D.1 44)])) rfl ?_
    refine Zm_astr C it_Lw_winner hD 44 11 rfl (by first | decide | exact isB_k hb | omega) rfl (by decide) rfl (j := 0) (by omega) trivial rfl ?_
    refine Z_run C it_Lw_winner 2 (f2 := (15, [some (.ref (D.1 0)), some (.ref (D.1 44)), none], [.int (nI 0)])) rfl ?_
    exact Z_iret C q.e it_Lw_winner rfl (Or.inl ⟨_, V2, P2, PH2, hO, rfl, rfl⟩) (by decide) (by decide)
  · have hX9 := hx X h2 sz2 hO
    rw [List.mem_singleton] at hX9
    subst hX9
    refine Z_catch C htb (pre := []) (x := ⟨0, 8, 11, 56⟩) (suf := []) rfl (fun z hz => by cases hz) (by decide) (by decide) kl_Lw_56 ca_NSE (fun q9 => ?_)
    refine Z_run C it_Lw_winner 2 (f2 := (13, [some (.ref (D.1 0)), some (.ref (D.1 44)), some (.ref q9)], [.int (nI 1)])) rfl ?_
    exact Z_iret C q.e it_Lw_winner rfl (Or.inr ⟨_, 0, hO, rfl, rfl⟩) (by decide) (by decide)
set_option maxRecDepth 20000 in
theorem wr_Lw_worth {E : zE} (hE : zEv E) {l : Launch} (hl : l.stackTraces = false) {D : zD} (hD : zDok E D) (V : Nat → Nat → Int32) (P : Nat → Nat → Value) (PH : aH) (xa : Int32) (sz : Nat) {O : zO} (hM : ∀ l : Launch, l.stackTraces = false → zM E l y_Xx_worth [.code y_Xx_worth c_Xx_worth 2 (some .int)] rm_Xx_worth [.ref (D.1 0), .int xa] (HM D V P PH) sz O) (hr : okI D O) (hx : okX O [X_IOOBE]) : zM E l y_Lw_worth [.codeWith y_Lw_worth c_Lw_worth 4 (some .int) hh_Lw_worth] rm_Lw_worth [.ref (D.1 0), .int xa, .ref (D.1 44)] (HM D V P PH) sz (zWr D O [X_IOOBE] 44 cvI) := by
  refine zMX_of hE hl (by decide +kernel) [some (.ref (D.1 0)), some (.int xa), some (.ref (D.1 44)), none] ⟨rfl, rfl, Nat.le_of_ble_eq_true rfl⟩ ?_
  intro G C q htb
  refine Z_run C it_Lw_worth 4 (f2 := (4, [some (.ref (D.1 0)), some (.int xa), some (.ref (D.1 44)), none], [.int xa, .ref (D.1 0), .int (nI 0), .ref (D.1 44)])) rfl ?_
  refine Z_callV C it_Lw_worth rfl p_Xx_worth ml_Lw_95 [.int xa] (hM _ C.l) rfl rfl (by rw [HM_at hD (show 0 < 53 by decide)]) rfl ⟨by decide, by decide, by decide, by decide⟩ (Nat.le_of_ble_eq_true rfl) rfl (fun v h2 sz2 hO => ?_) (fun X h2 sz2 hO => ?_)
  · obtain ⟨x, V2, P2, PH2, e1, e2⟩ := hr v h2 sz2 hO
    cases e1
    subst e2
    show Z E G (HM D V2 P2 PH2) sz2 1 6 (7, [some (.ref (D.1 0)), some (.int xa), some (.ref (D.1 44)), none], [.int x, .int (nI 0), .ref (D.1 44)])
    refine Z_run C it_Lw_worth 1 (f2 := (8, [some (.ref (D.1 0)), some (.int xa), some (.ref (D.1 44)), none], [.long ((x).toInt64), .int (nI 0), .ref (D.1 44)])) rfl ?_
    refine Zm_astr C it_Lw_worth hD 44 11 rfl (by first | decide | exact isB_k hb | omega) rfl (by decide) rfl (j := 0) (by omega) trivial rfl ?_
    refine Z_run C it_Lw_worth 2 (f2 := (16, [some (.ref (D.1 0)), some (.int xa), some (.ref (D.1 44)), none], [.int (nI 0)])) rfl ?_
    exact Z_iret C q.e it_Lw_worth rfl (Or.inl ⟨_, V2, P2, PH2, hO, rfl, rfl⟩) (by decide) (by decide)
  · have hX9 := hx X h2 sz2 hO
    rw [List.mem_singleton] at hX9
    subst hX9
    refine Z_catch C htb (pre := []) (x := ⟨0, 9, 12, 13⟩) (suf := []) rfl (fun z hz => by cases hz) (by decide) (by decide) kl_Lw_13 ca_IOOBE (fun q9 => ?_)
    refine Z_run C it_Lw_worth 2 (f2 := (14, [some (.ref (D.1 0)), some (.int xa), some (.ref (D.1 44)), some (.ref q9)], [.int (nI 1)])) rfl ?_
    exact Z_iret C q.e it_Lw_worth rfl (Or.inr ⟨_, 0, hO, rfl, rfl⟩) (by decide) (by decide)
set_option maxRecDepth 20000 in
theorem wr_Lw_worthByAccount {E : zE} (hE : zEv E) {l : Launch} (hl : l.stackTraces = false) {D : zD} (hD : zDok E D) (V : Nat → Nat → Int32) (P : Nat → Nat → Value) (PH : aH) (xa : Int32) (sz : Nat) {O : zO} (hM : ∀ l : Launch, l.stackTraces = false → zM E l y_Xx_worthByAccount [.code y_Xx_worthByAccount c_Xx_worthByAccount 2 (some .int)] rm_Xx_worthByAccount [.ref (D.1 0), .int xa] (HM D V P PH) sz O) (hr : okI D O) (hx : okX O [X_IOOBE]) : zM E l y_Lw_worthByAccount [.codeWith y_Lw_worthByAccount c_Lw_worthByAccount 4 (some .int) hh_Lw_worthByAccount] rm_Lw_worthByAccount [.ref (D.1 0), .int xa, .ref (D.1 44)] (HM D V P PH) sz (zWr D O [X_IOOBE] 44 cvI) := by
  refine zMX_of hE hl (by decide +kernel) [some (.ref (D.1 0)), some (.int xa), some (.ref (D.1 44)), none] ⟨rfl, rfl, Nat.le_of_ble_eq_true rfl⟩ ?_
  intro G C q htb
  refine Z_run C it_Lw_worthByAccount 4 (f2 := (4, [some (.ref (D.1 0)), some (.int xa), some (.ref (D.1 44)), none], [.int xa, .ref (D.1 0), .int (nI 0), .ref (D.1 44)])) rfl ?_
  refine Z_callV C it_Lw_worthByAccount rfl p_Xx_worthByAccount ml_Lw_98 [.int xa] (hM _ C.l) rfl rfl (by rw [HM_at hD (show 0 < 53 by decide)]) rfl ⟨by decide, by decide, by decide, by decide⟩ (Nat.le_of_ble_eq_true rfl) rfl (fun v h2 sz2 hO => ?_) (fun X h2 sz2 hO => ?_)
  · obtain ⟨x, V2, P2, PH2, e1, e2⟩ := hr v h2 sz2 hO
    cases e1
    subst e2
    show Z E G (HM D V2 P2 PH2) sz2 1 6 (7, [some (.ref (D.1 0)), some (.int xa), some (.ref (D.1 44)), none], [.int x, .int (nI 0), .ref (D.1 44)])
    refine Z_run C it_Lw_worthByAccount 1 (f2 := (8, [some (.ref (D.1 0)), some (.int xa), some (.ref (D.1 44)), none], [.long ((x).toInt64), .int (nI 0), .ref (D.1 44)])) rfl ?_
    refine Zm_astr C it_Lw_worthByAccount hD 44 11 rfl (by first | decide | exact isB_k hb | omega) rfl (by decide) rfl (j := 0) (by omega) trivial rfl ?_
    refine Z_run C it_Lw_worthByAccount 2 (f2 := (16, [some (.ref (D.1 0)), some (.int xa), some (.ref (D.1 44)), none], [.int (nI 0)])) rfl ?_
    exact Z_iret C q.e it_Lw_worthByAccount rfl (Or.inl ⟨_, V2, P2, PH2, hO, rfl, rfl⟩) (by decide) (by decide)
  · have hX9 := hx X h2 sz2 hO
    rw [List.mem_singleton] at hX9
    subst hX9
    refine Z_catch C htb (pre := []) (x := ⟨0, 9, 12, 13⟩) (suf := []) rfl (fun z hz => by cases hz) (by decide) (by decide) kl_Lw_13 ca_IOOBE (fun q9 => ?_)
    refine Z_run C it_Lw_worthByAccount 2 (f2 := (14, [some (.ref (D.1 0)), some (.int xa), some (.ref (D.1 44)), some (.ref q9)], [.int (nI 1)])) rfl ?_
    exact Z_iret C q.e it_Lw_worthByAccount rfl (Or.inr ⟨_, 0, hO, rfl, rfl⟩) (by decide) (by decide)
set_option maxRecDepth 20000 in
theorem wr_Lw_captured {E : zE} (hE : zEv E) {l : Launch} (hl : l.stackTraces = false) {D : zD} (hD : zDok E D) (V : Nat → Nat → Int32) (P : Nat → Nat → Value) (PH : aH) (xa : Int32) (sz : Nat) {O : zO} (hM : ∀ l : Launch, l.stackTraces = false → zM E l y_Xx_captured [.code y_Xx_captured c_Xx_captured 2 (some .int)] rm_Xx_captured [.ref (D.1 0), .int xa] (HM D V P PH) sz O) (hr : okI D O) (hx : okX O [X_IOOBE]) : zM E l y_Lw_captured [.codeWith y_Lw_captured c_Lw_captured 4 (some .int) hh_Lw_captured] rm_Lw_captured [.ref (D.1 0), .int xa, .ref (D.1 44)] (HM D V P PH) sz (zWr D O [X_IOOBE] 44 cvI) := by
  refine zMX_of hE hl (by decide +kernel) [some (.ref (D.1 0)), some (.int xa), some (.ref (D.1 44)), none] ⟨rfl, rfl, Nat.le_of_ble_eq_true rfl⟩ ?_
  intro G C q htb
  refine Z_run C it_Lw_captured 4 (f2 := (4, [some (.ref (D.1 0)), some (.int xa), some (.ref (D.1 44)), none], [.int xa, .ref (D.1 0), .int (nI 0), .ref (D.1 44)])) rfl ?_
  refine Z_callV C it_Lw_captured rfl p_Xx_captured ml_Lw_101 [.int xa] (hM _ C.l) rfl rfl (by rw [HM_at hD (show 0 < 53 by decide)]) rfl ⟨by decide, by decide, by decide, by decide⟩ (Nat.le_of_ble_eq_true rfl) rfl (fun v h2 sz2 hO => ?_) (fun X h2 sz2 hO => ?_)
  · obtain ⟨x, V2, P2, PH2, e1, e2⟩ := hr v h2 sz2 hO
    cases e1
    subst e2
    show Z E G (HM D V2 P2 PH2) sz2 1 6 (7, [some (.ref (D.1 0)), some (.int xa), some (.ref (D.1 44)), none], [.int x, .int (nI 0), .ref (D.1 44)])
    refine Z_run C it_Lw_captured 1 (f2 := (8, [some (.ref (D.1 0)), some (.int xa), some (.ref (D.1 44)), none], [.long ((x).toInt64), .int (nI 0), .ref (D.1 44)])) rfl ?_
    refine Zm_astr C it_Lw_captured hD 44 11 rfl (by first | decide | exact isB_k hb | omega) rfl (by decide) rfl (j := 0) (by omega) trivial rfl ?_
    refine Z_run C it_Lw_captured 2 (f2 := (16, [some (.ref (D.1 0)), some (.int xa), some (.ref (D.1 44)), none], [.int (nI 0)])) rfl ?_
    exact Z_iret C q.e it_Lw_captured rfl (Or.inl ⟨_, V2, P2, PH2, hO, rfl, rfl⟩) (by decide) (by decide)
  · have hX9 := hx X h2 sz2 hO
    rw [List.mem_singleton] at hX9
    subst hX9
    refine Z_catch C htb (pre := []) (x := ⟨0, 9, 12, 13⟩) (suf := []) rfl (fun z hz => by cases hz) (by decide) (by decide) kl_Lw_13 ca_IOOBE (fun q9 => ?_)
    refine Z_run C it_Lw_captured 2 (f2 := (14, [some (.ref (D.1 0)), some (.int xa), some (.ref (D.1 44)), some (.ref q9)], [.int (nI 1)])) rfl ?_
    exact Z_iret C q.e it_Lw_captured rfl (Or.inr ⟨_, 0, hO, rfl, rfl⟩) (by decide) (by decide)
set_option maxRecDepth 20000 in
theorem wr_Lw_worthShare {E : zE} (hE : zEv E) {l : Launch} (hl : l.stackTraces = false) {D : zD} (hD : zDok E D) (V : Nat → Nat → Int32) (P : Nat → Nat → Value) (PH : aH) (xa : Int32) (sz : Nat) {O : zO} (hM : ∀ l : Launch, l.stackTraces = false → zM E l y_Xx_worthShare [.code y_Xx_worthShare c_Xx_worthShare 3 (some .double)] rm_Xx_worthShare [.ref (D.1 0), .int xa] (HM D V P PH) sz O) (hr : okD D O) (hx : okX O [X_IOOBE]) : zM E l y_Lw_worthShare [.codeWith y_Lw_worthShare c_Lw_worthShare 4 (some .int) hh_Lw_worthShare] rm_Lw_worthShare [.ref (D.1 0), .int xa, .ref (D.1 45)] (HM D V P PH) sz (zWr D O [X_IOOBE] 45 cvN) := by
  refine zMX_of hE hl (by decide +kernel) [some (.ref (D.1 0)), some (.int xa), some (.ref (D.1 45)), none] ⟨rfl, rfl, Nat.le_of_ble_eq_true rfl⟩ ?_
  intro G C q htb
  refine Z_run C it_Lw_worthShare 4 (f2 := (4, [some (.ref (D.1 0)), some (.int xa), some (.ref (D.1 45)), none], [.int xa, .ref (D.1 0), .int (nI 0), .ref (D.1 45)])) rfl ?_
  refine Z_callV C it_Lw_worthShare rfl p_Xx_worthShare ml_Lw_104 [.int xa] (hM _ C.l) rfl rfl (by rw [HM_at hD (show 0 < 53 by decide)]) rfl ⟨by decide, by decide, by decide, by decide⟩ (Nat.le_of_ble_eq_true rfl) rfl (fun v h2 sz2 hO => ?_) (fun X h2 sz2 hO => ?_)
  · obtain ⟨x, V2, P2, PH2, e1, e2⟩ := hr v h2 sz2 hO
    cases e1
    subst e2
    show Z E G (HM D V2 P2 PH2) sz2 1 6 (7, [some (.ref (D.1 0)), some (.int xa), some (.ref (D.1 45)), none], [.double x, .int (nI 0), .ref (D.1 45)])
    refine Zm_astr C it_Lw_worthShare hD 45 12 rfl (by first | decide | exact isB_k hb | omega) rfl (by decide) rfl (j := 0) (by omega) trivial rfl ?_
    refine Z_run C it_Lw_worthShare 2 (f2 := (15, [some (.ref (D.1 0)), some (.int xa), some (.ref (D.1 45)), none], [.int (nI 0)])) rfl ?_
    exact Z_iret C q.e it_Lw_worthShare rfl (Or.inl ⟨_, V2, P2, PH2, hO, rfl, rfl⟩) (by decide) (by decide)
  · have hX9 := hx X h2 sz2 hO
    rw [List.mem_singleton] at hX9
    subst hX9
    refine Z_catch C htb (pre := []) (x := ⟨0, 8, 11, 13⟩) (suf := []) rfl (fun z hz => by cases hz) (by decide) (by decide) kl_Lw_13 ca_IOOBE (fun q9 => ?_)
    refine Z_run C it_Lw_worthShare 2 (f2 := (13, [some (.ref (D.1 0)), some (.int xa), some (.ref (D.1 45)), some (.ref q9)], [.int (nI 1)])) rfl ?_
    exact Z_iret C q.e it_Lw_worthShare rfl (Or.inr ⟨_, 0, hO, rfl, rfl⟩) (by decide) (by decide)
