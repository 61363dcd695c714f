/-! ===== BrackenGambit: takeAway, start, move, the text ===== -/




set_option maxRecDepth 20000 in
theorem ct_Xx_start {E : zE} (hE : zEv E) {l : Launch} (hl : l.stackTraces = false) {D : zD} (hD : zDok E D) (V : Nat → Nat → Int32) (P : Nat → Nat → Value) (PH : aH) (hF : okF (bF V 2)) (L : List zPos) (hch : chn PH (P 1 7) L) (gs : Nat → Nat) (hgs : isH D P gs) (n : Nat) (hn : V 6 1 = nI n) (h5n : n ≤ 5) (h5 : V 1 5 = 0 ∨ V 1 5 = 1) (h7 : P 1 7 = .null ∨ ∃ q, P 1 7 = .ref q) (W : Nat → Nat → Int32) (Q : Nat → Nat → Value) (hW : rmV V gs n = W) (hQ : rmP D P gs n = Q) (hWr : ∀ c, c < 6 ∨ 33 ≤ c → W c = V c) (hQr : ∀ c, c < 6 ∨ 33 ≤ c → Q c = P c) (tn : Nat) (htn : tn < 2) (hT : V 1 3 = nI tn) (hP : okP D PH) (hcb : cbg L (bF V 2) = true) (sz : Nat) (hs : okS D PH sz) : zM E l y_Xx_start [.code y_Xx_start c_Xx_start 1 (some .int)] rm_Xx_start [.ref (D.1 0)] (HM D V P PH) sz (zNewP D (vset W 1 5 (bI (mvs (bF W 2) tn 36 == 0))) Q PH (pcl (Q 1 7) tn (pq4 (bF W 2)) (n1t tn (bF W 2) L)) (.int (nI (mvs (bF W 2) tn 36))) sz) := by
  refine zM_of hE hl (by decide +kernel) [some (.ref (D.1 0))] ⟨rfl, rfl, Nat.le_of_ble_eq_true rfl⟩ ?_
  intro G C q htb
  refine Z_run C it_Xx_start 1 (f2 := (1, [some (.ref (D.1 0))], [.ref (D.1 0)])) rfl ?_
  refine Zm_get C it_Xx_start hD rfl 0 wi_Xx (by decide) rfl rfl (j := 0) (by decide) fl_Xx_10 (v := .ref (D.1 1)) rfl ?_
  refine Zr_callV C it_Xx_start hD rfl p_Gm_canBegin ml_Xx_71 1 (by decide) rfl rfl [] (ct_Gm_canBegin C.ev C.l hD _ _ _ hF L hch _) rfl rfl ⟨by decide, by decide, by decide, by decide⟩ (Nat.le_of_ble_eq_true rfl) rfl ?_
  show Z E G (HM D V P PH) sz 0 0 (7, [some (.ref (D.1 0))], [.int (bI (cbg L (bF V 2)))])
  refine Z_br C it_Xx_start rfl rfl (fun hc1 => ?_) (fun hc1 => ?_)
  · skip
    refine Z_run C it_Xx_start 1 (f2 := (21, [some (.ref (D.1 0))], [.ref (D.1 0)])) rfl ?_
    refine Zm_get C it_Xx_start hD rfl 0 wi_Xx (by decide) rfl rfl (j := 1) (by decide) fl_Xx_19 (v := .ref (D.1 6)) rfl ?_
    refine Z_run C it_Xx_start 1 (f2 := (25, [some (.ref (D.1 0))], [.ref (D.1 0), .ref (D.1 6)])) rfl ?_
    refine Zm_get C it_Xx_start hD rfl 0 wi_Xx (by decide) rfl rfl (j := 0) (by decide) fl_Xx_10 (v := .ref (D.1 1)) rfl ?_
    refine Zr_callV C it_Xx_start hD rfl p_Hs_remember ml_Xx_63 6 (by decide) rfl rfl [.ref (D.1 1)] (ct_Hs_remember C.ev C.l hD _ _ _ gs hgs n hn h5n h5 h7 _) rfl rfl ⟨by decide, by decide, by decide, by decide⟩ (Nat.le_of_ble_eq_true rfl) rfl ?_
    show Z E G (HM D (rmV V gs n) (rmP D P gs n) PH) sz 0 0 (31, [some (.ref (D.1 0))], [])
    rw [hW, hQ]
    have hFW : okF (bF W 2) := by rw [bF_W hWr]; exact hF
    show Z E G (HM D W Q PH) sz 0 0 (31, [some (.ref (D.1 0))], [])
    refine Z_run C it_Xx_start 1 (f2 := (32, [some (.ref (D.1 0))], [.ref (D.1 0)])) rfl ?_
    refine Zm_get C it_Xx_start hD rfl 0 wi_Xx (by decide) rfl rfl (j := 0) (by decide) fl_Xx_10 (v := .ref (D.1 1)) rfl ?_
    have hchW : chn PH (Q 1 7) L := by rw [hQr 1 (by omega)]; exact hch
    refine Zr_newP C it_Xx_start hD rfl p_Gm_begin ml_Xx_76 1 (by decide) rfl rfl [] (ct_Gm_begin C.ev C.l hD W Q PH hFW L hchW tn htn (by rw [hWr 1 (by omega)]; exact hT) hP _ hs) rfl rfl ⟨by decide, by decide, by decide, by decide⟩ (Nat.le_of_ble_eq_true rfl) rfl (fun q0 h1q h2q h3q => ?_)
    show Z E G (HM D (vset W 1 5 (bI (mvs (bF W 2) tn 36 == 0))) (pset Q 1 7 (.ref q0)) (hset PH q0 (pcl (Q 1 7) tn (pq4 (bF W 2)) (n1t tn (bF W 2) L)))) (q0 + 1) 1 7 (38, [some (.ref (D.1 0))], [.int (nI (mvs (bF W 2) tn 36))])
    exact Z_iret C q.e it_Xx_start rfl (⟨q0, h1q, h2q, h3q, rfl, rfl, rfl⟩) (by decide) (by decide)
  · exact absurd (Classical.not_not.mp hc1) (fun z => absurd (bI_0.mp z) (by rw [hcb]; decide))
set_option maxRecDepth 20000 in
theorem ct_Xx_start_x {E : zE} (hE : zEv E) {l : Launch} (hl : l.stackTraces = false) {D : zD} (hD : zDok E D) (V : Nat → Nat → Int32) (P : Nat → Nat → Value) (PH : aH) (hF : okF (bF V 2)) (L : List zPos) (hch : chn PH (P 1 7) L) (hcb : cbg L (bF V 2) = false) (sz : Nat) : zM E l y_Xx_start [.code y_Xx_start c_Xx_start 1 (some .int)] rm_Xx_start [.ref (D.1 0)] (HM D V P PH) sz (zThr X_ISE (HM D V P PH) sz) := by
  refine zM_of hE hl (by decide +kernel) [some (.ref (D.1 0))] ⟨rfl, rfl, Nat.le_of_ble_eq_true rfl⟩ ?_
  intro G C q htb
  refine Z_run C it_Xx_start 1 (f2 := (1, [some (.ref (D.1 0))], [.ref (D.1 0)])) rfl ?_
  refine Zm_get C it_Xx_start hD rfl 0 wi_Xx (by decide) rfl rfl (j := 0) (by decide) fl_Xx_10 (v := .ref (D.1 1)) rfl ?_
  refine Zr_callV C it_Xx_start hD rfl p_Gm_canBegin ml_Xx_71 1 (by decide) rfl rfl [] (ct_Gm_canBegin C.ev C.l hD _ _ _ hF L hch _) rfl rfl ⟨by decide, by decide, by decide, by decide⟩ (Nat.le_of_ble_eq_true rfl) rfl ?_
  show Z E G (HM D V P PH) sz 0 0 (7, [some (.ref (D.1 0))], [.int (bI (cbg L (bF V 2)))])
  refine Z_br C it_Xx_start rfl rfl (fun hc1 => ?_) (fun hc1 => ?_)
  · exact absurd (bI_1.mp hc1) (by rw [hcb]; decide)
  · skip
    exact Z_throw C q htb it_Xx_start tw_Xx_74 rfl rfl rfl rfl rfl rfl ⟨by decide, Nat.le_of_ble_eq_true rfl, by decide, by decide⟩ (⟨rfl, rfl, rfl⟩) (by decide) (by decide)
set_option maxHeartbeats 1000000 in
set_option maxRecDepth 20000 in
theorem ct_Xx_move {E : zE} (hE : zEv E) {l : Launch} (hl : l.stackTraces = false) {D : zD} (hD : zDok E D) (V : Nat → Nat → Int32) (P : Nat → Nat → Value) (PH : aH) (hF : okF (bF V 2)) (L : List zPos) (hch : chn PH (P 1 7) L) (gs : Nat → Nat) (hgs : isH D P gs) (n : Nat) (hn : V 6 1 = nI n) (h5n : n ≤ 5) (h5 : V 1 5 = 0 ∨ V 1 5 = 1) (h7 : P 1 7 = .null ∨ ∃ q, P 1 7 = .ref q) (W : Nat → Nat → Int32) (Q : Nat → Nat → Value) (hW : rmV V gs n = W) (hQ : rmP D P gs n = Q) (hWr : ∀ c, c < 6 ∨ 33 ≤ c → W c = V c) (hQr : ∀ c, c < 6 ∨ 33 ≤ c → Q c = P c) (tn : Nat) (htn : tn < 2) (hT : V 1 3 = nI tn) (ov : Bool) (hO5 : V 1 5 = bI ov) (md : Nat) (hMd : V 1 4 = nI md) (ch : Option Nat) (hCh : V 1 6 = oI ch) (hcz : ∀ k, ch = some k → k < 2) (h31 : ∀ t F, n1t t F L < 2 ^ 31) (hP : okP D PH) (a : Nat) (ha : a < 36) (b : Nat) (hb : b < 36) (hr0 : rsn L ov (bF V 2) tn a b = 0) (sz : Nat) (hs : okS D PH sz) : zM E l y_Xx_move [.code y_Xx_move c_Xx_move 3 (some .int)] rm_Xx_move [.ref (D.1 0), .int (nI a), .int (nI b)] (HM D V P PH) sz (zNewP D (vset (mvV W a b tn md (ldr (bF W 2 b))) 1 5 (bI (ovr (if ldr (bF W 2 b) then some tn else ch) (n1t (1 - tn) (mvF (bF W 2) a b) L) (mvs (mvF (bF W 2) a b) (1 - tn) 36)))) Q PH (pcl (Q 1 7) (1 - tn) (pq4 (mvF (bF W 2) a b)) (n1t (1 - tn) (mvF (bF W 2) a b) L)) (.int (nI (wr (bF W 2 b)))) sz) := by
  refine zM_of hE hl (by decide +kernel) [some (.ref (D.1 0)), some (.int (nI a)), some (.int (nI b))] ⟨rfl, rfl, Nat.le_of_ble_eq_true rfl⟩ ?_
  intro G C q htb
  refine Z_run C it_Xx_move 1 (f2 := (1, [some (.ref (D.1 0)), some (.int (nI a)), some (.int (nI b))], [.int (nI a)])) rfl ?_
  refine Zr_callS C it_Xx_move rfl p_Xx_needSquare ml_Xx_41 [.int (nI a)] (ct_Xx_needSquare C.ev C.l a (by omega) (HM D V P PH) _) rfl rfl ⟨by decide, by decide, by decide, by decide⟩ (Nat.le_of_ble_eq_true rfl) rfl ?_
  show Z E G (HM D V P PH) sz 1 6 (4, [some (.ref (D.1 0)), some (.int (nI a)), some (.int (nI b))], [])
  refine Z_run C it_Xx_move 1 (f2 := (5, [some (.ref (D.1 0)), some (.int (nI a)), some (.int (nI b))], [.int (nI b)])) rfl ?_
  refine Zr_callS C it_Xx_move rfl p_Xx_needSquare ml_Xx_41 [.int (nI b)] (ct_Xx_needSquare C.ev C.l b (by omega) (HM D V P PH) _) rfl rfl ⟨by decide, by decide, by decide, by decide⟩ (Nat.le_of_ble_eq_true rfl) rfl ?_
  show Z E G (HM D V P PH) sz 2 12 (8, [some (.ref (D.1 0)), some (.int (nI a)), some (.int (nI b))], [])
  refine Z_run C it_Xx_move 1 (f2 := (9, [some (.ref (D.1 0)), some (.int (nI a)), some (.int (nI b))], [.ref (D.1 0)])) rfl ?_
  refine Zm_get C it_Xx_move hD rfl 0 wi_Xx (by decide) rfl rfl (j := 0) (by decide) fl_Xx_10 (v := .ref (D.1 1)) rfl ?_
  refine Z_run C it_Xx_move 2 (f2 := (14, [some (.ref (D.1 0)), some (.int (nI a)), some (.int (nI b))], [.int (nI b), .int (nI a), .ref (D.1 1)])) rfl ?_
  refine Zr_callV C it_Xx_move hD rfl p_Gm_reasonAgainst ml_Xx_80 1 (by decide) rfl rfl [.int (nI a), .int (nI b)] (ct_Gm_reasonAgainst C.ev C.l hD _ _ _ hF L hch tn htn hT ov hO5 a (by omega) b (by omega) _) rfl rfl ⟨by decide, by decide, by decide, by decide⟩ (Nat.le_of_ble_eq_true rfl) rfl ?_
  show Z E G (HM D V P PH) sz 2 12 (17, [some (.ref (D.1 0)), some (.int (nI a)), some (.int (nI b))], [.int (nI (rsn L ov (bF V 2) tn a b))])
  refine Z_br C it_Xx_move rfl rfl (fun hc1 => ?_) (fun hc1 => ?_)
  · skip
    refine Z_run C it_Xx_move 1 (f2 := (31, [some (.ref (D.1 0)), some (.int (nI a)), some (.int (nI b))], [.ref (D.1 0)])) rfl ?_
    refine Zm_get C it_Xx_move hD rfl 0 wi_Xx (by decide) rfl rfl (j := 1) (by decide) fl_Xx_19 (v := .ref (D.1 6)) rfl ?_
    refine Z_run C it_Xx_move 1 (f2 := (35, [some (.ref (D.1 0)), some (.int (nI a)), some (.int (nI b))], [.ref (D.1 0), .ref (D.1 6)])) rfl ?_
    refine Zm_get C it_Xx_move hD rfl 0 wi_Xx (by decide) rfl rfl (j := 0) (by decide) fl_Xx_10 (v := .ref (D.1 1)) rfl ?_
    refine Zr_callV C it_Xx_move hD rfl p_Hs_remember ml_Xx_63 6 (by decide) rfl rfl [.ref (D.1 1)] (ct_Hs_remember C.ev C.l hD _ _ _ gs hgs n hn h5n h5 h7 _) rfl rfl ⟨by decide, by decide, by decide, by decide⟩ (Nat.le_of_ble_eq_true rfl) rfl ?_
    show Z E G (HM D (rmV V gs n) (rmP D P gs n) PH) sz 2 12 (41, [some (.ref (D.1 0)), some (.int (nI a)), some (.int (nI b))], [])
    rw [hW, hQ]
    have hFW : okF (bF W 2) := by rw [bF_W hWr]; exact hF
    show Z E G (HM D W Q PH) sz 2 12 (41, [some (.ref (D.1 0)), some (.int (nI a)), some (.int (nI b))], [])
    refine Z_run C it_Xx_move 1 (f2 := (42, [some (.ref (D.1 0)), some (.int (nI a)), some (.int (nI b))], [.ref (D.1 0)])) rfl ?_
    refine Zm_get C it_Xx_move hD rfl 0 wi_Xx (by decide) rfl rfl (j := 0) (by decide) fl_Xx_10 (v := .ref (D.1 1)) rfl ?_
    refine Z_run C it_Xx_move 2 (f2 := (47, [some (.ref (D.1 0)), some (.int (nI a)), some (.int (nI b))], [.int (nI b), .int (nI a), .ref (D.1 1)])) rfl ?_
    have hchW : chn PH (Q 1 7) L := by rw [hQr 1 (by omega)]; exact hch
    refine Zr_newP C it_Xx_move hD rfl p_Gm_makeMove ml_Xx_86 1 (by decide) rfl rfl [.int (nI a), .int (nI b)] (ct_Gm_makeMove C.ev C.l hD W Q PH hFW L hchW tn htn (by rw [hWr 1 (by omega)]; exact hT) md (by rw [hWr 1 (by omega)]; exact hMd) ch (by rw [hWr 1 (by omega)]; exact hCh) hcz h31 hP a ha b hb _ hs) rfl rfl ⟨by decide, by decide, by decide, by decide⟩ (Nat.le_of_ble_eq_true rfl) rfl (fun q0 h1q h2q h3q => ?_)
    show Z E G (HM D (vset (mvV W a b tn md (ldr (bF W 2 b))) 1 5 (bI (ovr (if ldr (bF W 2 b) then some tn else ch) (n1t (1 - tn) (mvF (bF W 2) a b) L) (mvs (mvF (bF W 2) a b) (1 - tn) 36)))) (pset Q 1 7 (.ref q0)) (hset PH q0 (pcl (Q 1 7) (1 - tn) (pq4 (mvF (bF W 2) a b)) (n1t (1 - tn) (mvF (bF W 2) a b) L)))) (q0 + 1) 3 19 (50, [some (.ref (D.1 0)), some (.int (nI a)), some (.int (nI b))], [.int (nI (wr (bF W 2 b)))])
    exact Z_iret C q.e it_Xx_move rfl (⟨q0, h1q, h2q, h3q, rfl, rfl, rfl⟩) (by decide) (by decide)
  · exact absurd (show nI (rsn L ov (bF V 2) tn a b) = 0 by rw [hr0]; rfl) hc1
set_option maxRecDepth 20000 in
theorem ct_Xx_move_x3 {E : zE} (hE : zEv E) {l : Launch} (hl : l.stackTraces = false) {D : zD} (hD : zDok E D) (V : Nat → Nat → Int32) (P : Nat → Nat → Value) (PH : aH) (hF : okF (bF V 2)) (L : List zPos) (hch : chn PH (P 1 7) L) (tn : Nat) (htn : tn < 2) (hT : V 1 3 = nI tn) (ov : Bool) (hO5 : V 1 5 = bI ov) (a : Nat) (ha : a < 36) (b : Nat) (hb : b < 36) (hr9 : rsn L ov (bF V 2) tn a b < 100) (hr0 : rsn L ov (bF V 2) tn a b ≠ 0) (sz : Nat) : zM E l y_Xx_move [.code y_Xx_move c_Xx_move 3 (some .int)] rm_Xx_move [.ref (D.1 0), .int (nI a), .int (nI b)] (HM D V P PH) sz (zThr X_ISE (HM D V P PH) sz) := by
  refine zM_of hE hl (by decide +kernel) [some (.ref (D.1 0)), some (.int (nI a)), some (.int (nI b))] ⟨rfl, rfl, Nat.le_of_ble_eq_true rfl⟩ ?_
  intro G C q htb
  refine Z_run C it_Xx_move 1 (f2 := (1, [some (.ref (D.1 0)), some (.int (nI a)), some (.int (nI b))], [.int (nI a)])) rfl ?_
  refine Zr_callS C it_Xx_move rfl p_Xx_needSquare ml_Xx_41 [.int (nI a)] (ct_Xx_needSquare C.ev C.l a (by omega) (HM D V P PH) _) rfl rfl ⟨by decide, by decide, by decide, by decide⟩ (Nat.le_of_ble_eq_true rfl) rfl ?_
  show Z E G (HM D V P PH) sz 1 6 (4, [some (.ref (D.1 0)), some (.int (nI a)), some (.int (nI b))], [])
  refine Z_run C it_Xx_move 1 (f2 := (5, [some (.ref (D.1 0)), some (.int (nI a)), some (.int (nI b))], [.int (nI b)])) rfl ?_
  refine Zr_callS C it_Xx_move rfl p_Xx_needSquare ml_Xx_41 [.int (nI b)] (ct_Xx_needSquare C.ev C.l b (by omega) (HM D V P PH) _) rfl rfl ⟨by decide, by decide, by decide, by decide⟩ (Nat.le_of_ble_eq_true rfl) rfl ?_
  show Z E G (HM D V P PH) sz 2 12 (8, [some (.ref (D.1 0)), some (.int (nI a)), some (.int (nI b))], [])
  refine Z_run C it_Xx_move 1 (f2 := (9, [some (.ref (D.1 0)), some (.int (nI a)), some (.int (nI b))], [.ref (D.1 0)])) rfl ?_
  refine Zm_get C it_Xx_move hD rfl 0 wi_Xx (by decide) rfl rfl (j := 0) (by decide) fl_Xx_10 (v := .ref (D.1 1)) rfl ?_
  refine Z_run C it_Xx_move 2 (f2 := (14, [some (.ref (D.1 0)), some (.int (nI a)), some (.int (nI b))], [.int (nI b), .int (nI a), .ref (D.1 1)])) rfl ?_
  refine Zr_callV C it_Xx_move hD rfl p_Gm_reasonAgainst ml_Xx_80 1 (by decide) rfl rfl [.int (nI a), .int (nI b)] (ct_Gm_reasonAgainst C.ev C.l hD _ _ _ hF L hch tn htn hT ov hO5 a (by omega) b (by omega) _) rfl rfl ⟨by decide, by decide, by decide, by decide⟩ (Nat.le_of_ble_eq_true rfl) rfl ?_
  show Z E G (HM D V P PH) sz 2 12 (17, [some (.ref (D.1 0)), some (.int (nI a)), some (.int (nI b))], [.int (nI (rsn L ov (bF V 2) tn a b))])
  refine Z_br C it_Xx_move rfl rfl (fun hc1 => ?_) (fun hc1 => ?_)
  · exact absurd ((nI_e0 (by omega)).mp hc1) hr0
  · skip
    exact Z_throw C q htb it_Xx_move tw_Xx_84 rfl rfl rfl rfl rfl rfl ⟨by decide, Nat.le_of_ble_eq_true rfl, by decide, by decide⟩ (⟨rfl, rfl, rfl⟩) (by decide) (by decide)
set_option maxRecDepth 20000 in
theorem ct_Xx_move_x1 {E : zE} (hE : zEv E) {l : Launch} (hl : l.stackTraces = false) {D : zD} (hD : zDok E D) (V : Nat → Nat → Int32) (P : Nat → Nat → Value) (PH : aH) (a : Nat) (h32 : a < 4294967296) (ha : 36 ≤ a) (xb : Int32) (sz : Nat) : zM E l y_Xx_move [.code y_Xx_move c_Xx_move 3 (some .int)] rm_Xx_move [.ref (D.1 0), .int (nI a), .int xb] (HM D V P PH) sz (zThr X_IOOBE (HM D V P PH) sz) := by
  refine zM_of hE hl (by decide +kernel) [some (.ref (D.1 0)), some (.int (nI a)), some (.int xb)] ⟨rfl, rfl, Nat.le_of_ble_eq_true rfl⟩ ?_
  intro G C q htb
  refine Z_run C it_Xx_move 1 (f2 := (1, [some (.ref (D.1 0)), some (.int (nI a)), some (.int xb)], [.int (nI a)])) rfl ?_
  exact Zr_thrS C it_Xx_move rfl p_Xx_needSquare ml_Xx_41 [.int (nI a)] (ct_Xx_needSquare_x C.ev C.l a (by omega) (by omega) (HM D V P PH) _) rfl rfl ⟨by decide, by decide, by decide, by decide⟩ (Nat.le_of_ble_eq_true rfl) rfl q htb (⟨rfl, rfl, rfl⟩) (by decide) (by decide)
set_option maxRecDepth 20000 in
theorem ct_Xx_move_x2 {E : zE} (hE : zEv E) {l : Launch} (hl : l.stackTraces = false) {D : zD} (hD : zDok E D) (V : Nat → Nat → Int32) (P : Nat → Nat → Value) (PH : aH) (a : Nat) (ha : a < 36) (b : Nat) (h32 : b < 4294967296) (hb : 36 ≤ b) (sz : Nat) : zM E l y_Xx_move [.code y_Xx_move c_Xx_move 3 (some .int)] rm_Xx_move [.ref (D.1 0), .int (nI a), .int (nI b)] (HM D V P PH) sz (zThr X_IOOBE (HM D V P PH) sz) := by
  refine zM_of hE hl (by decide +kernel) [some (.ref (D.1 0)), some (.int (nI a)), some (.int (nI b))] ⟨rfl, rfl, Nat.le_of_ble_eq_true rfl⟩ ?_
  intro G C q htb
  refine Z_run C it_Xx_move 1 (f2 := (1, [some (.ref (D.1 0)), some (.int (nI a)), some (.int (nI b))], [.int (nI a)])) rfl ?_
  refine Zr_callS C it_Xx_move rfl p_Xx_needSquare ml_Xx_41 [.int (nI a)] (ct_Xx_needSquare C.ev C.l a (by omega) (HM D V P PH) _) rfl rfl ⟨by decide, by decide, by decide, by decide⟩ (Nat.le_of_ble_eq_true rfl) rfl ?_
  show Z E G (HM D V P PH) sz 1 6 (4, [some (.ref (D.1 0)), some (.int (nI a)), some (.int (nI b))], [])
  refine Z_run C it_Xx_move 1 (f2 := (5, [some (.ref (D.1 0)), some (.int (nI a)), some (.int (nI b))], [.int (nI b)])) rfl ?_
  exact Zr_thrS C it_Xx_move rfl p_Xx_needSquare ml_Xx_41 [.int (nI b)] (ct_Xx_needSquare_x C.ev C.l b (by omega) (by omega) (HM D V P PH) _) rfl rfl ⟨by decide, by decide, by decide, by decide⟩ (Nat.le_of_ble_eq_true rfl) rfl q htb (⟨rfl, rfl, rfl⟩) (by decide) (by decide)
