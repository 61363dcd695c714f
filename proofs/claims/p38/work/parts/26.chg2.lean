/-! ===== BrackenGambit: refusals, takeAway, start, move, undo, the text ===== -/
set_option maxRecDepth 20000 in
theorem ct_Xx_put_x1 {E : zE} (hE : zEv E) {l : Launch} (hl : l.stackTraces = false) {D : zD} (hD : zDok E D) (V : Nat → Nat → Int32) (P : Nat → Nat → Value) (PH : aH) (a : Nat) (h32 : a < 4294967296) (ha : 2 ≤ a) (xb xc : Int32) (ld : Bool) (sz : Nat) : zM E l y_Xx_put [.code y_Xx_put c_Xx_put 5 (some .int)] rm_Xx_put [.ref (D.1 0), .int (nI a), .int xb, .int xc, .int (bI ld)] (HM D V P PH) sz (zThr X_IOOBE (HM D V P PH) sz) := by
  refine zM_of hE hl (by decide +kernel) [some (.ref (D.1 0)), some (.int (nI a)), some (.int xb), some (.int xc), some (.int (bI ld))] ⟨rfl, rfl, Nat.le_of_ble_eq_true rfl⟩ ?_
  intro G C q htb
  refine Z_run C it_Xx_put 1 (f2 := (1, [some (.ref (D.1 0)), some (.int (nI a)), some (.int xb), some (.int xc), some (.int (bI ld))], [.int (nI a)])) rfl ?_
  exact Zr_thrS C it_Xx_put rfl p_Xx_needSide ml_Xx_132 [.int (nI a)] (ct_Xx_needSide_x C.ev C.l a (by omega) (by omega) (HM D V P PH) _) rfl rfl ⟨by decide, by decide, by decide, by decide⟩ (Nat.le_of_ble_eq_true rfl) rfl q htb (⟨rfl, rfl, rfl⟩) (by decide) (by decide)
set_option maxRecDepth 20000 in
theorem ct_Xx_put_x2 {E : zE} (hE : zEv E) {l : Launch} (hl : l.stackTraces = false) {D : zD} (hD : zDok E D) (V : Nat → Nat → Int32) (P : Nat → Nat → Value) (PH : aH) (a : Nat) (ha : a < 2) (b : Nat) (h32 : b < 4294967296) (hb : 36 ≤ b) (xc : Int32) (ld : Bool) (sz : Nat) : zM E l y_Xx_put [.code y_Xx_put c_Xx_put 5 (some .int)] rm_Xx_put [.ref (D.1 0), .int (nI a), .int (nI b), .int xc, .int (bI ld)] (HM D V P PH) sz (zThr X_IOOBE (HM D V P PH) sz) := by
  refine zM_of hE hl (by decide +kernel) [some (.ref (D.1 0)), some (.int (nI a)), some (.int (nI b)), some (.int xc), some (.int (bI ld))] ⟨rfl, rfl, Nat.le_of_ble_eq_true rfl⟩ ?_
  intro G C q htb
  refine Z_run C it_Xx_put 1 (f2 := (1, [some (.ref (D.1 0)), some (.int (nI a)), some (.int (nI b)), some (.int xc), some (.int (bI ld))], [.int (nI a)])) rfl ?_
  refine Zr_callS C it_Xx_put rfl p_Xx_needSide ml_Xx_132 [.int (nI a)] (ct_Xx_needSide C.ev C.l a (by omega) (HM D V P PH) _) rfl rfl ⟨by decide, by decide, by decide, by decide⟩ (Nat.le_of_ble_eq_true rfl) rfl ?_
  show Z E G (HM D V P PH) sz 1 6 (4, [some (.ref (D.1 0)), some (.int (nI a)), some (.int (nI b)), some (.int xc), some (.int (bI ld))], [])
  refine Z_run C it_Xx_put 1 (f2 := (5, [some (.ref (D.1 0)), some (.int (nI a)), some (.int (nI b)), some (.int xc), some (.int (bI ld))], [.int (nI b)])) rfl ?_
  exact Zr_thrS C it_Xx_put rfl p_Xx_needSquare ml_Xx_41 [.int (nI b)] (ct_Xx_needSquare_x C.ev C.l b (by omega) (by omega) (HM D V P PH) _) rfl rfl ⟨by decide, by decide, by decide, by decide⟩ (Nat.le_of_ble_eq_true rfl) rfl q htb (⟨rfl, rfl, rfl⟩) (by decide) (by decide)
theorem nI_stb {c : Nat} (h32 : c < 4294967296) (hc : c = 0 ∨ 32 ≤ c) (h1 : ¬ nI c < nI 1) (h2 : nI c ≤ nI 31) : False := by
  by_cases h3 : c < 2147483648
  · have := (nI_leI (a := c) (b := 31) (by omega) (by omega)).mp h2
    exact h1 ((nI_ltI (a := c) (b := 1) (by omega) (by omega)).mpr (by omega))
  · have h4 := nI_neg (a := c) (by omega) h32
    exact h1 (Int32.lt_trans h4 (by decide))
set_option maxRecDepth 20000 in
theorem ct_Xx_put_x3 {E : zE} (hE : zEv E) {l : Launch} (hl : l.stackTraces = false) {D : zD} (hD : zDok E D) (V : Nat → Nat → Int32) (P : Nat → Nat → Value) (PH : aH) (a : Nat) (ha : a < 2) (b : Nat) (hb : b < 36) (c : Nat) (h32 : c < 4294967296) (hc : c = 0 ∨ 32 ≤ c) (ld : Bool) (sz : Nat) : zM E l y_Xx_put [.code y_Xx_put c_Xx_put 5 (some .int)] rm_Xx_put [.ref (D.1 0), .int (nI a), .int (nI b), .int (nI c), .int (bI ld)] (HM D V P PH) sz (zThr X_IAE (HM D V P PH) sz) := by
  refine zM_of hE hl (by decide +kernel) [some (.ref (D.1 0)), some (.int (nI a)), some (.int (nI b)), some (.int (nI c)), some (.int (bI ld))] ⟨rfl, rfl, Nat.le_of_ble_eq_true rfl⟩ ?_
  intro G C q htb
  refine Z_run C it_Xx_put 1 (f2 := (1, [some (.ref (D.1 0)), some (.int (nI a)), some (.int (nI b)), some (.int (nI c)), some (.int (bI ld))], [.int (nI a)])) rfl ?_
  refine Zr_callS C it_Xx_put rfl p_Xx_needSide ml_Xx_132 [.int (nI a)] (ct_Xx_needSide C.ev C.l a (by omega) (HM D V P PH) _) rfl rfl ⟨by decide, by decide, by decide, by decide⟩ (Nat.le_of_ble_eq_true rfl) rfl ?_
  show Z E G (HM D V P PH) sz 1 6 (4, [some (.ref (D.1 0)), some (.int (nI a)), some (.int (nI b)), some (.int (nI c)), some (.int (bI ld))], [])
  refine Z_run C it_Xx_put 1 (f2 := (5, [some (.ref (D.1 0)), some (.int (nI a)), some (.int (nI b)), some (.int (nI c)), some (.int (bI ld))], [.int (nI b)])) rfl ?_
  refine Zr_callS C it_Xx_put rfl p_Xx_needSquare ml_Xx_41 [.int (nI b)] (ct_Xx_needSquare C.ev C.l b (by omega) (HM D V P PH) _) rfl rfl ⟨by decide, by decide, by decide, by decide⟩ (Nat.le_of_ble_eq_true rfl) rfl ?_
  show Z E G (HM D V P PH) sz 2 12 (8, [some (.ref (D.1 0)), some (.int (nI a)), some (.int (nI b)), some (.int (nI c)), some (.int (bI ld))], [])
  refine Z_run C it_Xx_put 2 (f2 := (10, [some (.ref (D.1 0)), some (.int (nI a)), some (.int (nI b)), some (.int (nI c)), some (.int (bI ld))], [.int (nI 1), .int (nI c)])) rfl ?_
  refine Z_br C it_Xx_put rfl rfl (fun hc1 => ?_) (fun hc1 => ?_)
  · skip
    exact Z_throw C q htb it_Xx_put tw_Xx_226 rfl rfl rfl rfl rfl rfl ⟨by decide, Nat.le_of_ble_eq_true rfl, by decide, by decide⟩ (⟨rfl, rfl, rfl⟩) (by decide) (by decide)
  · skip
    refine Z_run C it_Xx_put 2 (f2 := (16, [some (.ref (D.1 0)), some (.int (nI a)), some (.int (nI b)), some (.int (nI c)), some (.int (bI ld))], [.int (nI 31), .int (nI c)])) rfl ?_
    refine Z_br C it_Xx_put rfl rfl (fun hc2 => ?_) (fun hc2 => ?_)
    · exact absurd (nI_stb h32 hc hc1 hc2) (fun z => z)
    · skip
      exact Z_throw C q htb it_Xx_put tw_Xx_226 rfl rfl rfl rfl rfl rfl ⟨by decide, Nat.le_of_ble_eq_true rfl, by decide, by decide⟩ (⟨rfl, rfl, rfl⟩) (by decide) (by decide)
set_option maxRecDepth 20000 in
theorem ct_Xx_put_x4 {E : zE} (hE : zEv E) {l : Launch} (hl : l.stackTraces = false) {D : zD} (hD : zDok E D) (V : Nat → Nat → Int32) (P : Nat → Nat → Value) (PH : aH) (hF : okF (bF V 2)) (L : List zPos) (hch : chn PH (P 1 7) L) (a : Nat) (ha : a < 2) (b : Nat) (hb : b < 36) (c : Nat) (hc : c < 32) (hc0 : 1 ≤ c) {ld : Bool} (hac : acc_ L (bF V 2) a b ld = false) (sz : Nat) : zM E l y_Xx_put [.code y_Xx_put c_Xx_put 5 (some .int)] rm_Xx_put [.ref (D.1 0), .int (nI a), .int (nI b), .int (nI c), .int (bI ld)] (HM D V P PH) sz (zThr X_ISE (HM D V P PH) sz) := by
  refine zM_of hE hl (by decide +kernel) [some (.ref (D.1 0)), some (.int (nI a)), some (.int (nI b)), some (.int (nI c)), some (.int (bI ld))] ⟨rfl, rfl, Nat.le_of_ble_eq_true rfl⟩ ?_
  intro G C q htb
  refine Z_run C it_Xx_put 1 (f2 := (1, [some (.ref (D.1 0)), some (.int (nI a)), some (.int (nI b)), some (.int (nI c)), some (.int (bI ld))], [.int (nI a)])) rfl ?_
  refine Zr_callS C it_Xx_put rfl p_Xx_needSide ml_Xx_132 [.int (nI a)] (ct_Xx_needSide C.ev C.l a (by omega) (HM D V P PH) _) rfl rfl ⟨by decide, by decide, by decide, by decide⟩ (Nat.le_of_ble_eq_true rfl) rfl ?_
  show Z E G (HM D V P PH) sz 1 6 (4, [some (.ref (D.1 0)), some (.int (nI a)), some (.int (nI b)), some (.int (nI c)), some (.int (bI ld))], [])
  refine Z_run C it_Xx_put 1 (f2 := (5, [some (.ref (D.1 0)), some (.int (nI a)), some (.int (nI b)), some (.int (nI c)), some (.int (bI ld))], [.int (nI b)])) rfl ?_
  refine Zr_callS C it_Xx_put rfl p_Xx_needSquare ml_Xx_41 [.int (nI b)] (ct_Xx_needSquare C.ev C.l b (by omega) (HM D V P PH) _) rfl rfl ⟨by decide, by decide, by decide, by decide⟩ (Nat.le_of_ble_eq_true rfl) rfl ?_
  show Z E G (HM D V P PH) sz 2 12 (8, [some (.ref (D.1 0)), some (.int (nI a)), some (.int (nI b)), some (.int (nI c)), some (.int (bI ld))], [])
  refine Z_run C it_Xx_put 2 (f2 := (10, [some (.ref (D.1 0)), some (.int (nI a)), some (.int (nI b)), some (.int (nI c)), some (.int (bI ld))], [.int (nI 1), .int (nI c)])) rfl ?_
  refine Z_br C it_Xx_put rfl rfl (fun hc1 => ?_) (fun hc1 => ?_)
  · exact absurd ((nI_ltI (a := c) (b := 1) (by omega) (by omega)).mp hc1) (by omega)
  · skip
    refine Z_run C it_Xx_put 2 (f2 := (16, [some (.ref (D.1 0)), some (.int (nI a)), some (.int (nI b)), some (.int (nI c)), some (.int (bI ld))], [.int (nI 31), .int (nI c)])) rfl ?_
    refine Z_br C it_Xx_put rfl rfl (fun hc2 => ?_) (fun hc2 => ?_)
    · skip
      refine Z_run C it_Xx_put 1 (f2 := (30, [some (.ref (D.1 0)), some (.int (nI a)), some (.int (nI b)), some (.int (nI c)), some (.int (bI ld))], [.ref (D.1 0)])) rfl ?_
      refine Zm_get C it_Xx_put hD rfl 0 wi_Xx (by decide) rfl rfl (j := 0) (by decide) fl_Xx_10 (v := .ref (D.1 1)) rfl ?_
      refine Z_run C it_Xx_put 3 (f2 := (37, [some (.ref (D.1 0)), some (.int (nI a)), some (.int (nI b)), some (.int (nI c)), some (.int (bI ld))], [.int (bI ld), .int (nI b), .int (nI a), .ref (D.1 1)])) rfl ?_
      refine Zr_callV C it_Xx_put hD rfl p_Gm_accepts ml_Xx_228 1 (by decide) rfl rfl [.int (nI a), .int (nI b), .int (bI ld)] (ct_Gm_accepts C.ev C.l hD _ _ _ hF L hch a (by omega) b (by omega) ld _) rfl rfl ⟨by decide, by decide, by decide, by decide⟩ (Nat.le_of_ble_eq_true rfl) rfl ?_
      show Z E G (HM D V P PH) sz 2 12 (40, [some (.ref (D.1 0)), some (.int (nI a)), some (.int (nI b)), some (.int (nI c)), some (.int (bI ld))], [.int (bI (acc_ L (bF V 2) a b ld))])
      refine Z_br C it_Xx_put rfl rfl (fun hc3 => ?_) (fun hc3 => ?_)
      · exact absurd (bI_1.mp hc3) (by rw [hac]; decide)
      · skip
        exact Z_throw C q htb it_Xx_put tw_Xx_232 rfl rfl rfl rfl rfl rfl ⟨by decide, Nat.le_of_ble_eq_true rfl, by decide, by decide⟩ (⟨rfl, rfl, rfl⟩) (by decide) (by decide)
    · exact absurd ((nI_leI (a := c) (b := 31) (by omega) (by omega)).mpr (by omega)) hc2
set_option maxRecDepth 20000 in
theorem ct_Xx_putPiece {E : zE} (hE : zEv E) {l : Launch} (hl : l.stackTraces = false) {D : zD} (hD : zDok E D) (V : Nat → Nat → Int32) (P : Nat → Nat → Value) (PH : aH) (hF : okF (bF V 2)) (L : List zPos) (hch : chn PH (P 1 7) L) (gs : Nat → Nat) (hgs : isH D P gs) (n : Nat) (hn : V 6 1 = nI n) (h5n : n ≤ 5) (h5 : V 1 5 = 0 ∨ V 1 5 = 1) (h7 : P 1 7 = .null ∨ ∃ q, P 1 7 = .ref q) (W : Nat → Nat → Int32) (Q : Nat → Nat → Value) (hW : rmV V gs n = W) (hQ : rmP D P gs n = Q) (hWr : ∀ c, c < 6 ∨ 33 ≤ c → W c = V c) (hQr : ∀ c, c < 6 ∨ 33 ≤ c → Q c = P c) (a : Nat) (ha : a < 2) (b : Nat) (hb : b < 36) (c : Nat) (hc : c < 32) (hc0 : 1 ≤ c) (hac : acc_ L (bF V 2) a b false = true) (sz : Nat) : zM E l y_Xx_putPiece [.code y_Xx_putPiece c_Xx_putPiece 4 (some .int)] rm_Xx_putPiece [.ref (D.1 0), .int (nI a), .int (nI b), .int (nI c)] (HM D V P PH) sz (zRet (some (.int (nI (popc (sqs (plF (bF V 2) b (pof a c false)) a))))) (HM D (vset (vset W 3 b (nI (pof a c false))) 4 (sd (pof a c false)) (W 4 (sd (pof a c false)) + nI (wr (pof a c false)))) Q PH) sz) := by
  refine zM_of hE hl (by decide +kernel) [some (.ref (D.1 0)), some (.int (nI a)), some (.int (nI b)), some (.int (nI c))] ⟨rfl, rfl, Nat.le_of_ble_eq_true rfl⟩ ?_
  intro G C q htb
  refine Z_run C it_Xx_putPiece 5 (f2 := (5, [some (.ref (D.1 0)), some (.int (nI a)), some (.int (nI b)), some (.int (nI c))], [.int (nI 0), .int (nI c), .int (nI b), .int (nI a), .ref (D.1 0)])) rfl ?_
  refine Zr_callV C it_Xx_putPiece hD rfl p_Xx_put ml_Xx_37 0 (by decide) rfl rfl [.int (nI a), .int (nI b), .int (nI c), .int (nI 0)] (ct_Xx_put C.ev C.l hD _ _ _ hF L hch gs hgs n hn h5n h5 h7 W Q hW hQ hWr hQr a ha b hb c hc hc0 false hac _) rfl rfl ⟨by decide, by decide, by decide, by decide⟩ (Nat.le_of_ble_eq_true rfl) rfl ?_
  show Z E G (HM D (vset (vset W 3 b (nI (pof a c false))) 4 (sd (pof a c false)) (W 4 (sd (pof a c false)) + nI (wr (pof a c false)))) Q PH) sz 3 18 (8, [some (.ref (D.1 0)), some (.int (nI a)), some (.int (nI b)), some (.int (nI c))], [.int (nI (popc (sqs (plF (bF V 2) b (pof a c false)) a)))])
  exact Z_iret C q.e it_Xx_putPiece rfl (zRet_iH rfl rfl) (by decide) (by decide)
set_option maxRecDepth 20000 in
theorem ct_Xx_putPiece_x1 {E : zE} (hE : zEv E) {l : Launch} (hl : l.stackTraces = false) {D : zD} (hD : zDok E D) (V : Nat → Nat → Int32) (P : Nat → Nat → Value) (PH : aH) (a : Nat) (h32 : a < 4294967296) (ha : 2 ≤ a) (xb xc : Int32) (sz : Nat) : zM E l y_Xx_putPiece [.code y_Xx_putPiece c_Xx_putPiece 4 (some .int)] rm_Xx_putPiece [.ref (D.1 0), .int (nI a), .int xb, .int xc] (HM D V P PH) sz (zThr X_IOOBE (HM D V P PH) sz) := by
  refine zM_of hE hl (by decide +kernel) [some (.ref (D.1 0)), some (.int (nI a)), some (.int xb), some (.int xc)] ⟨rfl, rfl, Nat.le_of_ble_eq_true rfl⟩ ?_
  intro G C q htb
  refine Z_run C it_Xx_putPiece 5 (f2 := (5, [some (.ref (D.1 0)), some (.int (nI a)), some (.int xb), some (.int xc)], [.int (nI 0), .int xc, .int xb, .int (nI a), .ref (D.1 0)])) rfl ?_
  exact Zr_thrV C it_Xx_putPiece hD rfl p_Xx_put ml_Xx_37 0 (by decide) rfl rfl [.int (nI a), .int xb, .int xc, .int (nI 0)] (ct_Xx_put_x1 C.ev C.l hD _ _ _ a h32 ha xb xc false _) rfl rfl ⟨by decide, by decide, by decide, by decide⟩ (Nat.le_of_ble_eq_true rfl) rfl q htb (⟨rfl, rfl, rfl⟩) (by decide) (by decide)
set_option maxRecDepth 20000 in
theorem ct_Xx_putPiece_x2 {E : zE} (hE : zEv E) {l : Launch} (hl : l.stackTraces = false) {D : zD} (hD : zDok E D) (V : Nat → Nat → Int32) (P : Nat → Nat → Value) (PH : aH) (a : Nat) (ha : a < 2) (b : Nat) (h32 : b < 4294967296) (hb : 36 ≤ b) (xc : Int32) (sz : Nat) : zM E l y_Xx_putPiece [.code y_Xx_putPiece c_Xx_putPiece 4 (some .int)] rm_Xx_putPiece [.ref (D.1 0), .int (nI a), .int (nI b), .int xc] (HM D V P PH) sz (zThr X_IOOBE (HM D V P PH) sz) := by
  refine zM_of hE hl (by decide +kernel) [some (.ref (D.1 0)), some (.int (nI a)), some (.int (nI b)), some (.int xc)] ⟨rfl, rfl, Nat.le_of_ble_eq_true rfl⟩ ?_
  intro G C q htb
  refine Z_run C it_Xx_putPiece 5 (f2 := (5, [some (.ref (D.1 0)), some (.int (nI a)), some (.int (nI b)), some (.int xc)], [.int (nI 0), .int xc, .int (nI b), .int (nI a), .ref (D.1 0)])) rfl ?_
  exact Zr_thrV C it_Xx_putPiece hD rfl p_Xx_put ml_Xx_37 0 (by decide) rfl rfl [.int (nI a), .int (nI b), .int xc, .int (nI 0)] (ct_Xx_put_x2 C.ev C.l hD _ _ _ a ha b h32 hb xc false _) rfl rfl ⟨by decide, by decide, by decide, by decide⟩ (Nat.le_of_ble_eq_true rfl) rfl q htb (⟨rfl, rfl, rfl⟩) (by decide) (by decide)
set_option maxRecDepth 20000 in
theorem ct_Xx_putPiece_x3 {E : zE} (hE : zEv E) {l : Launch} (hl : l.stackTraces = false) {D : zD} (hD : zDok E D) (V : Nat → Nat → Int32) (P : Nat → Nat → Value) (PH : aH) (a : Nat) (ha : a < 2) (b : Nat) (hb : b < 36) (c : Nat) (h32 : c < 4294967296) (hc : c = 0 ∨ 32 ≤ c) (sz : Nat) : zM E l y_Xx_putPiece [.code y_Xx_putPiece c_Xx_putPiece 4 (some .int)] rm_Xx_putPiece [.ref (D.1 0), .int (nI a), .int (nI b), .int (nI c)] (HM D V P PH) sz (zThr X_IAE (HM D V P PH) sz) := by
  refine zM_of hE hl (by decide +kernel) [some (.ref (D.1 0)), some (.int (nI a)), some (.int (nI b)), some (.int (nI c))] ⟨rfl, rfl, Nat.le_of_ble_eq_true rfl⟩ ?_
  intro G C q htb
  refine Z_run C it_Xx_putPiece 5 (f2 := (5, [some (.ref (D.1 0)), some (.int (nI a)), some (.int (nI b)), some (.int (nI c))], [.int (nI 0), .int (nI c), .int (nI b), .int (nI a), .ref (D.1 0)])) rfl ?_
  exact Zr_thrV C it_Xx_putPiece hD rfl p_Xx_put ml_Xx_37 0 (by decide) rfl rfl [.int (nI a), .int (nI b), .int (nI c), .int (nI 0)] (ct_Xx_put_x3 C.ev C.l hD _ _ _ a ha b hb c h32 hc false _) rfl rfl ⟨by decide, by decide, by decide, by decide⟩ (Nat.le_of_ble_eq_true rfl) rfl q htb (⟨rfl, rfl, rfl⟩) (by decide) (by decide)
set_option maxRecDepth 20000 in
theorem ct_Xx_putPiece_x4 {E : zE} (hE : zEv E) {l : Launch} (hl : l.stackTraces = false) {D : zD} (hD : zDok E D) (V : Nat → Nat → Int32) (P : Nat → Nat → Value) (PH : aH) (hF : okF (bF V 2)) (L : List zPos) (hch : chn PH (P 1 7) L) (a : Nat) (ha : a < 2) (b : Nat) (hb : b < 36) (c : Nat) (hc : c < 32) (hc0 : 1 ≤ c) (hac : acc_ L (bF V 2) a b false = false) (sz : Nat) : zM E l y_Xx_putPiece [.code y_Xx_putPiece c_Xx_putPiece 4 (some .int)] rm_Xx_putPiece [.ref (D.1 0), .int (nI a), .int (nI b), .int (nI c)] (HM D V P PH) sz (zThr X_ISE (HM D V P PH) sz) := by
  refine zM_of hE hl (by decide +kernel) [some (.ref (D.1 0)), some (.int (nI a)), some (.int (nI b)), some (.int (nI c))] ⟨rfl, rfl, Nat.le_of_ble_eq_true rfl⟩ ?_
  intro G C q htb
  refine Z_run C it_Xx_putPiece 5 (f2 := (5, [some (.ref (D.1 0)), some (.int (nI a)), some (.int (nI b)), some (.int (nI c))], [.int (nI 0), .int (nI c), .int (nI b), .int (nI a), .ref (D.1 0)])) rfl ?_
  exact Zr_thrV C it_Xx_putPiece hD rfl p_Xx_put ml_Xx_37 0 (by decide) rfl rfl [.int (nI a), .int (nI b), .int (nI c), .int (nI 0)] (ct_Xx_put_x4 C.ev C.l hD _ _ _ hF L hch a ha b hb c hc hc0 hac _) rfl rfl ⟨by decide, by decide, by decide, by decide⟩ (Nat.le_of_ble_eq_true rfl) rfl q htb (⟨rfl, rfl, rfl⟩) (by decide) (by decide)
set_option maxRecDepth 20000 in
theorem ct_Xx_putLeader {E : zE} (hE : zEv E) {l : Launch} (hl : l.stackTraces = false) {D : zD} (hD : zDok E D) (V : Nat → Nat → Int32) (P : Nat → Nat → Value) (PH : aH) (hF : okF (bF V 2)) (L : List zPos) (hch : chn PH (P 1 7) L) (gs : Nat → Nat) (hgs : isH D P gs) (n : Nat) (hn : V 6 1 = nI n) (h5n : n ≤ 5) (h5 : V 1 5 = 0 ∨ V 1 5 = 1) (h7 : P 1 7 = .null ∨ ∃ q, P 1 7 = .ref q) (W : Nat → Nat → Int32) (Q : Nat → Nat → Value) (hW : rmV V gs n = W) (hQ : rmP D P gs n = Q) (hWr : ∀ c, c < 6 ∨ 33 ≤ c → W c = V c) (hQr : ∀ c, c < 6 ∨ 33 ≤ c → Q c = P c) (a : Nat) (ha : a < 2) (b : Nat) (hb : b < 36) (c : Nat) (hc : c < 32) (hc0 : 1 ≤ c) (hac : acc_ L (bF V 2) a b true = true) (sz : Nat) : zM E l y_Xx_putLeader [.code y_Xx_putLeader c_Xx_putLeader 4 (some .int)] rm_Xx_putLeader [.ref (D.1 0), .int (nI a), .int (nI b), .int (nI c)] (HM D V P PH) sz (zRet (some (.int (nI (popc (sqs (plF (bF V 2) b (pof a c true)) a))))) (HM D (vset (vset W 3 b (nI (pof a c true))) 4 (sd (pof a c true)) (W 4 (sd (pof a c true)) + nI (wr (pof a c true)))) Q PH) sz) := by
  refine zM_of hE hl (by decide +kernel) [some (.ref (D.1 0)), some (.int (nI a)), some (.int (nI b)), some (.int (nI c))] ⟨rfl, rfl, Nat.le_of_ble_eq_true rfl⟩ ?_
  intro G C q htb
  refine Z_run C it_Xx_putLeader 5 (f2 := (5, [some (.ref (D.1 0)), some (.int (nI a)), some (.int (nI b)), some (.int (nI c))], [.int (nI 1), .int (nI c), .int (nI b), .int (nI a), .ref (D.1 0)])) rfl ?_
  refine Zr_callV C it_Xx_putLeader hD rfl p_Xx_put ml_Xx_37 0 (by decide) rfl rfl [.int (nI a), .int (nI b), .int (nI c), .int (nI 1)] (ct_Xx_put C.ev C.l hD _ _ _ hF L hch gs hgs n hn h5n h5 h7 W Q hW hQ hWr hQr a ha b hb c hc hc0 true hac _) rfl rfl ⟨by decide, by decide, by decide, by decide⟩ (Nat.le_of_ble_eq_true rfl) rfl ?_
  show Z E G (HM D (vset (vset W 3 b (nI (pof a c true))) 4 (sd (pof a c true)) (W 4 (sd (pof a c true)) + nI (wr (pof a c true)))) Q PH) sz 3 18 (8, [some (.ref (D.1 0)), some (.int (nI a)), some (.int (nI b)), some (.int (nI c))], [.int (nI (popc (sqs (plF (bF V 2) b (pof a c true)) a)))])
  exact Z_iret C q.e it_Xx_putLeader rfl (zRet_iH rfl rfl) (by decide) (by decide)
set_option maxRecDepth 20000 in
theorem ct_Xx_putLeader_x1 {E : zE} (hE : zEv E) {l : Launch} (hl : l.stackTraces = false) {D : zD} (hD : zDok E D) (V : Nat → Nat → Int32) (P : Nat → Nat → Value) (PH : aH) (a : Nat) (h32 : a < 4294967296) (ha : 2 ≤ a) (xb xc : Int32) (sz : Nat) : zM E l y_Xx_putLeader [.code y_Xx_putLeader c_Xx_putLeader 4 (some .int)] rm_Xx_putLeader [.ref (D.1 0), .int (nI a), .int xb, .int xc] (HM D V P PH) sz (zThr X_IOOBE (HM D V P PH) sz) := by
  refine zM_of hE hl (by decide +kernel) [some (.ref (D.1 0)), some (.int (nI a)), some (.int xb), some (.int xc)] ⟨rfl, rfl, Nat.le_of_ble_eq_true rfl⟩ ?_
  intro G C q htb
  refine Z_run C it_Xx_putLeader 5 (f2 := (5, [some (.ref (D.1 0)), some (.int (nI a)), some (.int xb), some (.int xc)], [.int (nI 1), .int xc, .int xb, .int (nI a), .ref (D.1 0)])) rfl ?_
  exact Zr_thrV C it_Xx_putLeader hD rfl p_Xx_put ml_Xx_37 0 (by decide) rfl rfl [.int (nI a), .int xb, .int xc, .int (nI 1)] (ct_Xx_put_x1 C.ev C.l hD _ _ _ a h32 ha xb xc true _) rfl rfl ⟨by decide, by decide, by decide, by decide⟩ (Nat.le_of_ble_eq_true rfl) rfl q htb (⟨rfl, rfl, rfl⟩) (by decide) (by decide)
set_option maxRecDepth 20000 in
theorem ct_Xx_putLeader_x2 {E : zE} (hE : zEv E) {l : Launch} (hl : l.stackTraces = false) {D : zD} (hD : zDok E D) (V : Nat → Nat → Int32) (P : Nat → Nat → Value) (PH : aH) (a : Nat) (ha : a < 2) (b : Nat) (h32 : b < 4294967296) (hb : 36 ≤ b) (xc : Int32) (sz : Nat) : zM E l y_Xx_putLeader [.code y_Xx_putLeader c_Xx_putLeader 4 (some .int)] rm_Xx_putLeader [.ref (D.1 0), .int (nI a), .int (nI b), .int xc] (HM D V P PH) sz (zThr X_IOOBE (HM D V P PH) sz) := by
  refine zM_of hE hl (by decide +kernel) [some (.ref (D.1 0)), some (.int (nI a)), some (.int (nI b)), some (.int xc)] ⟨rfl, rfl, Nat.le_of_ble_eq_true rfl⟩ ?_
  intro G C q htb
  refine Z_run C it_Xx_putLeader 5 (f2 := (5, [some (.ref (D.1 0)), some (.int (nI a)), some (.int (nI b)), some (.int xc)], [.int (nI 1), .int xc, .int (nI b), .int (nI a), .ref (D.1 0)])) rfl ?_
  exact Zr_thrV C it_Xx_putLeader hD rfl p_Xx_put ml_Xx_37 0 (by decide) rfl rfl [.int (nI a), .int (nI b), .int xc, .int (nI 1)] (ct_Xx_put_x2 C.ev C.l hD _ _ _ a ha b h32 hb xc true _) rfl rfl ⟨by decide, by decide, by decide, by decide⟩ (Nat.le_of_ble_eq_true rfl) rfl q htb (⟨rfl, rfl, rfl⟩) (by decide) (by decide)
set_option maxRecDepth 20000 in
theorem ct_Xx_putLeader_x3 {E : zE} (hE : zEv E) {l : Launch} (hl : l.stackTraces = false) {D : zD} (hD : zDok E D) (V : Nat → Nat → Int32) (P : Nat → Nat → Value) (PH : aH) (a : Nat) (ha : a < 2) (b : Nat) (hb : b < 36) (c : Nat) (h32 : c < 4294967296) (hc : c = 0 ∨ 32 ≤ c) (sz : Nat) : zM E l y_Xx_putLeader [.code y_Xx_putLeader c_Xx_putLeader 4 (some .int)] rm_Xx_putLeader [.ref (D.1 0), .int (nI a), .int (nI b), .int (nI c)] (HM D V P PH) sz (zThr X_IAE (HM D V P PH) sz) := by
  refine zM_of hE hl (by decide +kernel) [some (.ref (D.1 0)), some (.int (nI a)), some (.int (nI b)), some (.int (nI c))] ⟨rfl, rfl, Nat.le_of_ble_eq_true rfl⟩ ?_
  intro G C q htb
  refine Z_run C it_Xx_putLeader 5 (f2 := (5, [some (.ref (D.1 0)), some (.int (nI a)), some (.int (nI b)), some (.int (nI c))], [.int (nI 1), .int (nI c), .int (nI b), .int (nI a), .ref (D.1 0)])) rfl ?_
  exact Zr_thrV C it_Xx_putLeader hD rfl p_Xx_put ml_Xx_37 0 (by decide) rfl rfl [.int (nI a), .int (nI b), .int (nI c), .int (nI 1)] (ct_Xx_put_x3 C.ev C.l hD _ _ _ a ha b hb c h32 hc true _) rfl rfl ⟨by decide, by decide, by decide, by decide⟩ (Nat.le_of_ble_eq_true rfl) rfl q htb (⟨rfl, rfl, rfl⟩) (by decide) (by decide)
set_option maxRecDepth 20000 in
theorem ct_Xx_putLeader_x4 {E : zE} (hE : zEv E) {l : Launch} (hl : l.stackTraces = false) {D : zD} (hD : zDok E D) (V : Nat → Nat → Int32) (P : Nat → Nat → Value) (PH : aH) (hF : okF (bF V 2)) (L : List zPos) (hch : chn PH (P 1 7) L) (a : Nat) (ha : a < 2) (b : Nat) (hb : b < 36) (c : Nat) (hc : c < 32) (hc0 : 1 ≤ c) (hac : acc_ L (bF V 2) a b true = false) (sz : Nat) : zM E l y_Xx_putLeader [.code y_Xx_putLeader c_Xx_putLeader 4 (some .int)] rm_Xx_putLeader [.ref (D.1 0), .int (nI a), .int (nI b), .int (nI c)] (HM D V P PH) sz (zThr X_ISE (HM D V P PH) sz) := by
  refine zM_of hE hl (by decide +kernel) [some (.ref (D.1 0)), some (.int (nI a)), some (.int (nI b)), some (.int (nI c))] ⟨rfl, rfl, Nat.le_of_ble_eq_true rfl⟩ ?_
  intro G C q htb
  refine Z_run C it_Xx_putLeader 5 (f2 := (5, [some (.ref (D.1 0)), some (.int (nI a)), some (.int (nI b)), some (.int (nI c))], [.int (nI 1), .int (nI c), .int (nI b), .int (nI a), .ref (D.1 0)])) rfl ?_
  exact Zr_thrV C it_Xx_putLeader hD rfl p_Xx_put ml_Xx_37 0 (by decide) rfl rfl [.int (nI a), .int (nI b), .int (nI c), .int (nI 1)] (ct_Xx_put_x4 C.ev C.l hD _ _ _ hF L hch a ha b hb c hc hc0 hac _) rfl rfl ⟨by decide, by decide, by decide, by decide⟩ (Nat.le_of_ble_eq_true rfl) rfl q htb (⟨rfl, rfl, rfl⟩) (by decide) (by decide)
