/-! ===== the class's game: what put, start and move leave behind ===== -/
/-- a position more -/
theorem chn_new {PH : aH} {v : Value} {L : List zPos} {q0 : Nat} {p : zPos} (hch : chn PH v L) (hp : zPok p) (hq : PH q0 = none) : chn (hset PH q0 (pcl v p.1 p.2.1 p.2.2)) (.ref q0) (p :: L) := ⟨q0, v, rfl, hset_s, hp, chn_set hq hch⟩
theorem atH_fr {D : zD} {V V2 : Nat → Nat → Int32} {P P2 : Nat → Nat → Value} {H : List zGm} {gs : Nat → Nat} (h : atH D V P H gs) (hV : ∀ c, 6 ≤ c → c ≤ 32 → V2 c = V c) (hP : ∀ c, 7 ≤ c → c ≤ 28 → P2 c = P c) : atH D V2 P2 H gs := by
  obtain ⟨h1, h2, h3, h4, h5, h6⟩ := h
  refine ⟨fun k hk => ?_, h2, h3, by rw [hV 6 (by decide) (by decide)]; exact h4, h5, fun i y hy => ?_⟩
  · rw [hP 7 (by decide) (by decide)]
    exact h1 k hk
  · have hi : i < 5 := by
      have := (List.getElem?_eq_some_iff.mp hy).1
      omega
    have g1 := (h1 i hi).2.2
    have g2 := h2 i hi
    exact atG_fr (h6 i y hy) (hV _ (by omega) (by omega)) (hV _ (by omega) (by omega)) (hV _ (by omega) (by omega)) (hV _ (by omega) (by omega)) (by rw [hP _ (by omega) (by omega)])
theorem pn_lt (x : Int32) : pn x < 4294967296 := x.toBitVec.isLt
theorem bF_ro {V W : Nat → Nat → Int32} (h : W 3 = V 3) : bF W 2 = bF V 2 := by
  funext k
  unfold bF
  show pn (W 3 k) = pn (V 3 k)
  rw [h]
/-- the class's game: its board, its positions, whose turn it is, how many moves, whether it is over, who won; its history is whatever it is; the accounts are the worths -/
def GS (D : zD) (V : Nat → Nat → Int32) (P : Nat → Nat → Value) (PH : aH) (sz : Nat) (F : Nat → Nat) (L : List zPos) (tn md : Nat) (ov : Bool) (ch : Option Nat) : Prop :=
  (okP D PH ∧ okS D PH sz ∧ chn PH (P 1 7) L) ∧ (bF V 2 = F ∧ okF F ∧ one_ F ∧ ∀ s, s < 2 → cnt (fun k => hld F k s) 36 ≤ 8) ∧ (tn < 2 ∧ V 1 3 = nI tn) ∧ V 1 4 = nI md ∧ V 1 5 = bI ov ∧ (V 1 6 = oI ch ∧ ∀ k, ch = some k → k < 2) ∧ (∃ (H : List zGm) (gs : Nat → Nat), atH D V P H gs) ∧ ∀ s, s < 2 → V 4 s = nI (wos F s 36)
/-- what lies elsewhere stays -/
theorem GS_fr {D : zD} {V V2 : Nat → Nat → Int32} {P P2 : Nat → Nat → Value} {PH : aH} {sz : Nat} {F : Nat → Nat} {L : List zPos} {tn md : Nat} {ov : Bool} {ch : Option Nat} (h : GS D V P PH sz F L tn md ov ch) (hV : ∀ c, c ≤ 33 → V2 c = V c) (hP : ∀ c, c ≤ 33 → P2 c = P c) : GS D V2 P2 PH sz F L tn md ov ch := by
  obtain ⟨⟨a1, a2, a3⟩, ⟨b1, b2⟩, ⟨c1, c2⟩, d, e, ⟨f1, f2⟩, ⟨H, gs, g⟩, i⟩ := h
  refine ⟨⟨a1, a2, by rw [hP 1 (by decide)]; exact a3⟩, ⟨(bF_ro (hV 3 (by decide))).trans b1, b2⟩, ⟨c1, by rw [hV 1 (by decide)]; exact c2⟩, by rw [hV 1 (by decide)]; exact d, by rw [hV 1 (by decide)]; exact e, ⟨by rw [hV 1 (by decide)]; exact f1, f2⟩, ⟨H, gs, atH_fr g (fun c c1 c2 => hV c (by omega)) (fun c c1 c2 => hP c (by omega))⟩, fun s hs => by rw [hV 4 (by decide)]; exact i s hs⟩
theorem GS_pcs {D : zD} {V : Nat → Nat → Int32} {P : Nat → Nat → Value} {PH : aH} {sz : Nat} {F : Nat → Nat} {L : List zPos} {tn md : Nat} {ov : Bool} {ch : Option Nat} (h : GS D V P PH sz F L tn md ov ch) : pcs_ F ≤ 16 := by
  obtain ⟨-, ⟨-, -, -, h4⟩, -⟩ := h
  have h0 := h4 0 (by decide)
  have h1 := h4 1 (by decide)
  have : ∀ n : Nat, cnt (fun k => F k != 0) n = cnt (fun k => hld F k 0) n + cnt (fun k => hld F k 1) n := by
    intro n
    induction n with
    | zero => rfl
    | succ n ih =>
      have e0 : cnt (fun k => F k != 0) (n + 1) = cnt (fun k => F k != 0) n + if (F n != 0) = true then 1 else 0 := rfl
      have e1 : cnt (fun k => hld F k 0) (n + 1) = cnt (fun k => hld F k 0) n + if hld F n 0 = true then 1 else 0 := rfl
      have e2 : cnt (fun k => hld F k 1) (n + 1) = cnt (fun k => hld F k 1) n + if hld F n 1 = true then 1 else 0 := rfl
      rw [e0, e1, e2, ih]
      have hs := sd_le (F n)
      unfold hld
      by_cases h9 : F n = 0
      · simp [h9]
      · rcases (show sd (F n) = 0 ∨ sd (F n) = 1 by omega) with g | g
        · simp [h9, g]; omega
        · simp [h9, g]; omega
  unfold pcs_
  rw [this 36]
  omega
/-! the worths behind a change -/
theorem smp_up {f g : Nat → Nat} {j : Nat} : ∀ {n : Nat}, j < n → (∀ k, k < n → k ≠ j → f k = g k) → smp f n + g j = smp g n + f j := by
  intro n
  induction n with
  | zero => intro h; omega
  | succ n ih =>
    intro h h1
    have e1 : smp f (n + 1) = smp f n + f n := rfl
    have e2 : smp g (n + 1) = smp g n + g n := rfl
    rw [e1, e2]
    by_cases e : j = n
    · subst e
      rw [smp_ext (fun k hk => h1 k (by omega) (by omega))]
      omega
    · have := ih (by omega) (fun k hk hkj => h1 k (by omega) hkj)
      rw [h1 n (by omega) (Ne.symm e)]
      omega
theorem wos_up {F : Nat → Nat} {b p s : Nat} (hb : b < 36) : wos (plF F b p) s 36 + (if hld F b s then wr (F b) else 0) = wos F s 36 + (if (p != 0 && sd p == s) then wr p else 0) := by
  have h := smp_up (f := fun k => if hld (plF F b p) k s then wr (plF F b p k) else 0) (g := fun k => if hld F k s then wr (F k) else 0) (j := b) (n := 36) hb (fun k hk hkb => by
    rw [hld_pl, if_neg hkb]
    unfold plF
    rw [if_neg hkb])
  rw [hld_pl, if_pos rfl] at h
  have e : plF F b p b = p := if_pos rfl
  rw [e] at h
  exact h
theorem mvF_pl (F : Nat → Nat) (a b : Nat) : mvF F a b = plF (plF F b (crr F a b)) a 0 := rfl
theorem wr_00 : wr 0 = 0 := by decide
theorem wos_mv {F : Nat → Nat} (hF : okF F) {a b tn : Nat} (ha : a < 36) (hb : b < 36) (htn : tn < 2) (h1 : hld F a tn = true) (h2 : hld F b tn = false) : wos (mvF F a b) tn 36 = wos F tn 36 + wst (lrn (F a) (F b)) ∧ wos (mvF F a b) (1 - tn) 36 + wr (F b) = wos F (1 - tn) 36 := by
  have hab : a ≠ b := fun e => by rw [e] at h1; rw [h1] at h2; cases h2
  obtain ⟨h0, hs⟩ := hld_sd h1
  have hc0 : crr F a b ≠ 0 := by rw [crr_lra]; exact lra_ne h0
  have hcs : sd (crr F a b) = tn := by rw [crr_lra, (sd_lra _ (hF a ha) _ (hF b hb)).1, hs]
  have hcw : wr (crr F a b) = wr (F a) + wst (lrn (F a) (F b)) := by rw [crr_lra]; exact (lra_tb _ (hF a ha) _ (hF b hb)).2
  have hGa : plF F b (crr F a b) a = F a := if_neg hab
  have u1 := wos_up (F := F) (b := b) (p := crr F a b) (s := tn) hb
  have u2 := wos_up (F := plF F b (crr F a b)) (b := a) (p := 0) (s := tn) ha
  have u3 := wos_up (F := F) (b := b) (p := crr F a b) (s := 1 - tn) hb
  have u4 := wos_up (F := plF F b (crr F a b)) (b := a) (p := 0) (s := 1 - tn) ha
  rw [hld_pl, if_neg hab, hGa] at u2 u4
  rw [h1, if_pos rfl] at u2
  rw [h2] at u1
  have g1 : (crr F a b != 0 && sd (crr F a b) == tn) = true := by rw [hcs]; simp [hc0]
  have hnt : ¬ tn = 1 - tn := by omega
  have g2 : (crr F a b != 0 && sd (crr F a b) == 1 - tn) = false := by rw [hcs]; simp [hnt]
  have g3 : hld F a (1 - tn) = false := by unfold hld; rw [hs]; simp [hnt]
  rw [g1, if_pos rfl] at u1
  rw [g2] at u3
  rw [g3] at u4
  rw [if_neg (by decide)] at u1
  have z0 : (0 != 0 && sd 0 == tn) = false := rfl
  have z1 : (0 != 0 && sd 0 == 1 - tn) = false := rfl
  rw [z0, if_neg (by decide)] at u2
  rw [z1, if_neg (by decide), if_neg (by decide)] at u4
  rw [mvF_pl]
  refine ⟨by omega, ?_⟩
  by_cases hb0 : F b = 0
  · rw [hb0, wr_00]
    have g4 : hld F b (1 - tn) = false := by unfold hld; rw [hb0]; rfl
    rw [g4, if_neg (by decide), if_neg (by decide)] at u3
    omega
  · have g4 : hld F b (1 - tn) = true := by
      have hsb := sd_le (F b)
      have hne : ¬ sd (F b) = tn := fun z => by
        have : hld F b tn = true := hld_t hb0 z
        rw [this] at h2; cases h2
      exact hld_t hb0 (by omega)
    rw [g4, if_pos rfl, if_neg (by decide)] at u3
    omega
/-! the calls -/
section GSC
variable {E : zE} {l : Launch} {D : zD} {V : Nat → Nat → Int32} {P : Nat → Nat → Value} {PH : aH} {sz : Nat} {F : Nat → Nat} {L : List zPos} {tn md : Nat} {ov : Bool} {ch : Option Nat}
/-- a piece is put -/
def zPt (D : zD) (V : Nat → Nat → Int32) (P : Nat → Nat → Value) (PH : aH) (sz : Nat) (F : Nat → Nat) (s b p : Nat) : zO := fun o h2 s2 => o = .inl (some (.int (nI (cnt (fun k => hld (plF F b p) k s) 36)))) ∧ s2 = sz ∧ ∃ (V2 : Nat → Nat → Int32) (P2 : Nat → Nat → Value), h2 = HM D V2 P2 PH ∧ GS D V2 P2 PH sz (plF F b p) [] 0 0 false none ∧ (∀ c, 34 ≤ c → V2 c = V c) ∧ (∀ c, 34 ≤ c → P2 c = P c) ∧ V2 4 s = V 4 s + nI (wr p) ∧ V2 4 (1 - s) = V 4 (1 - s) ∧ V2 5 = V 5
theorem bI_01 (b : Bool) : bI b = 0 ∨ bI b = 1 := by cases b <;> decide
theorem gs_put (hE : zEv E) (hl : l.stackTraces = false) (hD : zDok E D) (h : GS D V P PH sz F [] 0 0 false none) (s : Nat) (hs : s < 2) (b : Nat) (hb : b < 36) (c : Nat) (hc : c < 32) (hc0 : 1 ≤ c) (ld : Bool) (hac : acc_ [] F s b ld = true) : zM E l y_Lw_puts [.codeWith y_Lw_puts c_Lw_puts 6 (some .int) hh_Lw_puts] rm_Lw_puts [.ref (D.1 0), .int (if ld then nI 1 else nI 0), .int (nI s), .int (nI b), .int (nI c)] (HM D V P PH) sz (zPt D V P PH sz F s b (pof s c ld)) := by
  obtain ⟨⟨hP, hS, hch⟩, ⟨hFV, hF, h1, h8⟩, ⟨htn, htc⟩, hmc, hoc, ⟨hcc, hc2⟩, ⟨H, gs, hH⟩, hacc⟩ := h
  subst hFV
  have hl5 : H.length ≤ 5 := hH.2.2.2.2.1
  have hgs : isH D P gs := hH.1
  have hn6 : V 6 1 = nI H.length := hH.2.2.2.1
  have h5 : V 1 5 = 0 ∨ V 1 5 = 1 := by rw [hoc]; exact bI_01 _
  have h7 := chn_v hch
  obtain ⟨gs2, hH2, hWr, hQr⟩ := psh_H (g := (V 1, V 3, V 4, V 5, P 1 7, [])) hH ⟨rfl, rfl, rfl, rfl, rfl⟩
  obtain ⟨W, eW⟩ : ∃ W, rmV V gs H.length = W := ⟨_, rfl⟩
  obtain ⟨Q, eQ⟩ : ∃ Q, rmP D P gs H.length = Q := ⟨_, rfl⟩
  rw [eW, eQ] at hH2
  rw [eW] at hWr
  rw [eQ] at hQr
  obtain ⟨sp1, sp2⟩ := sd_pof s hs c hc ld
  have hp := pof_lt (ld := ld) hs hc
  have hp0 : pof s c ld ≠ 0 := pof_ne hc0
  have key : ∀ o h2 s2, zRet (some (.int (nI (popc (sqs (plF (bF V 2) b (pof s c ld)) s))))) (HM D (vset (vset W 3 b (nI (pof s c ld))) 4 (sd (pof s c ld)) (W 4 (sd (pof s c ld)) + nI (wr (pof s c ld)))) Q PH) sz o h2 s2 → zPt D V P PH sz (bF V 2) s b (pof s c ld) o h2 s2 := by
    rintro o h2 s2 ⟨e1, e2, e3⟩
    obtain ⟨V2, eV2⟩ : ∃ V2, vset (vset W 3 b (nI (pof s c ld))) 4 (sd (pof s c ld)) (W 4 (sd (pof s c ld)) + nI (wr (pof s c ld))) = V2 := ⟨_, rfl⟩
    rw [eV2] at e2
    have eo : ∀ c, c ≠ 3 → c ≠ 4 → V2 c = W c := fun c c1 c2 => by rw [← eV2, vset_n c2, vset_n c1]
    have e3' : V2 3 = upd (V 3) b (nI (pof s c ld)) := by rw [← eV2, vset_n (by decide), vset_s, hWr 3 (by omega)]
    have e4 : V2 4 = upd (V 4) s (V 4 s + nI (wr (pof s c ld))) := by
      rw [← eV2, vset_s, vset_n (by decide), sp1, hWr 4 (by omega)]
    have hFe : bF V2 2 = plF (bF V 2) b (pof s c ld) := by
      funext k
      show pn (V2 3 k) = plF (bF V 2) b (pof s c ld) k
      rw [e3']
      unfold upd plF
      split
      · exact pn_nI (by omega)
      · rfl
    have hac2 := hac
    unfold acc_ at hac2
    simp only [List.isEmpty_nil, Bool.true_and, Bool.and_eq_true, beq_iff_eq, decide_eq_true_eq, Bool.not_eq_true', Bool.and_eq_false_iff] at hac2
    obtain ⟨hb0, h88, hll⟩ := hac2
    rw [popc_sqs] at h88 e1
    have hlk : ld = true → ∀ k, k < 36 → (hld (bF V 2) k s && ldr (bF V 2 k)) = false := fun q1 k hk => by
      rcases hll with q | q
      · rw [q1] at q; cases q
      · have q2 : lsq (bF V 2) s = none := by cases hq : lsq (bF V 2) s with
                                             | none => rfl
                                             | some j => rw [hq] at q; cases q
        exact ffr_none.mp q2 k (Nat.zero_le k) (by omega)
    refine ⟨e1, e3, V2, Q, e2, ⟨⟨hP, hS, by rw [hQr 1 (by omega)]; exact hch⟩, ⟨hFe, okF_pl hF hp, one_pl h1 (fun q1 q2 k hk => by rw [sp1]; rw [sp2] at q1; exact hlk q1 k hk), fun s9 hs9 => ?_⟩, ⟨by decide, by rw [eo 1 (by decide) (by decide), hWr 1 (by omega)]; exact htc⟩, by rw [eo 1 (by decide) (by decide), hWr 1 (by omega)]; exact hmc, by rw [eo 1 (by decide) (by decide), hWr 1 (by omega)]; exact hoc, ⟨by rw [eo 1 (by decide) (by decide), hWr 1 (by omega)]; exact hcc, fun k hk => by cases hk⟩, ⟨_, gs2, atH_fr hH2 (fun c c1 c2 => eo c (by omega) (by omega)) (fun _ _ _ => rfl)⟩, fun s9 hs9 => ?_⟩, fun c c1 => by rw [eo c (by omega) (by omega), hWr c (by omega)], fun c c1 => hQr c (by omega), by rw [e4, upd_s], by rw [e4, upd_n (by omega)], by rw [eo 5 (by decide) (by decide), hWr 5 (by omega)]⟩
    · by_cases e : s9 = s
      · subst e
        exact Nat.le_trans (cnt_pl hb) h88
      · exact Nat.le_trans (cnt_ps (Or.inr (by rw [sp1]; omega))) (h8 s9 hs9)
    · have u := wos_up (F := bF V 2) (b := b) (p := pof s c ld) (s := s9) hb
      have hnb : hld (bF V 2) b s9 = false := by unfold hld; rw [hb0]; rfl
      rw [hnb, if_neg (by decide), Nat.add_zero, sp1] at u
      have e9 : (pof s c ld != 0) = true := bne_iff_ne.mpr hp0
      rw [e9, Bool.true_and] at u
      rw [e4]
      by_cases e : s9 = s
      · subst e
        rw [upd_s, hacc s9 hs9, nI_add]
        rw [if_pos (by simp)] at u
        rw [u]
      · rw [upd_n e, hacc s9 hs9]
        have e8 : (s == s9) = false := by simp; omega
        rw [e8, if_neg (by decide)] at u
        rw [u]; rfl
  cases ld with
  | true => exact zM_mono (wr_putsL hE hl hD V P PH (nI s) (nI b) (nI c) sz (fun l hl => ct_Xx_putLeader hE hl hD V P PH hF [] hch gs hgs H.length hn6 hl5 h5 h7 W Q eW eQ hWr hQr s hs b hb c hc hc0 hac sz) okI_ret okX_ret) (fun o h2 s2 q => key o h2 s2 (zWp_ret o h2 s2 q))
  | false => exact zM_mono (wr_putsP hE hl hD V P PH (nI s) (nI b) (nI c) sz (fun l hl => ct_Xx_putPiece hE hl hD V P PH hF [] hch gs hgs H.length hn6 hl5 h5 h7 W Q eW eQ hWr hQr s hs b hb c hc hc0 hac sz) okI_ret okX_ret) (fun o h2 s2 q => key o h2 s2 (zWp_ret o h2 s2 q))
theorem gs_putx (hE : zEv E) (hl : l.stackTraces = false) (hD : zDok E D) (h : GS D V P PH sz F [] 0 0 false none) (s : Nat) (hs : s < 2) (b : Nat) (hb : b < 36) (c : Nat) (hc : c < 32) (hc0 : 1 ≤ c) (ld : Bool) (hac : acc_ [] F s b ld = false) : zM E l y_Lw_puts [.codeWith y_Lw_puts c_Lw_puts 6 (some .int) hh_Lw_puts] rm_Lw_puts [.ref (D.1 0), .int (if ld then nI 1 else nI 0), .int (nI s), .int (nI b), .int (nI c)] (HM D V P PH) sz (zRet (some (.int (-103))) (HM D V P PH) sz) := by
  obtain ⟨⟨hP, hS, hch⟩, ⟨hFV, hF, -⟩, -⟩ := h
  subst hFV
  cases ld with
  | true => exact zM_mono (wr_putsL hE hl hD V P PH (nI s) (nI b) (nI c) sz (fun l hl => ct_Xx_putLeader_x4 hE hl hD V P PH hF [] hch s hs b hb c hc hc0 hac sz) okI_thr okX_thr) zWp_thr
  | false => exact zM_mono (wr_putsP hE hl hD V P PH (nI s) (nI b) (nI c) sz (fun l hl => ct_Xx_putPiece_x4 hE hl hD V P PH hF [] hch s hs b hb c hc hc0 hac sz) okI_thr okX_thr) zWp_thr
/-- the game is started -/
def zSx (D : zD) (V : Nat → Nat → Int32) (P : Nat → Nat → Value) (F : Nat → Nat) : zO := fun o h2 s2 => o = .inl (some (.int (nI (mvs F 0 36)))) ∧ ∃ (V2 : Nat → Nat → Int32) (P2 : Nat → Nat → Value) (PH2 : aH), h2 = HM D V2 P2 PH2 ∧ GS D V2 P2 PH2 s2 F [(0, pq4 F, 1)] 0 0 (mvs F 0 36 == 0) none ∧ (∀ c, 34 ≤ c → V2 c = V c) ∧ (∀ c, 34 ≤ c → P2 c = P c) ∧ V2 4 = V 4 ∧ V2 5 = V 5
theorem gs_start (hE : zEv E) (hl : l.stackTraces = false) (hD : zDok E D) (h : GS D V P PH sz F [] 0 0 false none) (h0 : (lsq F 0).isSome = true) (h1 : (lsq F 1).isSome = true) : zM E l y_Lw_starts [.codeWith y_Lw_starts c_Lw_starts 2 (some .int) hh_Lw_starts] rm_Lw_starts [.ref (D.1 0)] (HM D V P PH) sz (zSx D V P F) := by
  obtain ⟨⟨hP, hS, hch⟩, ⟨hFV, hF, ho, h8⟩, ⟨htn, htc⟩, hmc, hoc, ⟨hcc, hc2⟩, ⟨H, gs, hH⟩, hacc⟩ := h
  subst hFV
  have hl5 : H.length ≤ 5 := hH.2.2.2.2.1
  have hgs : isH D P gs := hH.1
  have hn6 : V 6 1 = nI H.length := hH.2.2.2.1
  have h5 : V 1 5 = 0 ∨ V 1 5 = 1 := by rw [hoc]; exact bI_01 _
  have h7 := chn_v hch
  obtain ⟨gs2, hH2, hWr, hQr⟩ := psh_H (g := (V 1, V 3, V 4, V 5, P 1 7, [])) hH ⟨rfl, rfl, rfl, rfl, rfl⟩
  obtain ⟨W, eW⟩ : ∃ W, rmV V gs H.length = W := ⟨_, rfl⟩
  obtain ⟨Q, eQ⟩ : ∃ Q, rmP D P gs H.length = Q := ⟨_, rfl⟩
  rw [eW, eQ] at hH2
  rw [eW] at hWr
  rw [eQ] at hQr
  have hcb : cbg [] (bF V 2) = true := by unfold cbg; rw [h0, h1]; rfl
  have eb : bF W 2 = bF V 2 := bF_ro (hWr 3 (by omega))
  refine zM_mono (wr_starts hE hl hD V P PH sz (fun l hl => ct_Xx_start hE hl hD V P PH hF [] hch gs hgs H.length hn6 hl5 h5 h7 W Q eW eQ hWr hQr 0 htn htc hP hcb sz hS) zNewP_okI zNewP_okX) (fun o h2 s2 q => ?_)
  obtain ⟨q0, g1, g2, g3, g4, g5, g6⟩ := zWp_NewP o h2 s2 q
  rw [eb] at g4 g5
  subst g6
  obtain ⟨V2, eV2⟩ : ∃ V2, vset W 1 5 (bI (mvs (bF V 2) 0 36 == 0)) = V2 := ⟨_, rfl⟩
  rw [eV2] at g5
  have eo : ∀ c, c ≠ 1 → V2 c = W c := fun c c1 => by rw [← eV2, vset_n c1]
  have e1 : V2 1 = upd (V 1) 5 (bI (mvs (bF V 2) 0 36 == 0)) := by rw [← eV2, vset_s, hWr 1 (by omega)]
  have ev : ∀ c, 34 ≤ c → V2 c = V c := fun c c1 => by rw [eo c (by omega), hWr c (by omega)]
  refine ⟨g4, V2, _, _, g5, ⟨⟨okP_set hP g2, okS_set hS g1, ?_⟩, ⟨bF_ro (by rw [eo 3 (by decide), hWr 3 (by omega)]), hF, ho, h8⟩, ⟨by decide, by rw [e1, upd_n (by decide)]; exact htc⟩, by rw [e1, upd_n (by decide)]; exact hmc, by rw [e1, upd_s], ⟨by rw [e1, upd_n (by decide)]; exact hcc, hc2⟩, ⟨_, gs2, atH_fr hH2 (fun c c1 c2 => eo c (by omega)) (fun c c1 c2 => by rw [pset_n (by omega)])⟩, fun s hs => by rw [eo 4 (by decide), hWr 4 (by omega)]; exact hacc s hs⟩, ev, fun c c1 => by rw [pset_n (by omega)]; exact hQr c (by omega), by rw [eo 4 (by decide), hWr 4 (by omega)], by rw [eo 5 (by decide), hWr 5 (by omega)]⟩
  rw [pset_s, hQr 1 (by omega)]
  exact chn_new (p := (0, pq4 (bF V 2), 1)) hch ⟨(by show 0 < 2; decide), fun j hj => qtr_63 hF (by omega) (by omega), (by show 1 < 2 ^ 31; decide)⟩ g3
theorem gs_startx (hE : zEv E) (hl : l.stackTraces = false) (hD : zDok E D) (h : GS D V P PH sz F L tn md ov ch) (hL : L.isEmpty = false) : zM E l y_Lw_starts [.codeWith y_Lw_starts c_Lw_starts 2 (some .int) hh_Lw_starts] rm_Lw_starts [.ref (D.1 0)] (HM D V P PH) sz (zRet (some (.int (-101))) (HM D V P PH) sz) := by
  obtain ⟨⟨hP, hS, hch⟩, ⟨hFV, hF, -⟩, -⟩ := h
  subst hFV
  exact zM_mono (wr_starts hE hl hD V P PH sz (fun l hl => ct_Xx_start_x hE hl hD V P PH hF L hch (by unfold cbg; rw [hL]; rfl) sz) okI_thr okX_thr) zWp_thr
/-- a move is made -/
def chm (F : Nat → Nat) (tn b : Nat) (ch : Option Nat) : Option Nat := if ldr (F b) then some tn else ch
def ovm (F : Nat → Nat) (L : List zPos) (tn a b : Nat) (ch : Option Nat) : Bool := ovr (chm F tn b ch) (n1t (1 - tn) (mvF F a b) L) (mvs (mvF F a b) (1 - tn) 36)
def mvl (F : Nat → Nat) (L : List zPos) (tn a b : Nat) : List zPos := (1 - tn, pq4 (mvF F a b), n1t (1 - tn) (mvF F a b) L) :: L
def zMv (D : zD) (V : Nat → Nat → Int32) (P : Nat → Nat → Value) (F : Nat → Nat) (L : List zPos) (tn md : Nat) (ch : Option Nat) (a b : Nat) : zO := fun o h2 s2 => o = .inl (some (.int (nI (wr (F b))))) ∧ ∃ (V2 : Nat → Nat → Int32) (P2 : Nat → Nat → Value) (PH2 : aH), h2 = HM D V2 P2 PH2 ∧ GS D V2 P2 PH2 s2 (mvF F a b) (mvl F L tn a b) (1 - tn) (md + 1) (ovm F L tn a b ch) (chm F tn b ch) ∧ (∀ c, 34 ≤ c → V2 c = V c) ∧ (∀ c, 34 ≤ c → P2 c = P c) ∧ V2 4 tn = V 4 tn + nI (wst (lrn (F a) (F b))) ∧ V2 4 (1 - tn) = V 4 (1 - tn) - nI (wr (F b)) ∧ V2 5 tn = V 5 tn + nI (wr (F b)) ∧ V2 5 (1 - tn) = V 5 (1 - tn)
theorem rsn_0 {a b : Nat} (h : rsn L ov F tn a b = 0) : L.isEmpty = false ∧ ov = false ∧ hld F a tn = true ∧ hld F b tn = false ∧ (gfa F a (sd (F a))).testBit b = true := by
  unfold rsn at h
  cases hL : L.isEmpty with
  | true => rw [hL] at h; simp at h
  | false =>
    cases ho : ov with
    | true => rw [hL, ho] at h; simp at h
    | false =>
      rw [hL, ho] at h
      cases h1 : hld F a tn with
      | false => rw [h1] at h; simp at h
      | true =>
        cases h2 : hld F b tn with
        | true => rw [h1, h2] at h; simp at h
        | false =>
          rw [h1, h2] at h
          refine ⟨rfl, rfl, rfl, rfl, ?_⟩
          cases h3 : (gfa F a (sd (F a))).testBit b with
          | true => rfl
          | false => rw [h3] at h; simp at h
theorem gs_move (hE : zEv E) (hl : l.stackTraces = false) (hD : zDok E D) (h : GS D V P PH sz F L tn md ov ch) (hn1 : ∀ t F, n1t t F L ≤ 1000) (a : Nat) (ha : a < 36) (b : Nat) (hb : b < 36) (h9 : rsn L ov F tn a b = 0) : zM E l y_Lw_move [.codeWith y_Lw_move c_Lw_move 4 (some .int) hh_Lw_move] rm_Lw_move [.ref (D.1 0), .int (nI a), .int (nI b)] (HM D V P PH) sz (zMv D V P F L tn md ch a b) := by
  obtain ⟨⟨hP, hS, hch⟩, ⟨hFV, hF, ho, h8⟩, ⟨htn, htc⟩, hmc, hoc, ⟨hcc, hc2⟩, ⟨H, gs, hH⟩, hacc⟩ := h
  subst hFV
  have hl5 : H.length ≤ 5 := hH.2.2.2.2.1
  have hgs : isH D P gs := hH.1
  have hn6 : V 6 1 = nI H.length := hH.2.2.2.1
  have h5 : V 1 5 = 0 ∨ V 1 5 = 1 := by rw [hoc]; exact bI_01 _
  have h7 := chn_v hch
  obtain ⟨gs2, hH2, hWr, hQr⟩ := psh_H (g := (V 1, V 3, V 4, V 5, P 1 7, L)) hH ⟨rfl, rfl, rfl, rfl, rfl⟩
  obtain ⟨W, eW⟩ : ∃ W, rmV V gs H.length = W := ⟨_, rfl⟩
  obtain ⟨Q, eQ⟩ : ∃ Q, rmP D P gs H.length = Q := ⟨_, rfl⟩
  rw [eW, eQ] at hH2
  rw [eW] at hWr
  rw [eQ] at hQr
  have eb : bF W 2 = bF V 2 := bF_ro (hWr 3 (by omega))
  obtain ⟨-, -, r3, r4, -⟩ := rsn_0 h9
  have hab : a ≠ b := fun e => by rw [e] at r3; rw [r3] at r4; cases r4
  have ha0 : bF V 2 a ≠ 0 := (hld_sd r3).1
  refine zM_mono (wr_move hE hl hD V P PH (nI a) (nI b) sz (fun l hl => ct_Xx_move hE hl hD V P PH hF L hch gs hgs H.length hn6 hl5 h5 h7 W Q eW eQ hWr hQr tn htn htc ov hoc md hmc ch hcc hc2 (fun t F => Nat.lt_of_le_of_lt (hn1 t F) (by decide)) hP a ha b hb h9 sz hS) zNewP_okI zNewP_okX) (fun o h2 s2 q => ?_)
  obtain ⟨q0, g1, g2, g3, g4, g5, g6⟩ := zWp_NewP o h2 s2 q
  subst g6
  obtain ⟨V2, eV2⟩ : ∃ V2, mvC W L tn md ch a b = V2 := ⟨_, rfl⟩
  have eV3 := eV2
  unfold mvC at eV3
  rw [eV3] at g5
  rw [eb] at g4 g5
  have eo : ∀ c, 6 ≤ c → V2 c = W c := fun c c1 => by rw [← eV2]; exact mvC_o c1
  obtain ⟨q1, q2, q3⟩ := mvC_14 (W := W) (L := L) (tn := tn) (md := md) (ch := ch) (a := a) (b := b)
  have q4 := mvC_16 (W := W) (L := L) (tn := tn) (md := md) (ch := ch) (a := a) (b := b)
  have q5 := mvC_4 (W := W) (L := L) (tn := tn) (md := md) (ch := ch) (a := a) (b := b)
  have q6 := mvC_5 (W := W) (L := L) (tn := tn) (md := md) (ch := ch) (a := a) (b := b)
  have q7 : bF (mvC W L tn md ch a b) 2 = mvF (bF W 2) a b := mvC_F (by rw [eb]; exact hF) ha
  rw [eV2] at q1 q2 q3 q4 q5 q6 q7
  rw [eb] at q3 q4 q5 q6 q7
  rw [hWr 4 (by omega)] at q5
  rw [hWr 5 (by omega)] at q6
  rw [hWr 1 (by omega)] at q4
  have hne : tn ≠ 1 - tn := by omega
  have e4a : V2 4 tn = V 4 tn + nI (wst (lrn (bF V 2 a) (bF V 2 b))) := by rw [q5, upd_n hne, upd_s]
  have e4b : V2 4 (1 - tn) = V 4 (1 - tn) - nI (wr (bF V 2 b)) := by rw [q5, upd_s, upd_n (Ne.symm hne)]
  obtain ⟨w1, w2⟩ := wos_mv hF ha hb htn r3 r4
  refine ⟨g4, V2, _, _, g5, ⟨⟨okP_set hP g2, okS_set hS g1, ?_⟩, ⟨q7, okF_mv hF ha, one_mv hF ho ha hb hab ha0, fun s hs => Nat.le_trans (cnt_mv hF ha hb hab ha0 s) (h8 s hs)⟩, ⟨by omega, q2⟩, q1, q3, ⟨?_, fun k hk => ?_⟩, ⟨_, gs2, atH_fr hH2 (fun c c1 c2 => eo c (by omega)) (fun c c1 c2 => by rw [pset_n (by omega)])⟩, fun s hs => ?_⟩, fun c c1 => by rw [eo c (by omega), hWr c (by omega)], fun c c1 => by rw [pset_n (by omega)]; exact hQr c (by omega), e4a, e4b, by rw [q6, upd_s], by rw [q6, upd_n (Ne.symm hne)]⟩
  · rw [pset_s, hQr 1 (by omega)]
    exact chn_new (p := (1 - tn, pq4 (mvF (bF V 2) a b), n1t (1 - tn) (mvF (bF V 2) a b) L)) hch ⟨by show 1 - tn < 2; omega, fun j hj => qtr_63 (okF_mv hF ha) (by omega) (by omega), Nat.lt_of_le_of_lt (hn1 _ _) (by decide)⟩ g3
  · rw [q4]
    unfold chm
    cases ldr (bF V 2 b) with
    | true => rfl
    | false => exact hcc
  · unfold chm at hk
    cases hl9 : ldr (bF V 2 b) with
    | true => rw [hl9, if_pos rfl] at hk; cases hk; exact htn
    | false => rw [hl9, if_neg (by decide)] at hk; exact hc2 k hk
  · by_cases e : s = tn
    · subst e
      rw [e4a, hacc s hs, nI_add, w1]
    · have es : s = 1 - tn := by omega
      rw [es, e4b, hacc (1 - tn) (by omega), ← w2]
      rw [nI_sub (by omega)]
      congr 1
      omega
theorem gs_movex (hE : zEv E) (hl : l.stackTraces = false) (hD : zDok E D) (h : GS D V P PH sz F L tn md ov ch) (a : Nat) (ha : a < 36) (b : Nat) (hb : b < 36) (h9 : rsn L ov F tn a b ≠ 0) : zM E l y_Lw_move [.codeWith y_Lw_move c_Lw_move 4 (some .int) hh_Lw_move] rm_Lw_move [.ref (D.1 0), .int (nI a), .int (nI b)] (HM D V P PH) sz (zRet (some (.int (-102))) (HM D V P PH) sz) := by
  obtain ⟨⟨hP, hS, hch⟩, ⟨hFV, hF, -⟩, ⟨htn, htc⟩, -, hoc, -⟩ := h
  subst hFV
  have := rsn_le L ov (bF V 2) tn a b
  exact zM_mono (wr_move hE hl hD V P PH (nI a) (nI b) sz (fun l hl => ct_Xx_move_x3 hE hl hD V P PH hF L hch tn htn htc ov hoc a ha b hb (by omega) h9 sz) okI_thr okX_thr) zWp_thr
end GSC
