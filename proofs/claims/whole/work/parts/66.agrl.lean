/-! ===== what the calls owe: play ===== -/
abbrev zPl : Type := (Nat → Nat → Int32) × List zPos × ((Nat → Int32) × (Nat → Int32)) × (Nat → Nat → Nat) × (Nat → Nat) × (Nat × Nat × Nat) × Bool × Bool × Option Nat
abbrev zPl.V (x : zPl) : Nat → Nat → Int32 := x.1
abbrev zPl.L (x : zPl) : List zPos := x.2.1
abbrev zPl.z (x : zPl) : Nat → Int32 := x.2.2.1.1
abbrev zPl.ms (x : zPl) : Nat → Int32 := x.2.2.1.2
abbrev zPl.Bd (x : zPl) : Nat → Nat → Nat := x.2.2.2.1
abbrev zPl.mv (x : zPl) : Nat → Nat := x.2.2.2.2.1
abbrev zPl.tn (x : zPl) : Nat := x.2.2.2.2.2.1.1
abbrev zPl.md (x : zPl) : Nat := x.2.2.2.2.2.1.2.1
abbrev zPl.bs (x : zPl) : Nat := x.2.2.2.2.2.1.2.2
abbrev zPl.ov (x : zPl) : Bool := x.2.2.2.2.2.2.1
abbrev zPl.st (x : zPl) : Bool := x.2.2.2.2.2.2.2.1
abbrev zPl.ch (x : zPl) : Option Nat := x.2.2.2.2.2.2.2.2
/-- one move more -/
def pl1 (x : zPl) (a b : Nat) : zPl :=
  (mvC (zPl.V x) (zPl.L x) (zPl.tn x) (zPl.md x) (zPl.ch x) a b, mvL (zPl.V x) (zPl.L x) (zPl.tn x) a b,
   (mvR (zPl.z x) (bF (zPl.V x) 2) (zPl.mv x) (zPl.tn x) (zPl.md x) (zPl.bs x) a b, upd (zPl.ms x) (zPl.md x) (nI (36 * a + b))),
   (fun i => if i = zPl.md x + 1 then mvF (bF (zPl.V x) 2) a b else zPl.Bd x i), mvX (zPl.mv x) (zPl.md x) a b,
   (1 - zPl.tn x, zPl.md x + 1, if bF (zPl.V x) 2 b = 0 then zPl.bs x else zPl.md x + 1),
   ovr (if ldr (bF (zPl.V x) 2 b) then some (zPl.tn x) else zPl.ch x) (n1t (1 - zPl.tn x) (mvF (bF (zPl.V x) 2) a b) (zPl.L x)) (mvs (mvF (bF (zPl.V x) 2) a b) (1 - zPl.tn x) 36), true,
   if ldr (bF (zPl.V x) 2 b) then some (zPl.tn x) else zPl.ch x)
def plS (aa bb : Nat → Nat) (x0 : zPl) : Nat → zPl
  | 0 => x0
  | k + 1 => pl1 (plS aa bb x0 k) (aa k) (bb k)
def plW (x : zPl) (a b : Nat) : Nat := whm (zPl.st x) (zPl.ov x) (bF (zPl.V x) 2) (zPl.tn x) a b
def plI (lv : Value) (x0 x : zPl) (k : Nat) : Prop := RSc (zPl.V x 1, zPl.V x 3, zPl.V x 4, zPl.V x 5, lv, zPl.L x) (zPl.z x) (zPl.ms x) (zPl.Bd x) (zPl.mv x) (zPl.tn x) (zPl.md x) (zPl.bs x) (zPl.ov x) (zPl.st x) (zPl.ch x) ∧ zPl.md x = zPl.md x0 + k ∧ (∀ c, 6 ≤ c → zPl.V x c = zPl.V x0 c) ∧ ∀ j, j < zPl.md x0 → zPl.ms x j = zPl.ms x0 j
theorem plI_s {lv : Value} {aa bb : Nat → Nat} {x0 : zPl} {N : Nat} (h0 : plI lv x0 x0 0) (hab : ∀ k, k < N → aa k < 36 ∧ bb k < 36) (hw : ∀ k, k < N → plW (plS aa bb x0 k) (aa k) (bb k) = 0) : ∀ k, k ≤ N → plI lv x0 (plS aa bb x0 k) k := by
  intro k
  induction k with
  | zero => exact fun _ => h0
  | succ k ih =>
    intro hk
    obtain ⟨i1, i2, i3, i4⟩ := ih (by omega)
    have hb := hab k (by omega)
    refine ⟨RSc_move i1 hb.1 hb.2 (hw k (by omega)), ?_, fun c hc => ?_, fun j hj => ?_⟩
    · show zPl.md (plS aa bb x0 k) + 1 = _
      omega
    · show mvC (zPl.V (plS aa bb x0 k)) (zPl.L (plS aa bb x0 k)) _ _ _ _ _ c = _
      rw [mvC_o hc]
      exact i3 c hc
    · show upd (zPl.ms (plS aa bb x0 k)) (zPl.md (plS aa bb x0 k)) _ j = _
      rw [upd_n (by omega)]
      exact i4 j hj
theorem fst_n (p : Nat → Nat) : ∀ M : Nat, ∃ N, N ≤ M ∧ (∀ k, k < N → p k = 0) ∧ (N < M → p N ≠ 0) := by
  intro M
  induction M with
  | zero => exact ⟨0, Nat.le_refl 0, fun k hk => by omega, fun h => by omega⟩
  | succ M ih =>
    obtain ⟨N, h1, h2, h3⟩ := ih
    by_cases e : N < M
    · exact ⟨N, by omega, h2, fun _ => h3 e⟩
    · have : N = M := by omega
      subst this
      by_cases e2 : p N = 0
      · refine ⟨N + 1, Nat.le_refl _, fun k hk => ?_, fun h => by omega⟩
        by_cases e3 : k = N
        · rw [e3]; exact e2
        · exact h2 k (by omega)
      · exact ⟨N, by omega, h2, fun _ => e2⟩
theorem ffr_al {b : Nat → Bool} {n : Nat} (h : (ffr b n 0).getD n = n) : ∀ k, k < n → b k = false := by
  cases hf : ffr b n 0 with
  | none => exact fun k hk => ffr_none.mp hf k (by omega) (by omega)
  | some k =>
    rw [hf] at h
    have h9 : k = n := h
    have := ffr_lt hf
    omega
theorem lis_tx {T : Nat → Nat} {n M : Nat} (h : lis T n = true) (hM : n + 1 = 5 * M) : ∀ k, k < M → 49 ≤ T (5 * k + 1) ∧ 97 ≤ T (5 * k) ∧ 49 ≤ T (5 * k + 2 + 1) ∧ 97 ≤ T (5 * k + 2) ∧ sqa T (5 * k) = sqa T (5 * k) ∧ sqa T (5 * k + 2) = sqa T (5 * k + 2) ∧ sqa T (5 * k) < 36 ∧ sqa T (5 * k + 2) < 36 := by
  unfold lis at h
  rw [Bool.and_eq_true] at h
  have h2 : ∀ k, k < n → fit T k = true := fun k hk => by
    have := ffr_al (eq_of_beq h.2) k hk
    rw [Bool.not_eq_false'] at this
    exact this
  intro k hk
  have f0 := h2 (5 * k) (by omega)
  have f1 := h2 (5 * k + 1) (by omega)
  have f2 := h2 (5 * k + 2) (by omega)
  have f3 := h2 (5 * k + 2 + 1) (by omega)
  unfold fit at f0 f1 f2 f3
  rw [show 5 * k % 5 = 0 by omega] at f0
  rw [show (5 * k + 1) % 5 = 1 by omega] at f1
  rw [show (5 * k + 2) % 5 = 2 by omega] at f2
  rw [show (5 * k + 2 + 1) % 5 = 3 by omega] at f3
  simp [fit5, lett, dig] at f0 f1 f2 f3
  unfold sqa
  omega
theorem zEpl_okI {D : zD} {W : Nat → Nat → Int32} {Q : Nat → Nat → Value} {PH : aH} {L : List zPos} {x : Int32} : okI D (zEpl D W Q PH L x) := fun v h s q => by
  obtain ⟨P2, PH2, e, e2, -⟩ := q
  cases e
  exact ⟨x, W, P2, PH2, rfl, e2⟩
theorem zEpl_okX {D : zD} {W : Nat → Nat → Int32} {Q : Nat → Nat → Value} {PH : aH} {L : List zPos} {x : Int32} {Xs : List String} : okX (zEpl D W Q PH L x) Xs := fun X h s q => by
  obtain ⟨P2, PH2, e, -⟩ := q
  cases e
theorem agr_zEpl {E : zE} {l : Launch} {D : zD} {y : MethodName} {cL : ByteArray} {nL : Nat} {hh : List (Nat × Nat × Nat × Nat)} {rm : Room} {av : List Value} {V V9 : Nat → Nat → Int32} {P Q9 : Nat → Nat → Value} {PH : aH} {L9 : List zPos} {sz : Nat} {Xs : List String} {M : Nat → (Nat → Nat → Int32) → (Nat → Nat → Value) → aH → Nat → Prop} (hD : zDok E D) {x : Int32} (hX3 : Xs.length ≤ 3) (hM : zM E l y [.codeWith y cL nL (some .int) hh] rm av (HM D V P PH) sz (zWr D (zEpl D V9 Q9 PH L9 x) Xs 44 cvI)) (hm : ∀ (P2 : Nat → Nat → Value) (PH2 : aH) (s2 : Nat), chn PH2 (P2 1 7) L9 → okP D PH2 → okS D PH2 s2 → (∀ c, c ≠ 1 → P2 c = Q9 c) → (∀ q c, PH q = some c → PH2 q = some c) → M 0 V9 (pset P2 44 0 (.long x.toInt64)) PH2 s2) : agr E l D y cL nL hh rm av V P PH sz M :=
  agr_of hD (.inl rfl) hX3 hM (fun w V4 P4 PH4 s4 q => by
    obtain ⟨P2, PH2, e1, e3, h1, h2, h3, h4, h5⟩ := q
    cases e1
    exact ⟨V9, P2, PH2, e3, hm P2 PH2 s4 h1 h2 h3 h4 h5⟩) (fun X h2 s4 i q => by
    obtain ⟨P2, PH2, e, -⟩ := q
    cases e)
theorem ag_play {E : zE} (hE : zEv E) {l : Launch} (hl : l.stackTraces = false) {D : zD} (hD : zDok E D) {V : Nat → Nat → Int32} {P : Nat → Nat → Value} {PH : aH} {sz nc : Nat} (h : SIM D V P PH sz nc) (hnc : nc < 512) : agr E l D y_Lw_play c_Lw_play 3 hh_Lw_play rm_Lw_play [.ref (D.1 0), .ref (D.1 44)] V P PH sz (fun kc V2 P2 PH2 s2 => mdI E l D y_Mm_play c_Mm_play 4 rm_Mm_play [] kc V2 P2 PH2 s2 (fun V3 P3 PH3 s3 => SIM D V3 P3 PH3 s3 (nc + 1))) := by
  have h0 := h
  obtain ⟨hP, hS, L, md, H, gs, T, n9, hch, ⟨Bd, mv, tn, bs, ov, st, ch, hR⟩, hmd, hH, hn9, hHm, hT, hU, h33, h37, h60⟩ := h
  have hR0 := hR
  obtain ⟨⟨hF, hz, h1, h8⟩, ⟨htn, htc, htm⟩, ⟨hmc, hmm⟩, ⟨hoc, hom⟩, ⟨hcc, hcm, hc2, hcn⟩, ⟨hst, hbs⟩, hg, hb, hms, hak⟩ := hR
  replace hF : okF (bF V 2) := hF
  replace hz : ∀ k, k < 36 → V 38 k = nI (mo (bF V 2 k)) := hz
  replace h1 : one_ (bF V 2) := h1
  have hl5 : H.length ≤ 5 := hH.2.2.2.2.1
  have hgs : isH D P gs := hH.1
  have hn6 : V 6 1 = nI H.length := hH.2.2.2.1
  have h5 : V 1 5 = 0 ∨ V 1 5 = 1 := by
    rw [show V 1 5 = bI ov from hoc]
    cases ov
    · exact .inl rfl
    · exact .inr rfl
  have h7 := chn_v hch
  have e9 : (!L.isEmpty) = st := RSc_L hR0
  obtain ⟨gs2, hH2, hWr, hQr⟩ := psh_H (g := (V 1, V 3, V 4, V 5, P 1 7, L)) hH ⟨rfl, rfl, rfl, rfl, rfl⟩
  obtain ⟨W, eW⟩ : ∃ W, rmV V gs H.length = W := ⟨_, rfl⟩
  obtain ⟨Q, eQ⟩ : ∃ Q, rmP D P gs H.length = Q := ⟨_, rfl⟩
  rw [eW, eQ] at hH2
  rw [eW] at hWr
  rw [eQ] at hQr
  cases hl9 : lis T n9 with
  | false =>
    have hfl : flt T n9 = some (fmf T n9) := fmf_flt hl9
    exact agr_thr hD (.inl rfl) (by decide) (wr_Lw_play hE hl hD V P PH  sz (fun l hl => ct_Xx_play_x hE hl hD V P PH T hT n9 h33 h60 hl9 sz) okI_thr (okX_thr (by simp))) (fun _ => ix_1) (mdI_ret (ct_Mm_play_x hE hl hD V P PH T hU n9 h37 h60 _ hfl sz) vrd_s (fun q => absurd q (by decide)) (SIM_q0 h0))
  | true =>
    have hfl : flt T n9 = none := by rw [lis_flt] at hl9; exact eq_of_beq hl9
    have h54 : n9 % 5 = 4 := by
      unfold lis at hl9
      rw [Bool.and_eq_true] at hl9
      exact eq_of_beq hl9.1
    obtain ⟨M, hM⟩ : ∃ M, n9 + 1 = 5 * M := ⟨(n9 + 1) / 5, by omega⟩
    have htx := lis_tx hl9 hM
    obtain ⟨aa, eaa⟩ : ∃ aa : Nat → Nat, (fun k => sqa T (5 * k)) = aa := ⟨_, rfl⟩
    obtain ⟨bb, ebb⟩ : ∃ bb : Nat → Nat, (fun k => sqa T (5 * k + 2)) = bb := ⟨_, rfl⟩
    have htx2 : ∀ k, k < M → 49 ≤ T (5 * k + 1) ∧ 97 ≤ T (5 * k) ∧ 49 ≤ T (5 * k + 2 + 1) ∧ 97 ≤ T (5 * k + 2) ∧ sqa T (5 * k) = aa k ∧ sqa T (5 * k + 2) = bb k ∧ aa k < 36 ∧ bb k < 36 := by
      rw [← eaa, ← ebb]
      exact htx
    have eb : bF W 2 = bF V 2 := by
      funext k
      unfold bF
      show pn (W 3 k) = pn (V 3 k)
      rw [hWr 3 (by omega)]
    have hRW : RSc (W 1, W 3, W 4, W 5, P 1 7, L) (V 38) (V 40) Bd mv tn md bs ov st ch := by rw [hWr 1 (by omega), hWr 3 (by omega), hWr 4 (by omega), hWr 5 (by omega)]; exact hR0
    obtain ⟨x0, ex0⟩ : ∃ x0 : zPl, (W, L, (V 38, V 40), Bd, mv, (tn, md, bs), ov, st, ch) = x0 := ⟨_, rfl⟩
    have hI0 : plI (P 1 7) x0 x0 0 := by
      rw [← ex0]
      exact ⟨hRW, rfl, fun _ _ => rfl, fun _ _ => rfl⟩
    obtain ⟨N, hNM, hN1, hN2⟩ := fst_n (fun k => plW (plS aa bb x0 k) (aa k) (bb k)) M
    try dsimp only at hN1 hN2
    have hI := plI_s hI0 (N := N) (fun k hk => ⟨(htx2 k (by omega)).2.2.2.2.2.2.1, (htx2 k (by omega)).2.2.2.2.2.2.2⟩) hN1
    have eV0 : zPl.V x0 = W := by rw [← ex0]
    have eL0 : zPl.L x0 = L := by rw [← ex0]
    have ez0 : zPl.z x0 = V 38 := by rw [← ex0]
    have em0 : zPl.ms x0 = V 40 := by rw [← ex0]
    have ed0 : zPl.md x0 = md := by rw [← ex0]
    have hrw : ∀ k, k ≤ N → k < M → rsn (zPl.L (plS aa bb x0 k)) (zPl.ov (plS aa bb x0 k)) (bF (zPl.V (plS aa bb x0 k)) 2) (zPl.tn (plS aa bb x0 k)) (aa k) (bb k) = plW (plS aa bb x0 k) (aa k) (bb k) := fun k hk hkM => by
      have hi := (hI k hk).1
      have hF9 : okF (bF (zPl.V (plS aa bb x0 k)) 2) := hi.1.1
      have hx := htx2 k hkM
      rw [rsn_whm hF9 _ _ hx.2.2.2.2.2.2.1 hx.2.2.2.2.2.2.2, show (!(zPl.L (plS aa bb x0 k)).isEmpty) = zPl.st (plS aa bb x0 k) from RSc_L hi]
      rfl
    refine agr_zEpl hD (by decide) (wr_Lw_play hE hl hD V P PH sz (fun l hl => ct_Xx_play hE hl hD V P PH hF L hch gs hgs H.length hn6 hl5 h5 h7 W Q eW eQ hWr hQr T hT n9 h33 h60 hl9 hP (fun k => zPl.V (plS aa bb x0 k)) (fun k => zPl.L (plS aa bb x0 k)) (fun k => zPl.tn (plS aa bb x0 k)) (fun k => zPl.md (plS aa bb x0 k)) (fun k => zPl.ov (plS aa bb x0 k)) (fun k => zPl.ch (plS aa bb x0 k)) aa bb N M (fun k hk => ?_) (fun k hk => ⟨(hrw k (by omega) (by omega)).trans (hN1 k hk), rfl, rfl⟩) (fun hk => by have := hN2 hk; rw [← hrw N (Nat.le_refl N) hk] at this; exact this) hNM (by omega) htx2 (by omega) eV0 eL0 sz hS) zEpl_okI zEpl_okX) (fun P2 PH2 s2 c1 c2 c3 c4 c5 => ?_)
    · obtain ⟨i1, i2, i3, i4⟩ := hI k hk
      have i5 := fun t F => RSc_n1t i1 t F
      obtain ⟨⟨g1, -⟩, ⟨g2, g3, -⟩, ⟨g4, -⟩, ⟨g5, -⟩, ⟨g6, -, g7, -⟩, -⟩ := i1
      refine ⟨g1, g2, g3, g4, g5, g6, g7, fun t F => Nat.lt_of_le_of_lt (i5 t F) (by omega), fun j hj => ?_, ?_⟩
      · skip
        rw [i3 34 (by omega), eV0, hWr 34 (by omega)]
        exact hT j hj
      · skip
        rw [i3 33 (by omega), eV0, hWr 33 (by omega)]
        exact h33
    · obtain ⟨i1, i2, i3, i4⟩ := hI N (Nat.le_refl N)
      obtain ⟨V2, eV2⟩ : ∃ V2, zPl.V (plS aa bb x0 N) = V2 := ⟨_, rfl⟩
      try dsimp only
      rw [eV2] at i1 i3 ⊢
      have eo : ∀ c, 6 ≤ c → V2 c = W c := fun c c1 => by rw [i3 c c1, eV0]
      have ev : ∀ c, 33 ≤ c → V2 c = V c := fun c c1 => by rw [eo c (by omega), hWr c (by omega)]
      try dsimp only at c1
      refine mdI_emv (ct_Mm_play hE hl hD V2 _ _ H.length (by rw [ev 37 (by omega)]; exact hn9) hl5 T (fun k hk => by rw [ev 43 (by omega)]; exact hU k hk) n9 (by rw [ev 37 (by omega)]; exact h37) hfl (fun k => zPl.z (plS aa bb x0 k)) (fun k => zPl.ms (plS aa bb x0 k)) (fun k => bF (zPl.V (plS aa bb x0 k)) 2) (fun k => zPl.mv (plS aa bb x0 k)) (fun k => zPl.tn (plS aa bb x0 k)) (fun k => zPl.md (plS aa bb x0 k)) (fun k => zPl.bs (plS aa bb x0 k)) (fun k => zPl.st (plS aa bb x0 k)) (fun k => zPl.ov (plS aa bb x0 k)) aa bb N M (fun k hk => ?_) (fun k hk => ⟨hN1 k hk, rfl, rfl⟩) (fun hk => hN2 hk) hNM hM h60 htx2 (by rw [ev 38 (by omega)]; exact ez0.symm) (by rw [ev 40 (by omega)]; exact em0.symm) _) (by rw [recM_j (by decide), vrd_s]) (fun _ => by rw [pset_s]; rfl) (fun V3 h4 h38 h40 => ?_)
      · obtain ⟨j1, j2, j3, j4⟩ := hI k hk
        obtain ⟨⟨g1, g1z, -⟩, ⟨g2, -, g3⟩, ⟨-, g4⟩, ⟨-, g5⟩, -, ⟨g8, g9⟩, -, ⟨-, hB2⟩, hB3, -⟩ := j1
        exact ⟨g1, g1z, g2, g8, g5, g3, g4, g9, by omega, hB2.2.2.1, fun j hj => (hB2.2.1 j hj).1, hB3⟩
      · have h4o : ∀ c, c ≠ 37 → c ≠ 38 → c ≠ 39 → c ≠ 40 → c ≠ 41 → c ≠ 42 → V3 c = V2 c := fun c c1 c2 c3 c4 c5 c6 => by rw [h4 c c2 c4 c5 c6, recM_o c3 c1, vset_n c1]
        refine SIM_rec (L3 := zPl.L (plS aa bb x0 N)) (md3 := zPl.md (plS aa bb x0 N)) c2 c3 c5 hch ⟨_, _, _, _, _, _, _, hR0⟩ hl5 hHm hH2 (fun c c1 c2 => ?_) (fun c c1 c2 => by rw [pset_n (by omega), c4 c (by omega)]) hT hU h33 h37 h60 (by rw [h4o 33 (by decide) (by decide) (by decide) (by decide) (by decide) (by decide), ev 33 (by omega)]) (by rw [h4o 34 (by decide) (by decide) (by decide) (by decide) (by decide) (by decide), ev 34 (by omega)]) (by rw [h4o 43 (by decide) (by decide) (by decide) (by decide) (by decide) (by decide), ev 43 (by omega)]) ?_ ?_ ?_ (fun k hk => ?_) (by rw [pset_n (by decide)]; exact c1) ?_ (by omega) (by omega)
        · rw [h4o c (by omega) (by omega) (by omega) (by omega) (by omega) (by omega), eo c (by omega)]
        · rw [h4 39 (by decide) (by decide) (by decide) (by decide)]
          exact recM_39 (by rw [vset_n (by decide)]; exact ev 38 (by omega)) (by rw [vset_n (by decide)]; exact ev 39 (by omega))
        · rw [h4 37 (by decide) (by decide) (by decide) (by decide), recM_2 hl5, recM_2 hl5]
        · rw [h4 37 (by decide) (by decide) (by decide) (by decide), recM_j (by decide), vrd_n (by decide), ev 37 (by omega)]
        · rw [h40]
          have := i4 k (by omega)
          rw [em0] at this
          exact this
        · rw [h4o 1 (by decide) (by decide) (by decide) (by decide) (by decide) (by decide), h4o 3 (by decide) (by decide) (by decide) (by decide) (by decide) (by decide), h4o 4 (by decide) (by decide) (by decide) (by decide) (by decide) (by decide), h4o 5 (by decide) (by decide) (by decide) (by decide) (by decide) (by decide), h38, h40]
          exact ⟨_, _, _, _, _, _, _, i1⟩
