/-! ===== what the calls owe: take away, start, append, undo, move ===== -/
theorem bF_ro {V W : Nat → Nat → Int32} (h : W 3 = V 3) : bF W 2 = bF V 2 := by
  funext k
  unfold bF
  show pn (W 3 k) = pn (V 3 k)
  rw [h]
theorem zNewP_okI {D : zD} {V : Nat → Nat → Int32} {P : Nat → Nat → Value} {PH : aH} {c : aC} {x : Int32} {sz : Nat} : okI D (zNewP D V P PH c (.int x) sz) := fun v h s q => by
  obtain ⟨q0, -, -, -, e, e2, -⟩ := q
  cases e
  exact ⟨x, V, _, _, rfl, e2⟩
theorem zNewP_okX {D : zD} {V : Nat → Nat → Int32} {P : Nat → Nat → Value} {PH : aH} {c : aC} {v : Value} {sz : Nat} {Xs : List String} : okX (zNewP D V P PH c v sz) Xs := fun X h s q => by
  obtain ⟨q0, -, -, -, e, -⟩ := q
  cases e
section AGN
variable {E : zE} {l : Launch} {D : zD} {y yM : MethodName} {cL cM : ByteArray} {nL nM : Nat} {hh : List (Nat × Nat × Nat × Nat)} {rm : Room} {av : List Value} {V V2 V9 : Nat → Nat → Int32} {P P2 Q9 : Nat → Nat → Value} {PH PH2 : aH} {sz s2 nc kc : Nat} {Xs : List String} {M : Nat → (Nat → Nat → Int32) → (Nat → Nat → Value) → aH → Nat → Prop} {c9 : aC} {NX : (Nat → Nat → Int32) → (Nat → Nat → Value) → aH → Nat → Prop}
theorem agr_zNewP (hD : zDok E D) {x : Int32} (hX3 : Xs.length ≤ 3) (hM : zM E l y [.codeWith y cL nL (some .int) hh] rm av (HM D V P PH) sz (zWr D (zNewP D V9 Q9 PH c9 (.int x) sz) Xs 44 cvI)) (hm : ∀ q0, sz ≤ q0 → notD D q0 → PH q0 = none → M 0 V9 (pset (pset Q9 1 7 (.ref q0)) 44 0 (.long x.toInt64)) (hset PH q0 c9) (q0 + 1)) : agr E l D y cL nL hh rm av V P PH sz M :=
  agr_of hD (.inl rfl) hX3 hM (fun w V4 P4 PH4 s4 q => by
    obtain ⟨q0, h1, h2, h3, e1, e3, e2⟩ := q
    cases e1
    subst e2
    exact ⟨V9, _, _, e3, hm q0 h1 h2 h3⟩) (fun X h2 s4 i q => by
    obtain ⟨q0, -, -, -, e, -⟩ := q
    cases e)
theorem mdI_emv {r : Int32} {r8 r0 : Nat → Int32} (hM : zM E l yM [.code yM cM nM (some .int)] rm (.ref (D.1 37) :: av) (HM D V2 P2 PH2) s2 (zEmv D V9 P2 PH2 s2 r r8 r0)) (h8 : V9 37 8 = nI kc) (hk : kc = 0 → P2 44 0 = .long r.toInt64) (hn : ∀ V3 : Nat → Nat → Int32, (∀ c, c ≠ 38 → c ≠ 40 → c ≠ 41 → c ≠ 42 → V3 c = V9 c) → V3 38 = r8 → V3 40 = r0 → NX V3 P2 PH2 s2) : mdI E l D yM cM nM rm av kc V2 P2 PH2 s2 NX :=
  ⟨_, hM, fun X h s q => (by cases q.1), fun w h3 s3 q => by
    obtain ⟨e1, e2, V3, e3, h4, h5, h6⟩ := q
    cases e1
    subst e2
    exact ⟨V3, r, rfl, e3, rfl, by rw [h4 37 (by decide) (by decide) (by decide) (by decide)]; exact h8, hk, hn V3 h4 h5 h6⟩⟩
end AGN
theorem hset_m {PH : aH} {q0 : Nat} {c9 : aC} (h : PH q0 = none) : ∀ q c, PH q = some c → hset PH q0 c9 q = some c := fun q c hc => by
  unfold hset
  by_cases e : q = q0
  · rw [e, h] at hc; cases hc
  · rw [if_neg e]; exact hc
theorem ag_takeAway {E : zE} (hE : zEv E) {l : Launch} (hl : l.stackTraces = false) {D : zD} (hD : zDok E D) {V : Nat → Nat → Int32} {P : Nat → Nat → Value} {PH : aH} {sz nc : Nat} (h : SIM D V P PH sz nc) (hnc : nc < 512) (xa : Int32) : agr E l D y_Lw_takeAway c_Lw_takeAway 4 hh_Lw_takeAway rm_Lw_takeAway [.ref (D.1 0), .int xa, .ref (D.1 44)] V P PH sz (fun kc V2 P2 PH2 s2 => mdI E l D y_Mm_takeAway c_Mm_takeAway 3 rm_Mm_takeAway [.int xa] kc V2 P2 PH2 s2 (fun V3 P3 PH3 s3 => SIM D V3 P3 PH3 s3 (nc + 1))) := by
  have h0 := h
  obtain ⟨hP, hS, L, md, H, gs, T, n9, hch, ⟨Bd, mv, tn, bs, ov, st, ch, hR⟩, hmd, hH, hn9, hHm, hT, hU, h33, h37, h60⟩ := h
  have hR0 := hR
  obtain ⟨⟨hF, hz, h1, h8⟩, ⟨htn, htc, htm⟩, ⟨hmc, hmm⟩, ⟨hoc, hom⟩, ⟨hcc, hcm, hc2, hcn⟩, ⟨hst, hbs⟩, hg, hb, hms, hak⟩ := hR
  replace hF : okF (bF V 2) := hF
  replace hz : ∀ k, k < 36 → V 38 k = nI (mo (bF V 2 k)) := hz
  replace h1 : one_ (bF V 2) := h1
  have hl5 : H.length ≤ 5 := hH.2.2.2.2.1
  have hgs : isH D P gs := hH.1
  have hn6 : V 6 1 = nI H.length := hH.2.2.2.1
  have h5 : V 1 5 = 0 ∨ V 1 5 = 1 := by
    rw [show V 1 5 = bI ov from hoc]
    cases ov
    · exact .inl rfl
    · exact .inr rfl
  have h7 := chn_v hch
  have e9 : (!L.isEmpty) = st := RSc_L hR0
  obtain ⟨gs2, hH2, hWr, hQr⟩ := psh_H (g := (V 1, V 3, V 4, V 5, P 1 7, L)) hH ⟨rfl, rfl, rfl, rfl, rfl⟩
  obtain ⟨W, eW⟩ : ∃ W, rmV V gs H.length = W := ⟨_, rfl⟩
  obtain ⟨Q, eQ⟩ : ∃ Q, rmP D P gs H.length = Q := ⟨_, rfl⟩
  rw [eW, eQ] at hH2
  rw [eW] at hWr
  rw [eQ] at hQr
  obtain ⟨a, ha32, rfl⟩ : ∃ a : Nat, a < 4294967296 ∧ xa = nI a := ⟨pn xa, pn_lt _, (nI_pn _).symm⟩
  by_cases ha : a < 36
  · cases hst9 : st with
    | true =>
      rw [hst9] at hst e9
      exact agr_thr hD (.inl rfl) (by decide) (wr_Lw_takeAway hE hl hD V P PH (nI a) sz (fun l hl => ct_Xx_takeAway_x2 hE hl hD V P PH L hch a ha e9 sz) okI_thr (okX_thr (by simp))) (fun _ => ix_21 (by decide)) (mdI_ret (ct_Mm_takeAway_x2 hE hl hD V P PH (bF V 2) hF hz hst a ha sz) vrd_s (fun q => absurd q (by decide)) (SIM_q0 h0))
    | false =>
      rw [hst9] at hst e9 hR0
      by_cases h9 : bF V 2 a = 0
      · exact agr_thr hD (.inl rfl) (by decide) (wr_Lw_takeAway hE hl hD V P PH (nI a) sz (fun l hl => ct_Xx_takeAway_x3 hE hl hD V P PH hF L hch a ha e9 h9 sz) okI_thr (okX_thr (by simp))) (fun _ => ix_21 (by decide)) (mdI_ret (ct_Mm_takeAway_x3 hE hl hD V P PH (bF V 2) hF hz hst a ha h9 sz) vrd_s (fun q => absurd q (by decide)) (SIM_q0 h0))
      · have hRp := RSc_take hR0 ha
        have eb : bF W 2 = bF V 2 := bF_ro (hWr 3 (by omega))
        refine agr_ret hD (.inl rfl) (by decide) (wr_Lw_takeAway hE hl hD V P PH (nI a) sz (fun l hl => ct_Xx_takeAway hE hl hD V P PH hF L hch gs hgs H.length hn6 hl5 h5 h7 W Q eW eQ hWr hQr a ha e9 h9 sz) okI_ret okX_ret) ?_
        rw [eb]
        obtain ⟨V2, eV2⟩ : ∃ V2, vset (vset W 3 a (nI 0)) 4 (sd (bF V 2 a)) (W 4 (sd (bF V 2 a)) - nI (wr (bF V 2 a))) = V2 := ⟨_, rfl⟩
        rw [eV2]
        have eo : ∀ c, c ≠ 3 → c ≠ 4 → V2 c = W c := fun c c3 c4 => by rw [← eV2, vset_n c4, vset_n c3]
        have e3 : V2 3 = upd (V 3) a (nI 0) := by rw [← eV2, vset_n (by decide), vset_s, hWr 3 (by omega)]
        have e4 : V2 4 = upd (V 4) (sd (bF V 2 a)) (V 4 (sd (bF V 2 a)) - nI (wr (bF V 2 a))) := by rw [← eV2, vset_s, vset_n (by decide), hWr 4 (by omega)]
        have ev : ∀ c, 33 ≤ c → V2 c = V c := fun c c1 => by rw [eo c (by omega) (by omega), hWr c (by omega)]
        have hz2 : ∀ k, k < 36 → V2 38 k = nI (mo (bF V 2 k)) := fun k hk => by rw [ev 38 (by omega)]; exact hz k hk
        refine mdI_ret (ct_Mm_takeAway hE hl hD V2 _ PH (bF V 2) hF hz2 H.length (by rw [ev 37 (by omega)]; exact hn9) hl5 (by rw [ev 38 (by omega)]; exact hst) a ha h9 sz) md_8 (fun _ => by rw [pset_s]; rfl) ?_
        refine SIM_rec hP hS (fun _ _ h9 => h9) hch ⟨_, _, _, _, _, _, _, hR0⟩ hl5 hHm hH2 (fun c c1 c2 => ?_) (fun c c1 c2 => by rw [pset_n (by omega)]) hT hU h33 h37 h60 (by rw [md_o (by decide) (by decide) (by decide), ev 33 (by omega)]) (by rw [md_o (by decide) (by decide) (by decide), ev 34 (by omega)]) (by rw [md_o (by decide) (by decide) (by decide), ev 43 (by omega)]) (md_39 (ev 38 (by omega)) (ev 39 (by omega))) (md_2 hl5) (by rw [md_7, ev 37 (by omega)]) (fun k hk => by rw [md_o (by decide) (by decide) (by decide), ev 40 (by omega)]) (by rw [pset_n (by decide), hQr 1 (by omega)]; exact hch) ?_ (Nat.le_refl md) (by omega)
        · rw [md_o (by omega) (by omega) (by omega), eo c (by omega) (by omega)]
        · rw [md_o (c := 1) (by decide) (by decide) (by decide), md_o (c := 3) (by decide) (by decide) (by decide), md_o (c := 4) (by decide) (by decide) (by decide), md_o (c := 5) (by decide) (by decide) (by decide), md_o (c := 40) (by decide) (by decide) (by decide), md_38, e3, e4, eo 1 (by decide) (by decide), eo 5 (by decide) (by decide), hWr 1 (by omega), hWr 5 (by omega), ev 38 (by omega), ev 40 (by omega), pset_n (by decide), hQr 1 (by omega), recM_o (by decide) (by decide), vset_n (by decide), ev 38 (by omega)]
          exact ⟨_, _, _, _, _, _, _, hRp⟩
  · exact agr_thr hD (.inl rfl) (by decide) (wr_Lw_takeAway hE hl hD V P PH (nI a) sz (fun l hl => ct_Xx_takeAway_x1 hE hl hD V P PH a ha32 (by omega) sz) okI_thr (okX_thr (by simp))) (fun _ => ix_20 (by decide)) (mdI_ret (ct_Mm_takeAway_x1 hE hl hD V P PH a ha32 (by omega) sz) vrd_s (fun q => absurd q (by decide)) (SIM_q0 h0))
theorem ag_start {E : zE} (hE : zEv E) {l : Launch} (hl : l.stackTraces = false) {D : zD} (hD : zDok E D) {V : Nat → Nat → Int32} {P : Nat → Nat → Value} {PH : aH} {sz nc : Nat} (h : SIM D V P PH sz nc) (hnc : nc < 512) : agr E l D y_Lw_start c_Lw_start 3 hh_Lw_start rm_Lw_start [.ref (D.1 0), .ref (D.1 44)] V P PH sz (fun kc V2 P2 PH2 s2 => mdI E l D y_Mm_start c_Mm_start 2 rm_Mm_start [] kc V2 P2 PH2 s2 (fun V3 P3 PH3 s3 => SIM D V3 P3 PH3 s3 (nc + 1))) := by
  have h0 := h
  obtain ⟨hP, hS, L, md, H, gs, T, n9, hch, ⟨Bd, mv, tn, bs, ov, st, ch, hR⟩, hmd, hH, hn9, hHm, hT, hU, h33, h37, h60⟩ := h
  have hR0 := hR
  obtain ⟨⟨hF, hz, h1, h8⟩, ⟨htn, htc, htm⟩, ⟨hmc, hmm⟩, ⟨hoc, hom⟩, ⟨hcc, hcm, hc2, hcn⟩, ⟨hst, hbs⟩, hg, hb, hms, hak⟩ := hR
  replace hF : okF (bF V 2) := hF
  replace hz : ∀ k, k < 36 → V 38 k = nI (mo (bF V 2 k)) := hz
  replace h1 : one_ (bF V 2) := h1
  have hl5 : H.length ≤ 5 := hH.2.2.2.2.1
  have hgs : isH D P gs := hH.1
  have hn6 : V 6 1 = nI H.length := hH.2.2.2.1
  have h5 : V 1 5 = 0 ∨ V 1 5 = 1 := by
    rw [show V 1 5 = bI ov from hoc]
    cases ov
    · exact .inl rfl
    · exact .inr rfl
  have h7 := chn_v hch
  have e9 : (!L.isEmpty) = st := RSc_L hR0
  obtain ⟨gs2, hH2, hWr, hQr⟩ := psh_H (g := (V 1, V 3, V 4, V 5, P 1 7, L)) hH ⟨rfl, rfl, rfl, rfl, rfl⟩
  obtain ⟨W, eW⟩ : ∃ W, rmV V gs H.length = W := ⟨_, rfl⟩
  obtain ⟨Q, eQ⟩ : ∃ Q, rmP D P gs H.length = Q := ⟨_, rfl⟩
  rw [eW, eQ] at hH2
  rw [eW] at hWr
  rw [eQ] at hQr
  have hq0 := lsq_lls h1 (show 0 < 2 by decide)
  have hq1 := lsq_lls h1 (show 1 < 2 by decide)
  have hcb : cbg L (bF V 2) = (L.isEmpty && ((lsq (bF V 2) 0).isSome && (lsq (bF V 2) 1).isSome)) := rfl
  cases hst9 : st with
  | true =>
    rw [hst9] at hst e9
    have e8 : L.isEmpty = false := by rw [← Bool.not_eq_true']; exact e9
    rw [e8, Bool.false_and] at hcb
    exact agr_thr hD (.inl rfl) (by decide) (wr_Lw_start hE hl hD V P PH  sz (fun l hl => ct_Xx_start_x hE hl hD V P PH hF L hch hcb sz) okI_thr (okX_thr (by simp))) (fun _ => ix_1) (mdI_ret (ct_Mm_start_x1 hE hl hD V P PH (bF V 2) hF hz hst sz) vrd_s (fun q => absurd q (by decide)) (SIM_q0 h0))
  | false =>
    rw [hst9] at hst e9 hR0
    have e8 : L.isEmpty = true := by rw [← Bool.not_eq_false']; exact e9
    rw [e8, Bool.true_and] at hcb
    cases hl0 : lsq (bF V 2) 0 with
    | none =>
      rw [hl0] at hcb
      exact agr_thr hD (.inl rfl) (by decide) (wr_Lw_start hE hl hD V P PH  sz (fun l hl => ct_Xx_start_x hE hl hD V P PH hF L hch hcb sz) okI_thr (okX_thr (by simp))) (fun _ => ix_1) (mdI_ret (ct_Mm_start_x2 hE hl hD V P PH (bF V 2) hF hz hst (hq0.trans hl0) sz) vrd_s (fun q => absurd q (by decide)) (SIM_q0 h0))
    | some k0 =>
      cases hl1 : lsq (bF V 2) 1 with
      | none =>
        rw [hl0, hl1] at hcb
        exact agr_thr hD (.inl rfl) (by decide) (wr_Lw_start hE hl hD V P PH  sz (fun l hl => ct_Xx_start_x hE hl hD V P PH hF L hch hcb sz) okI_thr (okX_thr (by simp))) (fun _ => ix_1) (mdI_ret (ct_Mm_start_x3 hE hl hD V P PH (bF V 2) hF hz hst k0 (hq0.trans hl0) (hq1.trans hl1) sz) vrd_s (fun q => absurd q (by decide)) (SIM_q0 h0))
      | some k1 =>
        rw [hl0, hl1] at hcb
        have htn0 : tn = 0 := (hg.1 hst9).2.2.2.1
        have hRp := fun lv2 : Value => RSc_start (lv2 := lv2) hR0
        have hn1 := RSc_n1t hR0 tn (bF V 2)
        have eb : bF W 2 = bF V 2 := bF_ro (hWr 3 (by omega))
        refine agr_zNewP hD (by decide) (wr_Lw_start hE hl hD V P PH sz (fun l hl => ct_Xx_start hE hl hD V P PH hF L hch gs hgs H.length hn6 hl5 h5 h7 W Q eW eQ hWr hQr tn htn htc hP hcb sz hS) zNewP_okI zNewP_okX) (fun q0 g1 g2 g3 => ?_)
        rw [eb]
        obtain ⟨V2, eV2⟩ : ∃ V2, vset W 1 5 (bI (mvs (bF V 2) tn 36 == 0)) = V2 := ⟨_, rfl⟩
        rw [eV2]
        have eo : ∀ c, c ≠ 1 → V2 c = W c := fun c c1 => by rw [← eV2, vset_n c1]
        have e1 : V2 1 = upd (V 1) 5 (bI (mvs (bF V 2) tn 36 == 0)) := by rw [← eV2, vset_s, hWr 1 (by omega)]
        have ev : ∀ c, 33 ≤ c → V2 c = V c := fun c c1 => by rw [eo c (by omega), hWr c (by omega)]
        have hz2 : ∀ k, k < 36 → V2 38 k = nI (mo (bF V 2 k)) := fun k hk => by rw [ev 38 (by omega)]; exact hz k hk
        refine mdI_ret (ct_Mm_start hE hl hD V2 _ _ (bF V 2) hF hz2 H.length (by rw [ev 37 (by omega)]; exact hn9) hl5 (by rw [ev 38 (by omega)]; exact hst) k0 (hq0.trans hl0) k1 (hq1.trans hl1) _) md_8 (fun _ => by rw [pset_s, htn0, mvs_mvo hF]; rfl) ?_
        refine SIM_rec (L3 := (tn, pq4 (bF V 2), n1t tn (bF V 2) L) :: L) (okP_set hP g2) (okS_set hS g1) (hset_m g3) hch ⟨_, _, _, _, _, _, _, hR0⟩ hl5 hHm hH2 (fun c c1 c2 => ?_) (fun c c1 c2 => by rw [pset_n (by omega), pset_n (by omega)]) hT hU h33 h37 h60 (by rw [md_o (by decide) (by decide) (by decide), ev 33 (by omega)]) (by rw [md_o (by decide) (by decide) (by decide), ev 34 (by omega)]) (by rw [md_o (by decide) (by decide) (by decide), ev 43 (by omega)]) (md_39 (ev 38 (by omega)) (ev 39 (by omega))) (md_2 hl5) (by rw [md_7, ev 37 (by omega)]) (fun k hk => by rw [md_o (by decide) (by decide) (by decide), ev 40 (by omega)]) ?_ ?_ (Nat.le_refl md) (by omega)
        · rw [md_o (by omega) (by omega) (by omega), eo c (by omega)]
        · rw [pset_n (by decide), pset_s, hQr 1 (by omega)]
          exact chn_new (p := (tn, pq4 (bF V 2), n1t tn (bF V 2) L)) hch ⟨htn, fun j hj => qtr_63 hF (by omega) (by omega), Nat.lt_of_le_of_lt hn1 (by omega)⟩ g3
        · rw [md_o (c := 1) (by decide) (by decide) (by decide), md_o (c := 3) (by decide) (by decide) (by decide), md_o (c := 4) (by decide) (by decide) (by decide), md_o (c := 5) (by decide) (by decide) (by decide), md_o (c := 40) (by decide) (by decide) (by decide), md_38, e1, eo 3 (by decide), eo 4 (by decide), eo 5 (by decide), hWr 3 (by omega), hWr 4 (by omega), hWr 5 (by omega), ev 38 (by omega), ev 40 (by omega)]
          exact ⟨_, _, _, _, _, _, _, hRp _⟩
def upd2 (T : Nat → Nat) (n a : Nat) : Nat → Nat := fun k => if k = n then a else T k
theorem ag_append {E : zE} (hE : zEv E) {l : Launch} (hl : l.stackTraces = false) {D : zD} (hD : zDok E D) {V : Nat → Nat → Int32} {P : Nat → Nat → Value} {PH : aH} {sz nc : Nat} (h : SIM D V P PH sz nc) (hnc : nc < 512) (a : Nat) (hac : a < 65536) : agr E l D y_Lw_append c_Lw_append 4 hh_Lw_append rm_Lw_append [.ref (D.1 0), .int (nI a), .ref (D.1 44)] V P PH sz (fun kc V2 P2 PH2 s2 => mdI E l D y_Mm_append c_Mm_append 2 rm_Mm_append [.int (nI a)] kc V2 P2 PH2 s2 (fun V3 P3 PH3 s3 => SIM D V3 P3 PH3 s3 (nc + 1))) := by
  have h0 := h
  obtain ⟨hP, hS, L, md, H, gs, T, n9, hch, ⟨Bd, mv, tn, bs, ov, st, ch, hR⟩, hmd, hH, hn9, hHm, hT, hU, h33, h37, h60⟩ := h
  have hR0 := hR
  obtain ⟨⟨hF, hz, h1, h8⟩, ⟨htn, htc, htm⟩, ⟨hmc, hmm⟩, ⟨hoc, hom⟩, ⟨hcc, hcm, hc2, hcn⟩, ⟨hst, hbs⟩, hg, hb, hms, hak⟩ := hR
  replace hF : okF (bF V 2) := hF
  replace hz : ∀ k, k < 36 → V 38 k = nI (mo (bF V 2 k)) := hz
  replace h1 : one_ (bF V 2) := h1
  by_cases ha : n9 < 60
  · refine agr_ret hD (.inl rfl) (by decide) (wr_Lw_append hE hl hD V P PH (nI a) sz (fun l hl => ct_Xx_append hE hl hD V P PH n9 h33 h60 a hac ha sz) okI_ret okX_ret) ?_
    refine mdI_ret (ct_Mm_append hE hl hD (vset (vset V 34 n9 (nI a)) 33 1 (nI (n9 + 1))) _ PH n9 h37 a hac ha sz) (by rw [vrd_n (by decide), vrd_o (by decide), vrd_s]) (fun _ => by rw [pset_s]; rfl) ?_
    refine ⟨hP, hS, L, md, H, gs, upd2 T n9 a, n9 + 1, hch, ⟨Bd, mv, tn, bs, ov, st, ch, hR0⟩, by omega, atH_fr hH (fun c c1 c2 => ?_) (fun c c1 c2 => by rw [pset_n (by omega)]), ?_, ?_, ?_, ?_, ?_, ?_, ha⟩
    · rw [vset_n (by omega), vset_n (by omega), vset_n (by omega), vset_n (by omega), vset_n (by omega)]
    · exact hn9
    · exact hHm
    · intro k hk
      show upd (V 34) n9 (nI a) k = nI (upd2 T n9 a k) ∧ _
      unfold upd upd2
      by_cases e : k = n9
      · rw [if_pos e, if_pos e]; exact ⟨rfl, hac⟩
      · rw [if_neg e, if_neg e]; exact hT k hk
    · intro k hk
      show upd (V 43) n9 (nI a) k = nI (upd2 T n9 a k) ∧ _
      unfold upd upd2
      by_cases e : k = n9
      · rw [if_pos e, if_pos e]; exact ⟨rfl, hac⟩
      · rw [if_neg e, if_neg e]; exact hU k hk
    · rfl
    · exact vrd_s
  · exact agr_thr hD (.inl rfl) (by decide) (wr_Lw_append hE hl hD V P PH (nI a) sz (fun l hl => ct_Xx_append_x hE hl hD V P PH n9 h33 h60 (nI a) (by omega) sz) okI_thr (okX_thr (by simp))) (fun _ => ix_1) (mdI_ret (ct_Mm_append_x hE hl hD V P PH n9 h37 h60 (by omega) (nI a) sz) vrd_s (fun q => absurd q (by decide)) (SIM_q0 h0))
theorem ag_undo {E : zE} (hE : zEv E) {l : Launch} (hl : l.stackTraces = false) {D : zD} (hD : zDok E D) {V : Nat → Nat → Int32} {P : Nat → Nat → Value} {PH : aH} {sz nc : Nat} (h : SIM D V P PH sz nc) (hnc : nc < 512) : agr E l D y_Lw_undo c_Lw_undo 3 hh_Lw_undo rm_Lw_undo [.ref (D.1 0), .ref (D.1 44)] V P PH sz (fun kc V2 P2 PH2 s2 => mdI E l D y_Mm_undo c_Mm_undo 2 rm_Mm_undo [] kc V2 P2 PH2 s2 (fun V3 P3 PH3 s3 => SIM D V3 P3 PH3 s3 (nc + 1))) := by
  have h0 := h
  obtain ⟨hP, hS, L, md, H, gs, T, n9, hch, ⟨Bd, mv, tn, bs, ov, st, ch, hR⟩, hmd, hH, hn9, hHm, hT, hU, h33, h37, h60⟩ := h
  have hR0 := hR
  obtain ⟨⟨hF, hz, h1, h8⟩, ⟨htn, htc, htm⟩, ⟨hmc, hmm⟩, ⟨hoc, hom⟩, ⟨hcc, hcm, hc2, hcn⟩, ⟨hst, hbs⟩, hg, hb, hms, hak⟩ := hR
  replace hF : okF (bF V 2) := hF
  replace hz : ∀ k, k < 36 → V 38 k = nI (mo (bF V 2 k)) := hz
  replace h1 : one_ (bF V 2) := h1
  have hl5 : H.length ≤ 5 := hH.2.2.2.2.1
  have hgs : isH D P gs := hH.1
  have hn6 : V 6 1 = nI H.length := hH.2.2.2.1
  have h5 : V 1 5 = 0 ∨ V 1 5 = 1 := by
    rw [show V 1 5 = bI ov from hoc]
    cases ov
    · exact .inl rfl
    · exact .inr rfl
  have h7 := chn_v hch
  have e9 : (!L.isEmpty) = st := RSc_L hR0
  obtain ⟨gs2, hH2, hWr, hQr⟩ := psh_H (g := (V 1, V 3, V 4, V 5, P 1 7, L)) hH ⟨rfl, rfl, rfl, rfl, rfl⟩
  obtain ⟨W, eW⟩ : ∃ W, rmV V gs H.length = W := ⟨_, rfl⟩
  obtain ⟨Q, eQ⟩ : ∃ Q, rmP D P gs H.length = Q := ⟨_, rfl⟩
  rw [eW, eQ] at hH2
  rw [eW] at hWr
  rw [eQ] at hQr
  have hm0 := hHm
  obtain ⟨hm, m1, m2, m3⟩ := hm0
  by_cases hl0 : H.length = 0
  · rw [hl0] at hn6 hn9
    exact agr_thr hD (.inl rfl) (by decide) (wr_Lw_undo hE hl hD V P PH  sz (fun l hl => ct_Xx_undo_x hE hl hD V P PH hn6 sz) okI_thr (okX_thr (by simp))) (fun _ => ix_1) (mdI_ret (ct_Mm_undo_x hE hl hD V P PH hn9 sz) vrd_s (fun q => absurd q (by decide)) (SIM_q0 h0))
  · have hi9 : H.length - 1 < H.length := by omega
    obtain ⟨y, hy⟩ : ∃ y, H[H.length - 1]? = some y := ⟨_, List.getElem?_eq_getElem hi9⟩
    obtain ⟨y1, y2⟩ := m3 _ y hy
    have hpop := pop_H hH hl0 hy
    obtain ⟨p1, p2, p3, p4⟩ := hpop
    have aty := hH.2.2.2.2.2 _ y hy
    have h5y : H.length ≠ 0 → V (gs (H.length - 1)) 5 = 0 ∨ V (gs (H.length - 1)) 5 = 1 := fun _ => by
      obtain ⟨_, _, _, _, ov2, _, _, hq⟩ := y2
      rw [aty.1, hq.2.2.2.1.1]
      cases ov2
      · exact .inl rfl
      · exact .inr rfl
    have h7y : H.length ≠ 0 → P (gs (H.length - 1)) 7 = .null ∨ ∃ q, P (gs (H.length - 1)) 7 = .ref q := fun _ => by
      rw [aty.2.2.2.2]
      exact chn_v y1
    have h61 : rsV V gs H.length 6 1 = nI (H.length - 1) := by
      have := p1.2.2.2.1
      rw [List.length_dropLast] at this
      exact this
    have hmy := m1 _ hi9
    refine agr_ret hD (.inl rfl) (by decide) (wr_Lw_undo hE hl hD V P PH sz (fun l hl => ct_Xx_undo hE hl hD V P PH gs hgs H.length hn6 hl5 h5y h7y hl0 h61 sz) okI_ret okX_ret) ?_
    obtain ⟨V2, eV2⟩ : ∃ V2, rsV V gs H.length = V2 := ⟨_, rfl⟩
    obtain ⟨P2, eP2⟩ : ∃ P2, rsP P gs H.length = P2 := ⟨_, rfl⟩
    rw [eV2, eP2] at p1 p2
    rw [eV2] at p3
    rw [eP2] at p4
    rw [eV2, eP2]
    have eo : ∀ c, c ≠ 37 → c ≠ 38 → undM V2 H.length c = V2 c := fun c c7 c8 => by unfold undM; rw [vrow_n c8, vset_n c7, vset_n c7]
    have eu : ∀ j, j ≠ 2 → j ≠ 8 → undM V2 H.length 37 j = V2 37 j := fun j j2 j8 => by unfold undM; rw [vrow_n (by decide), vrd_n j2, vrd_n j8]
    have e38 : undM V2 H.length 38 = rcp (V2 38) (V2 39) 0 ((H.length - 1) * 60) 60 := by unfold undM; exact vrow_s
    refine mdI_ret (ct_Mm_undo hE hl hD V2 _ PH H.length (by rw [p3 37 (by omega)]; exact hn9) (by omega) hl5 sz) (by unfold undM; rw [vrow_n (by decide), vrd_n (by decide), vrd_s]) (fun _ => by rw [pset_s]; rfl) ?_
    refine ⟨hP, hS, zGm.L y, hm (H.length - 1), H.dropLast, gs, T, n9, ?_, ?_, by omega, atH_fr p1 (fun c c1 c2 => eo c (by omega) (by omega)) (fun c c1 c2 => by rw [pset_n (by omega)]), ?_, ?_, ?_, ?_, ?_, ?_, h60⟩
    · rw [pset_n (by decide), p2.2.2.2.2]; exact y1
    · rw [eo 1 (by decide) (by decide), eo 3 (by decide) (by decide), eo 4 (by decide) (by decide), eo 5 (by decide) (by decide), eo 40 (by decide) (by decide), p2.1, show V2 3 = zGm.b y from p2.2.1, show V2 4 = zGm.a y from p2.2.2.1, show V2 5 = zGm.k y from p2.2.2.2.1, pset_n (by decide), p2.2.2.2.2, p3 40 (by omega), e38]
      exact RS_ext y2 (fun k hk => by
        unfold rcp blk
        rw [if_pos (by omega), p3 39 (by omega)]
        congr 1
        omega) (fun _ _ => rfl)
    · rw [List.length_dropLast]; unfold undM; rw [vrow_n (by decide), vrd_s]
    · rw [eo 39 (by decide) (by decide), eo 40 (by decide) (by decide), p3 39 (by omega), p3 40 (by omega)]
      refine ⟨hm, fun i hi => ?_, fun i j hij hj => ?_, fun i z hz => ?_⟩
      · rw [List.length_dropLast] at hi
        exact m2 i _ (by omega) hi9
      · rw [List.length_dropLast] at hj
        exact m2 i j hij (by omega)
      · have hi := (List.getElem?_eq_some_iff.mp hz).1
        rw [List.length_dropLast] at hi
        rw [List.getElem?_dropLast, if_pos hi] at hz
        exact m3 i z hz
    · intro k hk
      rw [eo 34 (by decide) (by decide), p3 34 (by omega)]
      exact hT k hk
    · intro k hk
      rw [eo 43 (by decide) (by decide), p3 43 (by omega)]
      exact hU k hk
    · rw [eo 33 (by decide) (by decide), p3 33 (by omega)]; exact h33
    · rw [eu 7 (by decide) (by decide), p3 37 (by omega)]; exact h37
theorem ag_move {E : zE} (hE : zEv E) {l : Launch} (hl : l.stackTraces = false) {D : zD} (hD : zDok E D) {V : Nat → Nat → Int32} {P : Nat → Nat → Value} {PH : aH} {sz nc : Nat} (h : SIM D V P PH sz nc) (hnc : nc < 512) (xa xb : Int32) : agr E l D y_Lw_move c_Lw_move 5 hh_Lw_move rm_Lw_move [.ref (D.1 0), .int xa, .int xb, .ref (D.1 44)] V P PH sz (fun kc V2 P2 PH2 s2 => mdI E l D y_Mm_move c_Mm_move 3 rm_Mm_move [.int xa, .int xb] kc V2 P2 PH2 s2 (fun V3 P3 PH3 s3 => SIM D V3 P3 PH3 s3 (nc + 1))) := by
  have h0 := h
  obtain ⟨hP, hS, L, md, H, gs, T, n9, hch, ⟨Bd, mv, tn, bs, ov, st, ch, hR⟩, hmd, hH, hn9, hHm, hT, hU, h33, h37, h60⟩ := h
  have hR0 := hR
  obtain ⟨⟨hF, hz, h1, h8⟩, ⟨htn, htc, htm⟩, ⟨hmc, hmm⟩, ⟨hoc, hom⟩, ⟨hcc, hcm, hc2, hcn⟩, ⟨hst, hbs⟩, hg, hb, hms, hak⟩ := hR
  replace hF : okF (bF V 2) := hF
  replace hz : ∀ k, k < 36 → V 38 k = nI (mo (bF V 2 k)) := hz
  replace h1 : one_ (bF V 2) := h1
  have hl5 : H.length ≤ 5 := hH.2.2.2.2.1
  have hgs : isH D P gs := hH.1
  have hn6 : V 6 1 = nI H.length := hH.2.2.2.1
  have h5 : V 1 5 = 0 ∨ V 1 5 = 1 := by
    rw [show V 1 5 = bI ov from hoc]
    cases ov
    · exact .inl rfl
    · exact .inr rfl
  have h7 := chn_v hch
  have e9 : (!L.isEmpty) = st := RSc_L hR0
  obtain ⟨gs2, hH2, hWr, hQr⟩ := psh_H (g := (V 1, V 3, V 4, V 5, P 1 7, L)) hH ⟨rfl, rfl, rfl, rfl, rfl⟩
  obtain ⟨W, eW⟩ : ∃ W, rmV V gs H.length = W := ⟨_, rfl⟩
  obtain ⟨Q, eQ⟩ : ∃ Q, rmP D P gs H.length = Q := ⟨_, rfl⟩
  rw [eW, eQ] at hH2
  rw [eW] at hWr
  rw [eQ] at hQr
  obtain ⟨a, ha32, rfl⟩ : ∃ a : Nat, a < 4294967296 ∧ xa = nI a := ⟨pn xa, pn_lt _, (nI_pn _).symm⟩
  obtain ⟨b, hb32, rfl⟩ : ∃ b : Nat, b < 4294967296 ∧ xb = nI b := ⟨pn xb, pn_lt _, (nI_pn _).symm⟩
  by_cases ha : a < 36
  · by_cases hb2 : b < 36
    · have ew : rsn L ov (bF V 2) tn a b = whm st ov (bF V 2) tn a b := by rw [rsn_whm hF L ov ha hb2, e9]
      have hr4 := rsn_le L ov (bF V 2) tn a b
      by_cases h9 : rsn L ov (bF V 2) tn a b = 0
      · have hw0 := ew.symm.trans h9
        have eb : bF W 2 = bF V 2 := bF_ro (hWr 3 (by omega))
        have hRW : RSc (W 1, W 3, W 4, W 5, P 1 7, L) (V 38) (V 40) Bd mv tn md bs ov st ch := by rw [hWr 1 (by omega), hWr 3 (by omega), hWr 4 (by omega), hWr 5 (by omega)]; exact hR0
        have hRp := fun lv2 : Value => RSc_move (lv2 := lv2) hRW ha hb2 (by rw [eb]; exact hw0)
        have hn1 := fun t F => RSc_n1t hR0 t F
        have hq := hw0
        unfold whm at hq
        have ⟨hq1, hq2⟩ : hld (bF V 2) a tn = true ∧ hld (bF V 2) b tn = false := by
          cases st <;> cases ov <;> cases h1q : hld (bF V 2) a tn <;> cases h2q : hld (bF V 2) b tn <;> simp [h1q, h2q] at hq ⊢
        have ha0 : bF V 2 a ≠ 0 := (hld_sd hq1).1
        have hab : a ≠ b := fun e => by rw [e] at hq1; rw [hq1] at hq2; cases hq2
        refine agr_zNewP hD (by decide) (wr_Lw_move hE hl hD V P PH (nI a) (nI b) sz (fun l hl => ct_Xx_move hE hl hD V P PH hF L hch gs hgs H.length hn6 hl5 h5 h7 W Q eW eQ hWr hQr tn htn htc ov hoc md hmc ch hcc hc2 (fun t F => Nat.lt_of_le_of_lt (hn1 t F) (by omega)) hP a ha b hb2 h9 sz hS) zNewP_okI zNewP_okX) (fun q0 g1 g2 g3 => ?_)
        obtain ⟨V2, eV2⟩ : ∃ V2, mvC W L tn md ch a b = V2 := ⟨_, rfl⟩
        have eV3 := eV2
        unfold mvC at eV3
        rw [eV3]
        have eo : ∀ c, 6 ≤ c → V2 c = W c := fun c c1 => by rw [← eV2]; exact mvC_o c1
        have ev : ∀ c, 33 ≤ c → V2 c = V c := fun c c1 => by rw [eo c (by omega), hWr c (by omega)]
        have hz2 : ∀ k, k < 36 → V2 38 k = nI (mo (bF V 2 k)) := fun k hk => by rw [ev 38 (by omega)]; exact hz k hk
        obtain ⟨-, -, -, -, -, -, -, ⟨hB1, hB2⟩, hB3, -⟩ := id hR0
        refine mdI_emv (ct_Mm_move hE hl hD V2 _ _ (bF V 2) hF hz2 H.length (by rw [ev 37 (by omega)]; exact hn9) hl5 st (by rw [ev 38 (by omega)]; exact hst) ov (by rw [ev 38 (by omega)]; exact hom) mv tn md bs htn (by omega) hB2.2.2.1 (fun k hk => (hB2.2.1 k hk).1) (by rw [ev 38 (by omega)]; exact htm) (by rw [ev 38 (by omega)]; exact hmm) (by rw [ev 38 (by omega)]; exact hbs) (fun k hk => by rw [ev 40 (by omega)]; exact hms k hk) a ha ha0 b hb2 hab hw0 _) (by rw [recM_j (by decide), vrd_s]) (fun _ => by rw [pset_s, eb]; rfl) (fun V3 h4 h38 h40 => ?_)
        have h4o : ∀ c, c ≠ 37 → c ≠ 38 → c ≠ 39 → c ≠ 40 → c ≠ 41 → c ≠ 42 → V3 c = V2 c := fun c c1 c2 c3 c4 c5 c6 => by rw [h4 c c2 c4 c5 c6, recM_o c3 c1, vset_n c1]
        refine SIM_rec (L3 := mvL W L tn a b) (okP_set hP g2) (okS_set hS g1) (hset_m g3) hch ⟨_, _, _, _, _, _, _, hR0⟩ hl5 hHm hH2 (fun c c1 c2 => ?_) (fun c c1 c2 => by rw [pset_n (by omega), pset_n (by omega)]) hT hU h33 h37 h60 (by rw [h4o 33 (by decide) (by decide) (by decide) (by decide) (by decide) (by decide), ev 33 (by omega)]) (by rw [h4o 34 (by decide) (by decide) (by decide) (by decide) (by decide) (by decide), ev 34 (by omega)]) (by rw [h4o 43 (by decide) (by decide) (by decide) (by decide) (by decide) (by decide), ev 43 (by omega)]) ?_ ?_ ?_ (fun k hk => by rw [h40, upd_n (by omega), ev 40 (by omega)]) ?_ ?_ (Nat.le_succ md) (by omega)
        · rw [h4o c (by omega) (by omega) (by omega) (by omega) (by omega) (by omega), eo c (by omega)]
        · rw [h4 39 (by decide) (by decide) (by decide) (by decide)]
          exact recM_39 (by rw [vset_n (by decide)]; exact ev 38 (by omega)) (by rw [vset_n (by decide)]; exact ev 39 (by omega))
        · rw [h4 37 (by decide) (by decide) (by decide) (by decide), recM_2 hl5, recM_2 hl5]
        · rw [h4 37 (by decide) (by decide) (by decide) (by decide), recM_j (by decide), vrd_n (by decide), ev 37 (by omega)]
        · rw [pset_n (by decide), pset_s, hQr 1 (by omega)]
          exact chn_new (p := (1 - tn, pq4 (mvF (bF W 2) a b), n1t (1 - tn) (mvF (bF W 2) a b) L)) hch ⟨by show 1 - tn < 2; omega, fun j hj => qtr_63 (okF_mv (by rw [eb]; exact hF) ha) (by omega) (by omega), Nat.lt_of_le_of_lt (hn1 _ _) (by omega)⟩ g3
        · rw [h4o 1 (by decide) (by decide) (by decide) (by decide) (by decide) (by decide), h4o 3 (by decide) (by decide) (by decide) (by decide) (by decide) (by decide), h4o 4 (by decide) (by decide) (by decide) (by decide) (by decide) (by decide), h4o 5 (by decide) (by decide) (by decide) (by decide) (by decide) (by decide), h38, h40, ev 38 (by omega), ev 40 (by omega), ← eV2, ← eb]
          exact ⟨_, _, _, _, _, _, _, hRp _⟩
      · exact agr_thr hD (.inl rfl) (by decide) (wr_Lw_move hE hl hD V P PH (nI a) (nI b) sz (fun l hl => ct_Xx_move_x3 hE hl hD V P PH hF L hch tn htn htc ov hoc a ha b hb2 (by omega) h9 sz) okI_thr (okX_thr (by simp))) (fun _ => ix_21 (by decide)) (mdI_ret (ct_Mm_move_x3 hE hl hD V P PH (bF V 2) hF hz st hst ov hom tn htn htm a ha b hb2 (by omega) (by omega) sz) vrd_s (fun q => absurd q (by decide)) (SIM_q0 h0))
    · exact agr_thr hD (.inl rfl) (by decide) (wr_Lw_move hE hl hD V P PH (nI a) (nI b) sz (fun l hl => ct_Xx_move_x2 hE hl hD V P PH a ha b hb32 (by omega) sz) okI_thr (okX_thr (by simp))) (fun _ => ix_20 (by decide)) (mdI_ret (ct_Mm_move_x2 hE hl hD V P PH a ha b hb32 (by omega) sz) vrd_s (fun q => absurd q (by decide)) (SIM_q0 h0))
  · exact agr_thr hD (.inl rfl) (by decide) (wr_Lw_move hE hl hD V P PH (nI a) (nI b) sz (fun l hl => ct_Xx_move_x1 hE hl hD V P PH a ha32 (by omega) _ sz) okI_thr (okX_thr (by simp))) (fun _ => ix_20 (by decide)) (mdI_ret (ct_Mm_move_x1 hE hl hD V P PH a ha32 (by omega) _ sz) vrd_s (fun q => absurd q (by decide)) (SIM_q0 h0))
