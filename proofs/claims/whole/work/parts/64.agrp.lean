/-! ===== what the calls owe: put, take away, start, append, undo ===== -/
theorem recM_j {V : Nat → Nat → Int32} {n j : Nat} (hj : j ≠ 2) : recM V n 37 j = V 37 j := by
  unfold recM
  split
  · unfold recB recA
    rw [vrd_n hj, vrow_n (by decide), vrd_n hj, vrow_n (by decide)]
  · unfold recB
    rw [vrd_n hj, vrow_n (by decide)]
section MDX
variable {V V2 : Nat → Nat → Int32} {n b k c : Nat} {t x y : Int32}
theorem md_o (h37 : c ≠ 37) (h38 : c ≠ 38) (h39 : c ≠ 39) : vset (vset (recM (vset V2 37 8 t) n) 38 b x) 38 k y c = V2 c := by
  rw [vset_n h38, vset_n h38, recM_o h39 h37, vset_n h37]
theorem md_38 : vset (vset (recM (vset V2 37 8 t) n) 38 b x) 38 k y 38 = upd (upd (V2 38) b x) k y := by
  rw [vset_s, vset_s, recM_o (by decide) (by decide), vset_n (by decide)]
theorem md_39 (h8 : V2 38 = V 38) (h9 : V2 39 = V 39) : vset (vset (recM (vset V2 37 8 t) n) 38 b x) 38 k y 39 = recM V n 39 := by
  rw [vset_n (by decide), vset_n (by decide)]
  exact recM_39 (by rw [vset_n (by decide)]; exact h8) (by rw [vset_n (by decide)]; exact h9)
theorem md_2 (hn : n ≤ 5) : vset (vset (recM (vset V2 37 8 t) n) 38 b x) 38 k y 37 2 = recM V n 37 2 := by
  rw [vset_n (by decide), vset_n (by decide), recM_2 hn, recM_2 hn]
theorem md_7 : vset (vset (recM (vset V2 37 8 t) n) 38 b x) 38 k y 37 7 = V2 37 7 := by
  rw [vset_n (by decide), vset_n (by decide), recM_j (by decide), vrd_n (by decide)]
theorem md_8 : vset (vset (recM (vset V2 37 8 t) n) 38 b x) 38 k y 37 8 = t := by
  rw [vset_n (by decide), vset_n (by decide), recM_j (by decide), vrd_s]
end MDX
theorem ag_putPiece {E : zE} (hE : zEv E) {l : Launch} (hl : l.stackTraces = false) {D : zD} (hD : zDok E D) {V : Nat → Nat → Int32} {P : Nat → Nat → Value} {PH : aH} {sz nc : Nat} (h : SIM D V P PH sz nc) (hnc : nc < 512) (xa xb xc : Int32) : agr E l D y_Lw_putPiece c_Lw_putPiece 6 hh_Lw_putPiece rm_Lw_putPiece [.ref (D.1 0), .int xa, .int xb, .int xc, .ref (D.1 44)] V P PH sz (fun kc V2 P2 PH2 s2 => mdI E l D y_Mm_putPiece c_Mm_putPiece 4 rm_Mm_putPiece [.int xa, .int xb, .int xc] kc V2 P2 PH2 s2 (fun V3 P3 PH3 s3 => SIM D V3 P3 PH3 s3 (nc + 1))) := by
  have h0 := h
  obtain ⟨hP, hS, L, md, H, gs, T, n9, hch, ⟨Bd, mv, tn, bs, ov, st, ch, hR⟩, hmd, hH, hn9, hHm, hT, hU, h33, h37, h60⟩ := h
  have hR0 := hR
  obtain ⟨⟨hF, hz, h1, h8⟩, ⟨htn, htc, htm⟩, ⟨hmc, hmm⟩, ⟨hoc, hom⟩, ⟨hcc, hcm, hc2, hcn⟩, ⟨hst, hbs⟩, hg, hb, hms, hak⟩ := hR
  replace hF : okF (bF V 2) := hF
  replace hz : ∀ k, k < 36 → V 38 k = nI (mo (bF V 2 k)) := hz
  replace h1 : one_ (bF V 2) := h1
  have hl5 : H.length ≤ 5 := hH.2.2.2.2.1
  have hgs : isH D P gs := hH.1
  have hn6 : V 6 1 = nI H.length := hH.2.2.2.1
  have h5 : V 1 5 = 0 ∨ V 1 5 = 1 := by
    rw [show V 1 5 = bI ov from hoc]
    cases ov
    · exact .inl rfl
    · exact .inr rfl
  have h7 := chn_v hch
  have e9 : (!L.isEmpty) = st := RSc_L hR0
  obtain ⟨gs2, hH2, hWr, hQr⟩ := psh_H (g := (V 1, V 3, V 4, V 5, P 1 7, L)) hH ⟨rfl, rfl, rfl, rfl, rfl⟩
  obtain ⟨W, eW⟩ : ∃ W, rmV V gs H.length = W := ⟨_, rfl⟩
  obtain ⟨Q, eQ⟩ : ∃ Q, rmP D P gs H.length = Q := ⟨_, rfl⟩
  rw [eW, eQ] at hH2
  rw [eW] at hWr
  rw [eQ] at hQr
  obtain ⟨a, ha32, rfl⟩ : ∃ a : Nat, a < 4294967296 ∧ xa = nI a := ⟨pn xa, pn_lt _, (nI_pn _).symm⟩
  obtain ⟨b, hb32, rfl⟩ : ∃ b : Nat, b < 4294967296 ∧ xb = nI b := ⟨pn xb, pn_lt _, (nI_pn _).symm⟩
  obtain ⟨c, hc32, rfl⟩ : ∃ c : Nat, c < 4294967296 ∧ xc = nI c := ⟨pn xc, pn_lt _, (nI_pn _).symm⟩
  by_cases ha : a < 2
  · by_cases hb2 : b < 36
    · by_cases hc : c = 0 ∨ 32 ≤ c
      · exact agr_thr hD (.inl rfl) (by decide) (wr_Lw_putPiece hE hl hD V P PH (nI a) (nI b) (nI c) sz (fun l hl => ct_Xx_putPiece_x3 hE hl hD V P PH a ha b hb2 c hc32 hc sz) okI_thr (okX_thr (by simp))) (fun _ => ix_3 (fun q => absurd q (by decide)) (fun _ => rfl) (fun q => absurd q (by decide))) (mdI_ret (ct_Mm_putPiece_x3 hE hl hD V P PH a ha b hb2 c hc32 (by omega) sz) vrd_s (fun q => absurd q (by decide)) (SIM_q0 h0))
      · have hc0 : 1 ≤ c := by omega
        replace hc : c < 32 := by omega
        have e5 : acc_ L (bF V 2) a b false = cpt st (bF V 2) a b := by rw [acc_cpt hF, e9]
        cases hac : acc_ L (bF V 2) a b false with
        | false =>
          rw [hac] at e5
          exact agr_thr hD (.inl rfl) (by decide) (wr_Lw_putPiece hE hl hD V P PH (nI a) (nI b) (nI c) sz (fun l hl => ct_Xx_putPiece_x4 hE hl hD V P PH hF L hch a ha b hb2 c hc hc0 hac sz) okI_thr (okX_thr (by simp))) (fun _ => ix_3 (fun q => absurd q (by decide)) (fun q => absurd q (by decide)) (fun _ => rfl)) (mdI_ret (ct_Mm_putPiece_x4 hE hl hD V P PH (bF V 2) hF hz st hst a ha b hb2 c hc hc0 e5.symm sz) vrd_s (fun q => absurd q (by decide)) (SIM_q0 h0))
        | true =>
          have hcp : cpt st (bF V 2) a b = true := e5.symm.trans hac
          have hlz : (false : Bool) = true → lls (fun k => hld (bF V 2) k a && ldr (bF V 2 k)) 36 = none := fun q => by cases q
          have hcp2 := hcp
          unfold cpt at hcp2
          simp only [Bool.and_eq_true, Bool.not_eq_true', decide_eq_true_eq] at hcp2
          obtain ⟨hst9, -, h89⟩ := hcp2
          have hR9 := hR0
          rw [hst9] at hR9
          have hRp := RSc_put hR9 (ld := false) ha hb2 hc hc0 h89 hlz
          have es := sd_pof a ha c hc false
          refine agr_ret hD (.inl rfl) (by decide) (wr_Lw_putPiece hE hl hD V P PH (nI a) (nI b) (nI c) sz (fun l hl => ct_Xx_putPiece hE hl hD V P PH hF L hch gs hgs H.length hn6 hl5 h5 h7 W Q eW eQ hWr hQr a ha b hb2 c hc hc0 hac sz) okI_ret okX_ret) ?_
          obtain ⟨V2, eV2⟩ : ∃ V2, vset (vset W 3 b (nI (pof a c false))) 4 (sd (pof a c false)) (W 4 (sd (pof a c false)) + nI (wr (pof a c false))) = V2 := ⟨_, rfl⟩
          rw [eV2]
          have eo : ∀ c, c ≠ 3 → c ≠ 4 → V2 c = W c := fun c c3 c4 => by rw [← eV2, vset_n c4, vset_n c3]
          have e3 : V2 3 = upd (V 3) b (nI (pof a c false)) := by rw [← eV2, vset_n (by decide), vset_s, hWr 3 (by omega)]
          have e4 : V2 4 = upd (V 4) (sd (pof a c false)) (V 4 (sd (pof a c false)) + nI (wr (pof a c false))) := by rw [← eV2, vset_s, vset_n (by decide), hWr 4 (by omega)]
          have ev : ∀ c, 33 ≤ c → V2 c = V c := fun c c1 => by rw [eo c (by omega) (by omega), hWr c (by omega)]
          have hz2 : ∀ k, k < 36 → V2 38 k = nI (mo (bF V 2 k)) := fun k hk => by rw [ev 38 (by omega)]; exact hz k hk
          refine mdI_ret (ct_Mm_putPiece hE hl hD V2 _ PH (bF V 2) hF hz2 H.length (by rw [ev 37 (by omega)]; exact hn9) hl5 st (by rw [ev 38 (by omega)]; exact hst) a ha b hb2 c hc hc0 hcp sz) md_8 (fun _ => by rw [pset_s]; exact congrArg (fun z : Int32 => Value.long z.toInt64) (congrArg nI (popc_sqs _ _))) ?_
          refine SIM_rec hP hS (fun _ _ h9 => h9) hch ⟨_, _, _, _, _, _, _, hR0⟩ hl5 hHm hH2 (fun c c1 c2 => ?_) (fun c c1 c2 => by rw [pset_n (by omega)]) hT hU h33 h37 h60 (by rw [md_o (by decide) (by decide) (by decide), ev 33 (by omega)]) (by rw [md_o (by decide) (by decide) (by decide), ev 34 (by omega)]) (by rw [md_o (by decide) (by decide) (by decide), ev 43 (by omega)]) (md_39 (ev 38 (by omega)) (ev 39 (by omega))) (md_2 hl5) (by rw [md_7, ev 37 (by omega)]) (fun k hk => by rw [md_o (by decide) (by decide) (by decide), ev 40 (by omega)]) (by rw [pset_n (by decide), hQr 1 (by omega)]; exact hch) ?_ (Nat.le_refl md) (by omega)
          · rw [md_o (by omega) (by omega) (by omega), eo c (by omega) (by omega)]
          · rw [md_o (c := 1) (by decide) (by decide) (by decide), md_o (c := 3) (by decide) (by decide) (by decide), md_o (c := 4) (by decide) (by decide) (by decide), md_o (c := 5) (by decide) (by decide) (by decide), md_o (c := 40) (by decide) (by decide) (by decide), md_38, e3, e4, eo 1 (by decide) (by decide), eo 5 (by decide) (by decide), hWr 1 (by omega), hWr 5 (by omega), ev 38 (by omega), ev 40 (by omega), pset_n (by decide), hQr 1 (by omega), vset_s, recM_o (by decide) (by decide), vset_n (by decide), ev 38 (by omega)]
            exact ⟨_, _, _, _, _, _, _, hRp⟩
    · exact agr_thr hD (.inl rfl) (by decide) (wr_Lw_putPiece hE hl hD V P PH (nI a) (nI b) (nI c) sz (fun l hl => ct_Xx_putPiece_x2 hE hl hD V P PH a ha b hb32 (by omega) _ sz) okI_thr (okX_thr (by simp))) (fun _ => ix_3 (fun _ => rfl) (fun q => absurd q (by decide)) (fun q => absurd q (by decide))) (mdI_ret (ct_Mm_putPiece_x2 hE hl hD V P PH a ha b hb32 (by omega) _ sz) vrd_s (fun q => absurd q (by decide)) (SIM_q0 h0))
  · exact agr_thr hD (.inl rfl) (by decide) (wr_Lw_putPiece hE hl hD V P PH (nI a) (nI b) (nI c) sz (fun l hl => ct_Xx_putPiece_x1 hE hl hD V P PH a ha32 (by omega) _ _ sz) okI_thr (okX_thr (by simp))) (fun _ => ix_3 (fun _ => rfl) (fun q => absurd q (by decide)) (fun q => absurd q (by decide))) (mdI_ret (ct_Mm_putPiece_x1 hE hl hD V P PH a ha32 (by omega) _ _ sz) vrd_s (fun q => absurd q (by decide)) (SIM_q0 h0))
theorem ag_putLeader {E : zE} (hE : zEv E) {l : Launch} (hl : l.stackTraces = false) {D : zD} (hD : zDok E D) {V : Nat → Nat → Int32} {P : Nat → Nat → Value} {PH : aH} {sz nc : Nat} (h : SIM D V P PH sz nc) (hnc : nc < 512) (xa xb xc : Int32) : agr E l D y_Lw_putLeader c_Lw_putLeader 6 hh_Lw_putLeader rm_Lw_putLeader [.ref (D.1 0), .int xa, .int xb, .int xc, .ref (D.1 44)] V P PH sz (fun kc V2 P2 PH2 s2 => mdI E l D y_Mm_putLeader c_Mm_putLeader 4 rm_Mm_putLeader [.int xa, .int xb, .int xc] kc V2 P2 PH2 s2 (fun V3 P3 PH3 s3 => SIM D V3 P3 PH3 s3 (nc + 1))) := by
  have h0 := h
  obtain ⟨hP, hS, L, md, H, gs, T, n9, hch, ⟨Bd, mv, tn, bs, ov, st, ch, hR⟩, hmd, hH, hn9, hHm, hT, hU, h33, h37, h60⟩ := h
  have hR0 := hR
  obtain ⟨⟨hF, hz, h1, h8⟩, ⟨htn, htc, htm⟩, ⟨hmc, hmm⟩, ⟨hoc, hom⟩, ⟨hcc, hcm, hc2, hcn⟩, ⟨hst, hbs⟩, hg, hb, hms, hak⟩ := hR
  replace hF : okF (bF V 2) := hF
  replace hz : ∀ k, k < 36 → V 38 k = nI (mo (bF V 2 k)) := hz
  replace h1 : one_ (bF V 2) := h1
  have hl5 : H.length ≤ 5 := hH.2.2.2.2.1
  have hgs : isH D P gs := hH.1
  have hn6 : V 6 1 = nI H.length := hH.2.2.2.1
  have h5 : V 1 5 = 0 ∨ V 1 5 = 1 := by
    rw [show V 1 5 = bI ov from hoc]
    cases ov
    · exact .inl rfl
    · exact .inr rfl
  have h7 := chn_v hch
  have e9 : (!L.isEmpty) = st := RSc_L hR0
  obtain ⟨gs2, hH2, hWr, hQr⟩ := psh_H (g := (V 1, V 3, V 4, V 5, P 1 7, L)) hH ⟨rfl, rfl, rfl, rfl, rfl⟩
  obtain ⟨W, eW⟩ : ∃ W, rmV V gs H.length = W := ⟨_, rfl⟩
  obtain ⟨Q, eQ⟩ : ∃ Q, rmP D P gs H.length = Q := ⟨_, rfl⟩
  rw [eW, eQ] at hH2
  rw [eW] at hWr
  rw [eQ] at hQr
  obtain ⟨a, ha32, rfl⟩ : ∃ a : Nat, a < 4294967296 ∧ xa = nI a := ⟨pn xa, pn_lt _, (nI_pn _).symm⟩
  obtain ⟨b, hb32, rfl⟩ : ∃ b : Nat, b < 4294967296 ∧ xb = nI b := ⟨pn xb, pn_lt _, (nI_pn _).symm⟩
  obtain ⟨c, hc32, rfl⟩ : ∃ c : Nat, c < 4294967296 ∧ xc = nI c := ⟨pn xc, pn_lt _, (nI_pn _).symm⟩
  by_cases ha : a < 2
  · by_cases hb2 : b < 36
    · by_cases hc : c = 0 ∨ 32 ≤ c
      · exact agr_thr hD (.inl rfl) (by decide) (wr_Lw_putLeader hE hl hD V P PH (nI a) (nI b) (nI c) sz (fun l hl => ct_Xx_putLeader_x3 hE hl hD V P PH a ha b hb2 c hc32 hc sz) okI_thr (okX_thr (by simp))) (fun _ => ix_3 (fun q => absurd q (by decide)) (fun _ => rfl) (fun q => absurd q (by decide))) (mdI_ret (ct_Mm_putLeader_x3 hE hl hD V P PH a ha b hb2 c hc32 (by omega) sz) vrd_s (fun q => absurd q (by decide)) (SIM_q0 h0))
      · have hc0 : 1 ≤ c := by omega
        replace hc : c < 32 := by omega
        have e5 : acc_ L (bF V 2) a b true = (cpt st (bF V 2) a b && (lls (fun k => hld (bF V 2) k a && ldr (bF V 2 k)) 36 == none)) := by rw [acc_cpl hF h1 L ha, e9]
        cases hac : acc_ L (bF V 2) a b true with
        | false =>
          rw [hac] at e5
          cases hcp : cpt st (bF V 2) a b with
          | false =>
            exact agr_thr hD (.inl rfl) (by decide) (wr_Lw_putLeader hE hl hD V P PH (nI a) (nI b) (nI c) sz (fun l hl => ct_Xx_putLeader_x4 hE hl hD V P PH hF L hch a ha b hb2 c hc hc0 hac sz) okI_thr (okX_thr (by simp))) (fun _ => ix_3 (fun q => absurd q (by decide)) (fun q => absurd q (by decide)) (fun _ => rfl)) (mdI_ret (ct_Mm_putLeader_x4 hE hl hD V P PH (bF V 2) hF hz st hst a ha b hb2 c hc hc0 hcp sz) vrd_s (fun q => absurd q (by decide)) (SIM_q0 h0))
          | true =>
            rw [hcp, Bool.true_and] at e5
            cases hl9 : lls (fun k => hld (bF V 2) k a && ldr (bF V 2 k)) 36 with
            | none => rw [hl9] at e5; cases e5
            | some k =>
              exact agr_thr hD (.inl rfl) (by decide) (wr_Lw_putLeader hE hl hD V P PH (nI a) (nI b) (nI c) sz (fun l hl => ct_Xx_putLeader_x4 hE hl hD V P PH hF L hch a ha b hb2 c hc hc0 hac sz) okI_thr (okX_thr (by simp))) (fun _ => ix_3 (fun q => absurd q (by decide)) (fun q => absurd q (by decide)) (fun _ => rfl)) (mdI_ret (ct_Mm_putLeader_x5 hE hl hD V P PH (bF V 2) hF hz st hst a ha b hb2 c hc hc0 hcp k hl9 sz) vrd_s (fun q => absurd q (by decide)) (SIM_q0 h0))
        | true =>
          rw [hac] at e5
          have e6 := (Bool.and_eq_true _ _).mp e5.symm
          have hcp : cpt st (bF V 2) a b = true := e6.1
          have hl9 : lls (fun k => hld (bF V 2) k a && ldr (bF V 2 k)) 36 = none := eq_of_beq e6.2
          have hlz : (true : Bool) = true → lls (fun k => hld (bF V 2) k a && ldr (bF V 2 k)) 36 = none := fun _ => hl9
          have hcp2 := hcp
          unfold cpt at hcp2
          simp only [Bool.and_eq_true, Bool.not_eq_true', decide_eq_true_eq] at hcp2
          obtain ⟨hst9, -, h89⟩ := hcp2
          have hR9 := hR0
          rw [hst9] at hR9
          have hRp := RSc_put hR9 (ld := true) ha hb2 hc hc0 h89 hlz
          have es := sd_pof a ha c hc true
          refine agr_ret hD (.inl rfl) (by decide) (wr_Lw_putLeader hE hl hD V P PH (nI a) (nI b) (nI c) sz (fun l hl => ct_Xx_putLeader hE hl hD V P PH hF L hch gs hgs H.length hn6 hl5 h5 h7 W Q eW eQ hWr hQr a ha b hb2 c hc hc0 hac sz) okI_ret okX_ret) ?_
          obtain ⟨V2, eV2⟩ : ∃ V2, vset (vset W 3 b (nI (pof a c true))) 4 (sd (pof a c true)) (W 4 (sd (pof a c true)) + nI (wr (pof a c true))) = V2 := ⟨_, rfl⟩
          rw [eV2]
          have eo : ∀ c, c ≠ 3 → c ≠ 4 → V2 c = W c := fun c c3 c4 => by rw [← eV2, vset_n c4, vset_n c3]
          have e3 : V2 3 = upd (V 3) b (nI (pof a c true)) := by rw [← eV2, vset_n (by decide), vset_s, hWr 3 (by omega)]
          have e4 : V2 4 = upd (V 4) (sd (pof a c true)) (V 4 (sd (pof a c true)) + nI (wr (pof a c true))) := by rw [← eV2, vset_s, vset_n (by decide), hWr 4 (by omega)]
          have ev : ∀ c, 33 ≤ c → V2 c = V c := fun c c1 => by rw [eo c (by omega) (by omega), hWr c (by omega)]
          have hz2 : ∀ k, k < 36 → V2 38 k = nI (mo (bF V 2 k)) := fun k hk => by rw [ev 38 (by omega)]; exact hz k hk
          refine mdI_ret (ct_Mm_putLeader hE hl hD V2 _ PH (bF V 2) hF hz2 H.length (by rw [ev 37 (by omega)]; exact hn9) hl5 st (by rw [ev 38 (by omega)]; exact hst) a ha b hb2 c hc hc0 hcp hl9 sz) md_8 (fun _ => by rw [pset_s]; exact congrArg (fun z : Int32 => Value.long z.toInt64) (congrArg nI (popc_sqs _ _))) ?_
          refine SIM_rec hP hS (fun _ _ h9 => h9) hch ⟨_, _, _, _, _, _, _, hR0⟩ hl5 hHm hH2 (fun c c1 c2 => ?_) (fun c c1 c2 => by rw [pset_n (by omega)]) hT hU h33 h37 h60 (by rw [md_o (by decide) (by decide) (by decide), ev 33 (by omega)]) (by rw [md_o (by decide) (by decide) (by decide), ev 34 (by omega)]) (by rw [md_o (by decide) (by decide) (by decide), ev 43 (by omega)]) (md_39 (ev 38 (by omega)) (ev 39 (by omega))) (md_2 hl5) (by rw [md_7, ev 37 (by omega)]) (fun k hk => by rw [md_o (by decide) (by decide) (by decide), ev 40 (by omega)]) (by rw [pset_n (by decide), hQr 1 (by omega)]; exact hch) ?_ (Nat.le_refl md) (by omega)
          · rw [md_o (by omega) (by omega) (by omega), eo c (by omega) (by omega)]
          · rw [md_o (c := 1) (by decide) (by decide) (by decide), md_o (c := 3) (by decide) (by decide) (by decide), md_o (c := 4) (by decide) (by decide) (by decide), md_o (c := 5) (by decide) (by decide) (by decide), md_o (c := 40) (by decide) (by decide) (by decide), md_38, e3, e4, eo 1 (by decide) (by decide), eo 5 (by decide) (by decide), hWr 1 (by omega), hWr 5 (by omega), ev 38 (by omega), ev 40 (by omega), pset_n (by decide), hQr 1 (by omega), vset_s, recM_o (by decide) (by decide), vset_n (by decide), ev 38 (by omega)]
            exact ⟨_, _, _, _, _, _, _, hRp⟩
    · exact agr_thr hD (.inl rfl) (by decide) (wr_Lw_putLeader hE hl hD V P PH (nI a) (nI b) (nI c) sz (fun l hl => ct_Xx_putLeader_x2 hE hl hD V P PH a ha b hb32 (by omega) _ sz) okI_thr (okX_thr (by simp))) (fun _ => ix_3 (fun _ => rfl) (fun q => absurd q (by decide)) (fun q => absurd q (by decide))) (mdI_ret (ct_Mm_putLeader_x2 hE hl hD V P PH a ha b hb32 (by omega) _ sz) vrd_s (fun q => absurd q (by decide)) (SIM_q0 h0))
  · exact agr_thr hD (.inl rfl) (by decide) (wr_Lw_putLeader hE hl hD V P PH (nI a) (nI b) (nI c) sz (fun l hl => ct_Xx_putLeader_x1 hE hl hD V P PH a ha32 (by omega) _ _ sz) okI_thr (okX_thr (by simp))) (fun _ => ix_3 (fun _ => rfl) (fun q => absurd q (by decide)) (fun q => absurd q (by decide))) (mdI_ret (ct_Mm_putLeader_x1 hE hl hD V P PH a ha32 (by omega) _ _ sz) vrd_s (fun q => absurd q (by decide)) (SIM_q0 h0))
