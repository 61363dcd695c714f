/-! ===== the law: its switch and its loop ===== -/
theorem nI_lp {L a : Nat} (hL : L ≤ 2048) (ha : a ≤ 4096) : (nI L - nI 4 < nI a) ↔ L < a + 4 := by
  by_cases h4 : 4 ≤ L
  · rw [nI_sub h4, nI_ltI (by omega) (by omega)]
    omega
  · have ta : (nI a).toInt = (a : Int) := nI_toInt (by omega)
    have h9 : (nI L - nI 4).toInt < 0 := by
      rcases (show L = 0 ∨ L = 1 ∨ L = 2 ∨ L = 3 by omega) with rfl | rfl | rfl | rfl <;> decide
    rw [Int32.lt_iff_toInt_lt, ta]
    omega
theorem law_sw {E : zE} {G : zG} {nm : String} (C : zCx E G code 9 R_Lw nm (some .boolean) room_1) {D : zD} (hD : zDok E D) {V : Nat → Nat → Int32} {P : Nat → Nat → Value} {PH : aH} {sz nc k n : Nat} (h : SIM D V P PH sz nc) (hnc : nc < 512) (hlen : 4 * nc + 4 ≤ D.2.2.1) (hL : D.2.2.1 ≤ 2048) (hk : k ≤ 400 + 13 * nc) (hn : n ≤ 9000 + 90 * nc) {d : Nat} (hd : d < 64)
    (kk : ∀ (V2 : Nat → Nat → Int32) (P2 : Nat → Nat → Value) (PH2 : aH) (s2 k2 n2 : Nat) (l6 l7 l8 : Option Value), SIM D V2 P2 PH2 s2 (nc + 1) → k2 ≤ k + 13 → n2 ≤ n + 90 → Z E G (HM D V2 P2 PH2) s2 k2 n2 (1928, [some (.ref (D.1 52)), some (.ref (D.1 0)), some (.ref (D.1 37)), some (.ref (D.1 44)), some (.ref (D.1 45)), some (.int (nI (4 * nc))), l6, l7, l8], [])) : Z E G (HM D V P PH) sz k n (44, [some (.ref (D.1 52)), some (.ref (D.1 0)), some (.ref (D.1 37)), some (.ref (D.1 44)), some (.ref (D.1 45)), some (.int (nI (4 * nc))), none, none, none], [.int (nI d)]) := by
  by_cases g0 : d = 0
  · subst g0
    exact Z_swIn C it_Lch rfl (off := 156) (tgt := 200) (by decide) (by decide) rfl rfl (lc_0 C hD h hnc hlen hL hk hn kk)
  by_cases g1 : d = 1
  · subst g1
    exact Z_swIn C it_Lch rfl (off := 236) (tgt := 280) (by decide) (by decide) rfl rfl (lc_1 C hD h hnc hlen hL hk hn kk)
  by_cases g2 : d = 2
  · subst g2
    exact Z_swIn C it_Lch rfl (off := 316) (tgt := 360) (by decide) (by decide) rfl rfl (lc_2 C hD h hnc hlen hL hk hn kk)
  by_cases g3 : d = 3
  · subst g3
    exact Z_swIn C it_Lch rfl (off := 372) (tgt := 416) (by decide) (by decide) rfl rfl (lc_3 C hD h hnc hlen hL hk hn kk)
  by_cases g4 : d = 4
  · subst g4
    exact Z_swIn C it_Lch rfl (off := 416) (tgt := 460) (by decide) (by decide) rfl rfl (lc_4 C hD h hnc hlen hL hk hn kk)
  by_cases g5 : d = 5
  · subst g5
    exact Z_swIn C it_Lch rfl (off := 484) (tgt := 528) (by decide) (by decide) rfl rfl (lc_5 C hD h hnc hlen hL hk hn kk)
  by_cases g6 : d = 6
  · subst g6
    exact Z_swIn C it_Lch rfl (off := 528) (tgt := 572) (by decide) (by decide) rfl rfl (lc_6 C hD h hnc hlen hL hk hn kk)
  by_cases g7 : d = 7
  · subst g7
    exact Z_swIn C it_Lch rfl (off := 596) (tgt := 640) (by decide) (by decide) rfl rfl (lc_7 C hD h hnc hlen hL hk hn kk)
  by_cases g8 : d = 8
  · subst g8
    exact Z_swIn C it_Lch rfl (off := 654) (tgt := 698) (by decide) (by decide) rfl rfl (lc_8 C hD h hnc hlen hL hk hn kk)
  by_cases g9 : d = 9
  · subst g9
    exact Z_swIn C it_Lch rfl (off := 667) (tgt := 711) (by decide) (by decide) rfl rfl (lc_9 C hD h hnc hlen hL hk hn kk)
  by_cases g10 : d = 10
  · subst g10
    exact Z_swIn C it_Lch rfl (off := 680) (tgt := 724) (by decide) (by decide) rfl rfl (lc_10 C hD h hnc hlen hL hk hn kk)
  by_cases g11 : d = 11
  · subst g11
    exact Z_swIn C it_Lch rfl (off := 724) (tgt := 768) (by decide) (by decide) rfl rfl (lc_11 C hD h hnc hlen hL hk hn kk)
  by_cases g12 : d = 12
  · subst g12
    exact Z_swIn C it_Lch rfl (off := 768) (tgt := 812) (by decide) (by decide) rfl rfl (lc_12 C hD h hnc hlen hL hk hn kk)
  by_cases g13 : d = 13
  · subst g13
    exact Z_swIn C it_Lch rfl (off := 824) (tgt := 868) (by decide) (by decide) rfl rfl (lc_13 C hD h hnc hlen hL hk hn kk)
  by_cases g14 : d = 14
  · subst g14
    exact Z_swIn C it_Lch rfl (off := 880) (tgt := 924) (by decide) (by decide) rfl rfl (lc_14 C hD h hnc hlen hL hk hn kk)
  by_cases g15 : d = 15
  · subst g15
    exact Z_swIn C it_Lch rfl (off := 936) (tgt := 980) (by decide) (by decide) rfl rfl (lc_15 C hD h hnc hlen hL hk hn kk)
  by_cases g16 : d = 16
  · subst g16
    exact Z_swIn C it_Lch rfl (off := 992) (tgt := 1036) (by decide) (by decide) rfl rfl (lc_16 C hD h hnc hlen hL hk hn kk)
  by_cases g17 : d = 17
  · subst g17
    exact Z_swIn C it_Lch rfl (off := 1048) (tgt := 1092) (by decide) (by decide) rfl rfl (lc_17 C hD h hnc hlen hL hk hn kk)
  by_cases g18 : d = 18
  · subst g18
    exact Z_swIn C it_Lch rfl (off := 1116) (tgt := 1160) (by decide) (by decide) rfl rfl (lc_18 C hD h hnc hlen hL hk hn kk)
  by_cases g19 : d = 19
  · subst g19
    exact Z_swIn C it_Lch rfl (off := 1171) (tgt := 1215) (by decide) (by decide) rfl rfl (lc_19 C hD h hnc hlen hL hk hn kk)
  by_cases g20 : d = 20
  · subst g20
    exact Z_swIn C it_Lch rfl (off := 1227) (tgt := 1271) (by decide) (by decide) rfl rfl (lc_20 C hD h hnc hlen hL hk hn kk)
  by_cases g21 : d = 21
  · subst g21
    exact Z_swIn C it_Lch rfl (off := 1295) (tgt := 1339) (by decide) (by decide) rfl rfl (lc_21 C hD h hnc hlen hL hk hn kk)
  by_cases g22 : d = 22
  · subst g22
    exact Z_swIn C it_Lch rfl (off := 1363) (tgt := 1407) (by decide) (by decide) rfl rfl (lc_22 C hD h hnc hlen hL hk hn kk)
  by_cases g23 : d = 23
  · subst g23
    exact Z_swIn C it_Lch rfl (off := 1418) (tgt := 1462) (by decide) (by decide) rfl rfl (lc_23 C hD h hnc hlen hL hk hn kk)
  by_cases g24 : d = 24
  · subst g24
    exact Z_swIn C it_Lch rfl (off := 1474) (tgt := 1518) (by decide) (by decide) rfl rfl (lc_24 C hD h hnc hlen hL hk hn kk)
  by_cases g25 : d = 25
  · subst g25
    exact Z_swIn C it_Lch rfl (off := 1530) (tgt := 1574) (by decide) (by decide) rfl rfl (lc_25 C hD h hnc hlen hL hk hn kk)
  by_cases g26 : d = 26
  · subst g26
    exact Z_swIn C it_Lch rfl (off := 1543) (tgt := 1587) (by decide) (by decide) rfl rfl (lc_26 C hD h hnc hlen hL hk hn kk)
  by_cases g27 : d = 27
  · subst g27
    exact Z_swIn C it_Lch rfl (off := 1556) (tgt := 1600) (by decide) (by decide) rfl rfl (lc_27 C hD h hnc hlen hL hk hn kk)
  by_cases g28 : d = 28
  · subst g28
    exact Z_swIn C it_Lch rfl (off := 1600) (tgt := 1644) (by decide) (by decide) rfl rfl (lc_28 C hD h hnc hlen hL hk hn kk)
  by_cases g29 : d = 29
  · subst g29
    exact Z_swIn C it_Lch rfl (off := 1613) (tgt := 1657) (by decide) (by decide) rfl rfl (lc_29 C hD h hnc hlen hL hk hn kk)
  by_cases g30 : d = 30
  · subst g30
    exact Z_swIn C it_Lch rfl (off := 1626) (tgt := 1670) (by decide) (by decide) rfl rfl (lc_30 C hD h hnc hlen hL hk hn kk)
  by_cases g31 : d = 31
  · subst g31
    exact Z_swIn C it_Lch rfl (off := 1682) (tgt := 1726) (by decide) (by decide) rfl rfl (lc_31 C hD h hnc hlen hL hk hn kk)
  by_cases g32 : d = 32
  · subst g32
    exact Z_swIn C it_Lch rfl (off := 1738) (tgt := 1782) (by decide) (by decide) rfl rfl (lc_32 C hD h hnc hlen hL hk hn kk)
  by_cases g33 : d = 33
  · subst g33
    exact Z_swIn C it_Lch rfl (off := 1794) (tgt := 1838) (by decide) (by decide) rfl rfl (lc_33 C hD h hnc hlen hL hk hn kk)
  by_cases g34 : d = 34
  · subst g34
    exact Z_swIn C it_Lch rfl (off := 1871) (tgt := 1915) (by decide) (by decide) rfl rfl (lc_34 C hD h hnc hlen hL hk hn kk)
  refine Z_swOut C it_Lch rfl (tgt := 1928) (Or.inr ?_) rfl ?_
  · rw [nI_toInt (by omega)]
    omega
  · exact kk V P PH sz k n none none none (SIM_fr h (fun _ _ _ _ _ => rfl) rfl rfl (fun _ _ _ => rfl)) (by omega) (by omega)
theorem law_loop {E : zE} {G : zG} {nm : String} (C : zCx E G code 9 R_Lw nm (some .boolean) room_1) {D : zD} (hD : zDok E D) (hL : D.2.2.1 ≤ 2048) (hend : ∀ (V : Nat → Nat → Int32) (P : Nat → Nat → Value) (PH : aH) (sz k n : Nat) (ls : zL), k ≤ 601024 → n ≤ 7293034 → Z E G (HM D V P PH) sz k n (1935, ls, [.int (nI 1)])) : ∀ (j nc : Nat), 513 - nc < j → 4 * nc ≤ D.2.2.1 + 0 → ∀ (V : Nat → Nat → Int32) (P : Nat → Nat → Value) (PH : aH) (sz k n : Nat) (l6 l7 l8 : Option Value), SIM D V P PH sz nc → k ≤ 400 + 13 * nc → n ≤ 9000 + 90 * nc → Z E G (HM D V P PH) sz k n (28, [some (.ref (D.1 52)), some (.ref (D.1 0)), some (.ref (D.1 37)), some (.ref (D.1 44)), some (.ref (D.1 45)), some (.int (nI (4 * nc))), l6, l7, l8], []) := by
  intro j
  induction j with
  | zero => intro nc h1; omega
  | succ j ih =>
    intro nc h1 h2 V P PH sz k n l6 l7 l8 hS hk hn
    refine Z_sub (ls2 := [some (.ref (D.1 52)), some (.ref (D.1 0)), some (.ref (D.1 37)), some (.ref (D.1 44)), some (.ref (D.1 45)), some (.int (nI (4 * nc))), none, none, none]) (by simp [zsubl]) ?_
    refine Z_run C it_Lch 2 (f2 := (31, [some (.ref (D.1 52)), some (.ref (D.1 0)), some (.ref (D.1 37)), some (.ref (D.1 44)), some (.ref (D.1 45)), some (.int (nI (4 * nc))), none, none, none], [.ref (D.1 52), .int (nI (4 * nc))])) rfl ?_
    refine Z_alen C it_Lch rfl (nn := D.2.2.1) (fs := fun k => .int (D.2.2.2 k)) (by rw [HM_at hD (show 52 < 53 by decide)]; rfl) rfl ?_
    refine Z_run C it_Lch 2 (f2 := (34, [some (.ref (D.1 52)), some (.ref (D.1 0)), some (.ref (D.1 37)), some (.ref (D.1 44)), some (.ref (D.1 45)), some (.int (nI (4 * nc))), none, none, none], [.int (nI D.2.2.1 - nI 4), .int (nI (4 * nc))])) rfl ?_
    refine Z_br C it_Lch rfl rfl (fun hc1 => ?_) (fun hc1 => ?_)
    · refine Z_run C it_Lch 1 (f2 := (1935, [some (.ref (D.1 52)), some (.ref (D.1 0)), some (.ref (D.1 37)), some (.ref (D.1 44)), some (.ref (D.1 45)), some (.int (nI (4 * nc))), none, none, none], [.int (nI 1)])) rfl ?_
      exact hend _ _ _ _ _ _ _ (by omega) (by omega)
    · have hlen : 4 * nc + 4 ≤ D.2.2.1 := by
        have h9 : ¬ (nI D.2.2.1 - nI 4 < nI (4 * nc)) := hc1
        rw [nI_lp hL (by omega)] at h9
        omega
      refine Z_run C it_Lch 2 (f2 := (40, [some (.ref (D.1 52)), some (.ref (D.1 0)), some (.ref (D.1 37)), some (.ref (D.1 44)), some (.ref (D.1 45)), some (.int (nI (4 * nc))), none, none, none], [.int (nI (4 * nc)), .ref (D.1 52)])) rfl ?_
      refine Zm_ald C it_Lch hD 52 15 rfl (by decide) rfl (by decide) (by show D.2.2.1 < 2 ^ 31; omega) rfl (j := 4 * nc) (by show 4 * nc < D.2.2.1; omega) (v := .int (D.2.2.2 (4 * nc))) rfl ?_
      refine Z_run C it_Lch 2 (f2 := (44, [some (.ref (D.1 52)), some (.ref (D.1 0)), some (.ref (D.1 37)), some (.ref (D.1 44)), some (.ref (D.1 45)), some (.int (nI (4 * nc))), none, none, none], [.int (D.2.2.2 (4 * nc) &&& nI 63)])) rfl ?_
      rw [nI_63]
      refine law_sw C hD hS (by omega) hlen hL hk hn (Nat.mod_lt _ (by decide)) (fun V2 P2 PH2 s2 k2 n2 m6 m7 m8 hS2 hk2 hn2 => ?_)
      refine Z_run C it_Lch 2 (f2 := (28, [some (.ref (D.1 52)), some (.ref (D.1 0)), some (.ref (D.1 37)), some (.ref (D.1 44)), some (.ref (D.1 45)), some (.int (nI (4 * nc) + nI 4)), m6, m7, m8], [])) rfl ?_
      rw [nI_plus, show 4 * nc + 4 = 4 * (nc + 1) by omega]
      exact ih (nc + 1) (by omega) (by omega) V2 P2 PH2 s2 k2 n2 m6 m7 m8 hS2 (by omega) (by omega)
