/-! ===== the law: cases 27 to 34 ===== -/
def i_Lc27 : List zI := [(1600, .aload_n 1, 1, 0, 0), (1601, .aload_n 3, 1, 0, 0), (1602, .invokestatic 208, 3, 0, 0), (1605, .istore 6, 2, 0, 0), (1607, .aload_n 2, 1, 0, 0), (1608, .invokevirtual 210, 3, 0, 0), (1611, .istore 7, 2, 0, 0), (1613, .aload_n 2, 1, 0, 0), (1614, .invokevirtual 118, 3, 0, 0), (1617, .iload 6, 2, 0, 0), (1619, .if_icmp .eq 5, 3, 0, 1624), (1622, .iconst 0, 1, 0, 0), (1623, .ireturn, 1, 0, 0), (1624, .iload 6, 2, 0, 0), (1626, .ifCond .ne 15, 3, 0, 1641), (1629, .aload_n 3, 1, 0, 0), (1630, .iconst 0, 1, 0, 0), (1631, .laload, 1, 0, 0), (1632, .iload 7, 2, 0, 0), (1634, .i2l, 1, 0, 0), (1635, .lcmp, 1, 0, 0), (1636, .ifCond .eq 5, 3, 0, 1641), (1639, .iconst 0, 1, 0, 0), (1640, .ireturn, 1, 0, 0), (1641, .goto 287, 3, 0, 1928)]
set_option maxRecDepth 20000 in
theorem it_Lc27 : zT code i_Lc27 := zT_of (by decide +kernel)
set_option maxRecDepth 20000 in
theorem lc_27 {E : zE} {G : zG} {nm : String} (C : zCx E G code 9 R_Lw nm (some .boolean) room_1) {D : zD} (hD : zDok E D) {V : Nat → Nat → Int32} {P : Nat → Nat → Value} {PH : aH} {sz nc k n : Nat} (h : SIM D V P PH sz nc) (hnc : nc < 512) (hlen : 4 * nc + 4 ≤ D.2.2.1) (hL : D.2.2.1 ≤ 2048) (hk : k ≤ 400 + 13 * nc) (hn : n ≤ 9000 + 90 * nc)
    (kk : ∀ (V2 : Nat → Nat → Int32) (P2 : Nat → Nat → Value) (PH2 : aH) (s2 k2 n2 : Nat) (l6 l7 l8 : Option Value), SIM D V2 P2 PH2 s2 (nc + 1) → k2 ≤ k + 13 → n2 ≤ n + 90 → Z E G (HM D V2 P2 PH2) s2 k2 n2 (1928, [some (.ref (D.1 52)), some (.ref (D.1 0)), some (.ref (D.1 37)), some (.ref (D.1 44)), some (.ref (D.1 45)), some (.int (nI (4 * nc))), l6, l7, l8], [])) : Z E G (HM D V P PH) sz k n (1600, [some (.ref (D.1 52)), some (.ref (D.1 0)), some (.ref (D.1 37)), some (.ref (D.1 44)), some (.ref (D.1 45)), some (.int (nI (4 * nc))), none, none, none], []) := by
  refine Z_run C it_Lc27 2 (f2 := (1602, [some (.ref (D.1 52)), some (.ref (D.1 0)), some (.ref (D.1 37)), some (.ref (D.1 44)), some (.ref (D.1 45)), some (.int (nI (4 * nc))), none, none, none], [.ref (D.1 44), .ref (D.1 0)])) rfl ?_
  refine Z_agS C it_Lc27 rfl p_Lw_winner ml_Lw_208 [.ref (D.1 0), .ref (D.1 44)] (ag_winner C.ev C.l hD h hnc ) rfl rfl ⟨by decide, by decide, by show _ + 1 ≤ 601024; omega, by show _ + 6 ≤ 7293034; omega⟩ (Nat.le_of_ble_eq_true rfl) rfl (fun kc V2 P2 PH2 s2 hkc hA => ?_)
  show Z E G (HM D V2 P2 PH2) s2 (k + 1) (n + 6) (1605, [some (.ref (D.1 52)), some (.ref (D.1 0)), some (.ref (D.1 37)), some (.ref (D.1 44)), some (.ref (D.1 45)), some (.int (nI (4 * nc))), none, none, none], [.int (nI kc)])
  refine Z_run C it_Lc27 2 (f2 := (1608, [some (.ref (D.1 52)), some (.ref (D.1 0)), some (.ref (D.1 37)), some (.ref (D.1 44)), some (.ref (D.1 45)), some (.int (nI (4 * nc))), some (.int (nI kc)), none, none], [.ref (D.1 37)])) rfl ?_
  refine Z_mdI C it_Lc27 hD rfl p_Mm_winner ml_Lw_210 rfl [] hA rfl rfl ⟨by decide, by decide, by show _ + 0 ≤ 601024; omega, by show _ + 0 ≤ 7293034; omega⟩ (Nat.le_of_ble_eq_true rfl) rfl (fun V3 bb h8 hv hS => ?_)
  show Z E G (HM D V3 P2 PH2) s2 (k + 1 + 0) (n + 6 + 0) (1611, [some (.ref (D.1 52)), some (.ref (D.1 0)), some (.ref (D.1 37)), some (.ref (D.1 44)), some (.ref (D.1 45)), some (.int (nI (4 * nc))), some (.int (nI kc)), none, none], [.int bb])
  refine Z_run C it_Lc27 2 (f2 := (1614, [some (.ref (D.1 52)), some (.ref (D.1 0)), some (.ref (D.1 37)), some (.ref (D.1 44)), some (.ref (D.1 45)), some (.int (nI (4 * nc))), some (.int (nI kc)), some (.int bb), none], [.ref (D.1 37)])) rfl ?_
  refine Zr_callV C it_Lc27 hD rfl p_Mm_thrown ml_Lw_118 37 (by decide) rfl rfl [] (ct_Mm_thrown C.ev C.l hD _ _ _ _) rfl rfl ⟨by decide, by decide, by show _ + 0 ≤ 601024; omega, by show _ + 0 ≤ 7293034; omega⟩ (Nat.le_of_ble_eq_true rfl) rfl ?_
  rw [h8]
  show Z E G (HM D V3 P2 PH2) s2 (k + 1 + 0 + 0) (n + 6 + 0 + 0) (1617, [some (.ref (D.1 52)), some (.ref (D.1 0)), some (.ref (D.1 37)), some (.ref (D.1 44)), some (.ref (D.1 45)), some (.int (nI (4 * nc))), some (.int (nI kc)), some (.int bb), none], [.int (nI kc)])
  refine Z_run C it_Lc27 1 (f2 := (1619, [some (.ref (D.1 52)), some (.ref (D.1 0)), some (.ref (D.1 37)), some (.ref (D.1 44)), some (.ref (D.1 45)), some (.int (nI (4 * nc))), some (.int (nI kc)), some (.int bb), none], [.int (nI kc), .int (nI kc)])) rfl ?_
  refine Z_br C it_Lc27 rfl rfl (fun hc1 => ?_) (fun hc1 => absurd rfl hc1)
  refine Z_run C it_Lc27 1 (f2 := (1626, [some (.ref (D.1 52)), some (.ref (D.1 0)), some (.ref (D.1 37)), some (.ref (D.1 44)), some (.ref (D.1 45)), some (.int (nI (4 * nc))), some (.int (nI kc)), some (.int bb), none], [.int (nI kc)])) rfl ?_
  refine Z_br C it_Lc27 rfl rfl (fun hc2 => ?_) (fun hc2 => ?_)
  · skip
    refine Z_run C it_Lc27 1 (f2 := (1928, [some (.ref (D.1 52)), some (.ref (D.1 0)), some (.ref (D.1 37)), some (.ref (D.1 44)), some (.ref (D.1 45)), some (.int (nI (4 * nc))), some (.int (nI kc)), some (.int bb), none], [])) rfl ?_
    exact kk _ _ _ _ _ _ _ _ _ hS (by omega) (by omega)
  · have hk0 : kc = 0 := (nI_e0 (by omega)).mp (Classical.not_not.mp hc2)
    refine Z_run C it_Lc27 2 (f2 := (1631, [some (.ref (D.1 52)), some (.ref (D.1 0)), some (.ref (D.1 37)), some (.ref (D.1 44)), some (.ref (D.1 45)), some (.int (nI (4 * nc))), some (.int (nI kc)), some (.int bb), none], [.int (nI 0), .ref (D.1 44)])) rfl ?_
    refine Zm_ald C it_Lc27 hD 44 11 rfl (by decide) rfl (by decide) (by decide) rfl (j := 0) (by decide) (v := .long bb.toInt64) (hv hk0) ?_
    refine Z_run C it_Lc27 3 (f2 := (1636, [some (.ref (D.1 52)), some (.ref (D.1 0)), some (.ref (D.1 37)), some (.ref (D.1 44)), some (.ref (D.1 45)), some (.int (nI (4 * nc))), some (.int (nI kc)), some (.int bb), none], [.int (lg_cmp (bb.toInt64) (bb.toInt64))])) rfl ?_
    refine Z_br C it_Lc27 rfl rfl (fun hc3 => ?_) (fun hc3 => absurd (lg_cmp_s _) hc3)
    refine Z_run C it_Lc27 1 (f2 := (1928, [some (.ref (D.1 52)), some (.ref (D.1 0)), some (.ref (D.1 37)), some (.ref (D.1 44)), some (.ref (D.1 45)), some (.int (nI (4 * nc))), some (.int (nI kc)), some (.int bb), none], [])) rfl ?_
    exact kk _ _ _ _ _ _ _ _ _ hS (by omega) (by omega)
def i_Lc28 : List zI := [(1644, .aload_n 1, 1, 0, 0), (1645, .invokevirtual 211, 3, 0, 0), (1648, .aload_n 2, 1, 0, 0), (1649, .invokevirtual 214, 3, 0, 0), (1652, .if_icmp .eq 276, 3, 0, 1928), (1655, .iconst 0, 1, 0, 0), (1656, .ireturn, 1, 0, 0)]
set_option maxRecDepth 20000 in
theorem it_Lc28 : zT code i_Lc28 := zT_of (by decide +kernel)
set_option maxRecDepth 20000 in
theorem lc_28 {E : zE} {G : zG} {nm : String} (C : zCx E G code 9 R_Lw nm (some .boolean) room_1) {D : zD} (hD : zDok E D) {V : Nat → Nat → Int32} {P : Nat → Nat → Value} {PH : aH} {sz nc k n : Nat} (h : SIM D V P PH sz nc) (hnc : nc < 512) (hlen : 4 * nc + 4 ≤ D.2.2.1) (hL : D.2.2.1 ≤ 2048) (hk : k ≤ 400 + 13 * nc) (hn : n ≤ 9000 + 90 * nc)
    (kk : ∀ (V2 : Nat → Nat → Int32) (P2 : Nat → Nat → Value) (PH2 : aH) (s2 k2 n2 : Nat) (l6 l7 l8 : Option Value), SIM D V2 P2 PH2 s2 (nc + 1) → k2 ≤ k + 13 → n2 ≤ n + 90 → Z E G (HM D V2 P2 PH2) s2 k2 n2 (1928, [some (.ref (D.1 52)), some (.ref (D.1 0)), some (.ref (D.1 37)), some (.ref (D.1 44)), some (.ref (D.1 45)), some (.int (nI (4 * nc))), l6, l7, l8], [])) : Z E G (HM D V P PH) sz k n (1644, [some (.ref (D.1 52)), some (.ref (D.1 0)), some (.ref (D.1 37)), some (.ref (D.1 44)), some (.ref (D.1 45)), some (.int (nI (4 * nc))), none, none, none], []) := by
  have h0 := h
  obtain ⟨hP, hS, L, md, H, gs, T, n9, hch, ⟨Bd, mv, tn, bs, ov, st, ch, hR⟩, hmd, hH, hn9, hHm, hT, hU, h33, h37, h60⟩ := h
  have hR0 := hR
  obtain ⟨⟨hF, hz, h1, h8⟩, ⟨htn, htc, htm⟩, ⟨hmc, hmm⟩, ⟨hoc, hom⟩, ⟨hcc, hcm, hc2, hcn⟩, ⟨hst, hbs⟩, hg, hb, hms, hak⟩ := hR
  replace hF : okF (bF V 2) := hF
  replace hz : ∀ k, k < 36 → V 38 k = nI (mo (bF V 2 k)) := hz
  have htz := RSc_tmz hR0
  refine Z_run C it_Lc28 1 (f2 := (1645, [some (.ref (D.1 52)), some (.ref (D.1 0)), some (.ref (D.1 37)), some (.ref (D.1 44)), some (.ref (D.1 45)), some (.int (nI (4 * nc))), none, none, none], [.ref (D.1 0)])) rfl ?_
  refine Zr_callV C it_Lc28 hD rfl p_Xx_repetitions ml_Lw_211 0 (by decide) rfl rfl [] (ct_Xx_repetitions C.ev C.l hD V P PH hP L hch sz) rfl rfl ⟨by decide, by decide, by show _ + 0 ≤ 601024; omega, by show _ + 0 ≤ 7293034; omega⟩ (Nat.le_of_ble_eq_true rfl) rfl ?_
  show Z E G (HM D (V) P PH) sz (k + 0) (n + 0) (1648, [some (.ref (D.1 52)), some (.ref (D.1 0)), some (.ref (D.1 37)), some (.ref (D.1 44)), some (.ref (D.1 45)), some (.int (nI (4 * nc))), none, none, none], [.int (nI (tmz L))])
  refine Z_run C it_Lc28 1 (f2 := (1649, [some (.ref (D.1 52)), some (.ref (D.1 0)), some (.ref (D.1 37)), some (.ref (D.1 44)), some (.ref (D.1 45)), some (.int (nI (4 * nc))), none, none, none], [.ref (D.1 37), .int (nI (tmz L))])) rfl ?_
  cases st with
  | false =>
    refine Zr_callV C it_Lc28 hD rfl p_Mm_repetitions ml_Lw_214 37 (by decide) rfl rfl [] (ct_Mm_repetitions_0 C.ev C.l hD V P PH (bF V 2) hF hz hst sz) rfl rfl ⟨by decide, by decide, by show _ + 0 ≤ 601024; omega, by show _ + 0 ≤ 7293034; omega⟩ (Nat.le_of_ble_eq_true rfl) rfl ?_
    show Z E G _ sz (k + 0 + 0) (n + 0 + 0) (1652, [some (.ref (D.1 52)), some (.ref (D.1 0)), some (.ref (D.1 37)), some (.ref (D.1 44)), some (.ref (D.1 45)), some (.int (nI (4 * nc))), none, none, none], [.int (nI 0), .int (nI (tmz L))])
    refine Z_br C it_Lc28 rfl rfl (fun hc1 => ?_) (fun hc1 => absurd (congrArg nI htz) hc1)
    exact kk _ _ _ _ _ _ _ _ _ (SIM_q0 h0) (by omega) (by omega)
  | true =>
    obtain ⟨-, hB2⟩ := hb
    refine Z_callV C it_Lc28 rfl p_Mm_repetitions ml_Lw_214 [] (ct_Mm_repetitions_1 C.ev C.l hD V P PH (bF V 2) hF hz mv md bs (by omega) hB2.2.2.1 (fun k hk => (hB2.2.1 k hk).1) hmm hbs hms hst sz) rfl rfl (by rw [HM_at hD (show 37 < 53 by decide)]; rfl) (T := F_Mm) (N := 9) (ci := 6) rfl ⟨by decide, by decide, by show _ + 0 ≤ 601024; omega, by show _ + 0 ≤ 7293034; omega⟩ (Nat.le_of_ble_eq_true rfl) rfl (fun v9 h9 s9 hO9 => ?_) (fun X9 h9 s9 hO9 => by cases hO9.1)
    obtain ⟨e9, e8, V2, e7, hV2⟩ := hO9
    rw [e8, e7]
    cases e9
    show Z E G _ sz (k + 0 + 0) (n + 0 + 0) (1652, [some (.ref (D.1 52)), some (.ref (D.1 0)), some (.ref (D.1 37)), some (.ref (D.1 44)), some (.ref (D.1 45)), some (.int (nI (4 * nc))), none, none, none], [.int (nI (tmM (bF V 2) mv md bs)), .int (nI (tmz L))])
    refine Z_br C it_Lc28 rfl rfl (fun hc1 => ?_) (fun hc1 => absurd (congrArg nI (htz.trans (if_pos rfl))) hc1)
    refine kk _ _ _ _ _ _ _ _ _ (SIM_fr h0 (fun c c1 c2 c3 c4 => by rw [hV2 c c3 c4, vset_n c2]) ?_ ?_ (fun _ _ _ => rfl)) (by omega) (by omega)
    · rw [hV2 37 (by decide) (by decide), vrd_n (by decide)]
    · rw [hV2 37 (by decide) (by decide), vrd_n (by decide)]
def i_Lc29 : List zI := [(1657, .aload_n 1, 1, 0, 0), (1658, .invokevirtual 215, 3, 0, 0), (1661, .aload_n 2, 1, 0, 0), (1662, .invokevirtual 218, 3, 0, 0), (1665, .if_icmp .eq 263, 3, 0, 1928), (1668, .iconst 0, 1, 0, 0), (1669, .ireturn, 1, 0, 0)]
set_option maxRecDepth 20000 in
theorem it_Lc29 : zT code i_Lc29 := zT_of (by decide +kernel)
set_option maxRecDepth 20000 in
theorem lc_29 {E : zE} {G : zG} {nm : String} (C : zCx E G code 9 R_Lw nm (some .boolean) room_1) {D : zD} (hD : zDok E D) {V : Nat → Nat → Int32} {P : Nat → Nat → Value} {PH : aH} {sz nc k n : Nat} (h : SIM D V P PH sz nc) (hnc : nc < 512) (hlen : 4 * nc + 4 ≤ D.2.2.1) (hL : D.2.2.1 ≤ 2048) (hk : k ≤ 400 + 13 * nc) (hn : n ≤ 9000 + 90 * nc)
    (kk : ∀ (V2 : Nat → Nat → Int32) (P2 : Nat → Nat → Value) (PH2 : aH) (s2 k2 n2 : Nat) (l6 l7 l8 : Option Value), SIM D V2 P2 PH2 s2 (nc + 1) → k2 ≤ k + 13 → n2 ≤ n + 90 → Z E G (HM D V2 P2 PH2) s2 k2 n2 (1928, [some (.ref (D.1 52)), some (.ref (D.1 0)), some (.ref (D.1 37)), some (.ref (D.1 44)), some (.ref (D.1 45)), some (.int (nI (4 * nc))), l6, l7, l8], [])) : Z E G (HM D V P PH) sz k n (1657, [some (.ref (D.1 52)), some (.ref (D.1 0)), some (.ref (D.1 37)), some (.ref (D.1 44)), some (.ref (D.1 45)), some (.int (nI (4 * nc))), none, none, none], []) := by
  have h0 := h
  obtain ⟨hP, hS, L, md, H, gs, T, n9, hch, ⟨Bd, mv, tn, bs, ov, st, ch, hR⟩, hmd, hH, hn9, hHm, hT, hU, h33, h37, h60⟩ := h
  have hR0 := hR
  obtain ⟨⟨hF, hz, h1, h8⟩, ⟨htn, htc, htm⟩, ⟨hmc, hmm⟩, ⟨hoc, hom⟩, ⟨hcc, hcm, hc2, hcn⟩, ⟨hst, hbs⟩, hg, hb, hms, hak⟩ := hR
  replace hF : okF (bF V 2) := hF
  replace hz : ∀ k, k < 36 → V 38 k = nI (mo (bF V 2 k)) := hz
  refine Z_run C it_Lc29 1 (f2 := (1658, [some (.ref (D.1 52)), some (.ref (D.1 0)), some (.ref (D.1 37)), some (.ref (D.1 44)), some (.ref (D.1 45)), some (.int (nI (4 * nc))), none, none, none], [.ref (D.1 0)])) rfl ?_
  refine Zr_callV C it_Lc29 hD rfl p_Xx_movesMade ml_Lw_215 0 (by decide) rfl rfl [] (ct_Xx_movesMade C.ev C.l hD V P PH  sz) rfl rfl ⟨by decide, by decide, by show _ + 0 ≤ 601024; omega, by show _ + 0 ≤ 7293034; omega⟩ (Nat.le_of_ble_eq_true rfl) rfl ?_
  show Z E G (HM D (V) P PH) sz (k + 0) (n + 0) (1661, [some (.ref (D.1 52)), some (.ref (D.1 0)), some (.ref (D.1 37)), some (.ref (D.1 44)), some (.ref (D.1 45)), some (.int (nI (4 * nc))), none, none, none], [.int (V 1 4)])
  refine Z_run C it_Lc29 1 (f2 := (1662, [some (.ref (D.1 52)), some (.ref (D.1 0)), some (.ref (D.1 37)), some (.ref (D.1 44)), some (.ref (D.1 45)), some (.int (nI (4 * nc))), none, none, none], [.ref (D.1 37), .int (V 1 4)])) rfl ?_
  refine Zr_callV C it_Lc29 hD rfl p_Mm_movesMade ml_Lw_218 37 (by decide) rfl rfl [] (ct_Mm_movesMade C.ev C.l hD V P PH  sz) rfl rfl ⟨by decide, by decide, by show _ + 0 ≤ 601024; omega, by show _ + 0 ≤ 7293034; omega⟩ (Nat.le_of_ble_eq_true rfl) rfl ?_
  show Z E G _ sz (k + 0 + 0) (n + 0 + 0) (1665, [some (.ref (D.1 52)), some (.ref (D.1 0)), some (.ref (D.1 37)), some (.ref (D.1 44)), some (.ref (D.1 45)), some (.int (nI (4 * nc))), none, none, none], [.int (V 38 40), .int (V 1 4)])
  refine Z_br C it_Lc29 rfl rfl (fun hc1 => ?_) (fun hc1 => absurd (hmc.trans hmm.symm) hc1)
  exact kk _ _ _ _ _ _ _ _ _ (SIM_q0 h0) (by omega) (by omega)
def i_Lc30 : List zI := [(1670, .aload_n 1, 1, 0, 0), (1671, .aload_n 0, 1, 0, 0), (1672, .iload 5, 2, 0, 0), (1674, .iconst 1, 1, 1, 0), (1675, .iadd, 1, 0, 0), (1676, .iaload, 1, 0, 0), (1677, .aload_n 3, 1, 0, 0), (1678, .invokestatic 219, 3, 0, 0), (1681, .istore 6, 2, 0, 0), (1683, .aload_n 2, 1, 0, 0), (1684, .aload_n 0, 1, 0, 0), (1685, .iload 5, 2, 0, 0), (1687, .iconst 1, 1, 1, 0), (1688, .iadd, 1, 0, 0), (1689, .iaload, 1, 0, 0), (1690, .invokevirtual 221, 3, 0, 0), (1693, .istore 7, 2, 0, 0), (1695, .aload_n 2, 1, 0, 0), (1696, .invokevirtual 118, 3, 0, 0), (1699, .iload 6, 2, 0, 0), (1701, .if_icmp .eq 5, 3, 0, 1706), (1704, .iconst 0, 1, 0, 0), (1705, .ireturn, 1, 0, 0), (1706, .iload 6, 2, 0, 0), (1708, .ifCond .ne 15, 3, 0, 1723), (1711, .aload_n 3, 1, 0, 0), (1712, .iconst 0, 1, 0, 0), (1713, .laload, 1, 0, 0), (1714, .iload 7, 2, 0, 0), (1716, .i2l, 1, 0, 0), (1717, .lcmp, 1, 0, 0), (1718, .ifCond .eq 5, 3, 0, 1723), (1721, .iconst 0, 1, 0, 0), (1722, .ireturn, 1, 0, 0), (1723, .goto 205, 3, 0, 1928)]
set_option maxRecDepth 20000 in
theorem it_Lc30 : zT code i_Lc30 := zT_of (by decide +kernel)
set_option maxRecDepth 20000 in
theorem lc_30 {E : zE} {G : zG} {nm : String} (C : zCx E G code 9 R_Lw nm (some .boolean) room_1) {D : zD} (hD : zDok E D) {V : Nat → Nat → Int32} {P : Nat → Nat → Value} {PH : aH} {sz nc k n : Nat} (h : SIM D V P PH sz nc) (hnc : nc < 512) (hlen : 4 * nc + 4 ≤ D.2.2.1) (hL : D.2.2.1 ≤ 2048) (hk : k ≤ 400 + 13 * nc) (hn : n ≤ 9000 + 90 * nc)
    (kk : ∀ (V2 : Nat → Nat → Int32) (P2 : Nat → Nat → Value) (PH2 : aH) (s2 k2 n2 : Nat) (l6 l7 l8 : Option Value), SIM D V2 P2 PH2 s2 (nc + 1) → k2 ≤ k + 13 → n2 ≤ n + 90 → Z E G (HM D V2 P2 PH2) s2 k2 n2 (1928, [some (.ref (D.1 52)), some (.ref (D.1 0)), some (.ref (D.1 37)), some (.ref (D.1 44)), some (.ref (D.1 45)), some (.int (nI (4 * nc))), l6, l7, l8], [])) : Z E G (HM D V P PH) sz k n (1670, [some (.ref (D.1 52)), some (.ref (D.1 0)), some (.ref (D.1 37)), some (.ref (D.1 44)), some (.ref (D.1 45)), some (.int (nI (4 * nc))), none, none, none], []) := by
  refine Z_run C it_Lc30 5 (f2 := (1676, [some (.ref (D.1 52)), some (.ref (D.1 0)), some (.ref (D.1 37)), some (.ref (D.1 44)), some (.ref (D.1 45)), some (.int (nI (4 * nc))), none, none, none], [.int (nI (4 * nc) + nI 1), .ref (D.1 52), .ref (D.1 0)])) rfl ?_
  refine Zm_ald C it_Lc30 hD 52 15 rfl (by decide) rfl (by decide) (by show D.2.2.1 < 2 ^ 31; omega) (nI_plus _ _) (j := 4 * nc + 1) (by show 4 * nc + 1 < D.2.2.1; omega) (v := .int (D.2.2.2 (4 * nc + 1))) rfl ?_
  refine Z_run C it_Lc30 1 (f2 := (1678, [some (.ref (D.1 52)), some (.ref (D.1 0)), some (.ref (D.1 37)), some (.ref (D.1 44)), some (.ref (D.1 45)), some (.int (nI (4 * nc))), none, none, none], [.ref (D.1 44), .int (D.2.2.2 (4 * nc + 1)), .ref (D.1 0)])) rfl ?_
  refine Z_agS C it_Lc30 rfl p_Lw_worth ml_Lw_219 [.ref (D.1 0), .int (D.2.2.2 (4 * nc + 1)), .ref (D.1 44)] (ag_worth C.ev C.l hD h hnc (D.2.2.2 (4 * nc + 1))) rfl rfl ⟨by decide, by decide, by show _ + 1 ≤ 601024; omega, by show _ + 6 ≤ 7293034; omega⟩ (Nat.le_of_ble_eq_true rfl) rfl (fun kc V2 P2 PH2 s2 hkc hA => ?_)
  show Z E G (HM D V2 P2 PH2) s2 (k + 1) (n + 6) (1681, [some (.ref (D.1 52)), some (.ref (D.1 0)), some (.ref (D.1 37)), some (.ref (D.1 44)), some (.ref (D.1 45)), some (.int (nI (4 * nc))), none, none, none], [.int (nI kc)])
  refine Z_run C it_Lc30 6 (f2 := (1689, [some (.ref (D.1 52)), some (.ref (D.1 0)), some (.ref (D.1 37)), some (.ref (D.1 44)), some (.ref (D.1 45)), some (.int (nI (4 * nc))), some (.int (nI kc)), none, none], [.int (nI (4 * nc) + nI 1), .ref (D.1 52), .ref (D.1 37)])) rfl ?_
  refine Zm_ald C it_Lc30 hD 52 15 rfl (by decide) rfl (by decide) (by show D.2.2.1 < 2 ^ 31; omega) (nI_plus _ _) (j := 4 * nc + 1) (by show 4 * nc + 1 < D.2.2.1; omega) (v := .int (D.2.2.2 (4 * nc + 1))) rfl ?_
  refine Z_mdI C it_Lc30 hD rfl p_Mm_worth ml_Lw_221 rfl [.int (D.2.2.2 (4 * nc + 1))] hA rfl rfl ⟨by decide, by decide, by show _ + 0 ≤ 601024; omega, by show _ + 0 ≤ 7293034; omega⟩ (Nat.le_of_ble_eq_true rfl) rfl (fun V3 bb h8 hv hS => ?_)
  show Z E G (HM D V3 P2 PH2) s2 (k + 1 + 0) (n + 6 + 0) (1693, [some (.ref (D.1 52)), some (.ref (D.1 0)), some (.ref (D.1 37)), some (.ref (D.1 44)), some (.ref (D.1 45)), some (.int (nI (4 * nc))), some (.int (nI kc)), none, none], [.int bb])
  refine Z_run C it_Lc30 2 (f2 := (1696, [some (.ref (D.1 52)), some (.ref (D.1 0)), some (.ref (D.1 37)), some (.ref (D.1 44)), some (.ref (D.1 45)), some (.int (nI (4 * nc))), some (.int (nI kc)), some (.int bb), none], [.ref (D.1 37)])) rfl ?_
  refine Zr_callV C it_Lc30 hD rfl p_Mm_thrown ml_Lw_118 37 (by decide) rfl rfl [] (ct_Mm_thrown C.ev C.l hD _ _ _ _) rfl rfl ⟨by decide, by decide, by show _ + 0 ≤ 601024; omega, by show _ + 0 ≤ 7293034; omega⟩ (Nat.le_of_ble_eq_true rfl) rfl ?_
  rw [h8]
  show Z E G (HM D V3 P2 PH2) s2 (k + 1 + 0 + 0) (n + 6 + 0 + 0) (1699, [some (.ref (D.1 52)), some (.ref (D.1 0)), some (.ref (D.1 37)), some (.ref (D.1 44)), some (.ref (D.1 45)), some (.int (nI (4 * nc))), some (.int (nI kc)), some (.int bb), none], [.int (nI kc)])
  refine Z_run C it_Lc30 1 (f2 := (1701, [some (.ref (D.1 52)), some (.ref (D.1 0)), some (.ref (D.1 37)), some (.ref (D.1 44)), some (.ref (D.1 45)), some (.int (nI (4 * nc))), some (.int (nI kc)), some (.int bb), none], [.int (nI kc), .int (nI kc)])) rfl ?_
  refine Z_br C it_Lc30 rfl rfl (fun hc1 => ?_) (fun hc1 => absurd rfl hc1)
  refine Z_run C it_Lc30 1 (f2 := (1708, [some (.ref (D.1 52)), some (.ref (D.1 0)), some (.ref (D.1 37)), some (.ref (D.1 44)), some (.ref (D.1 45)), some (.int (nI (4 * nc))), some (.int (nI kc)), some (.int bb), none], [.int (nI kc)])) rfl ?_
  refine Z_br C it_Lc30 rfl rfl (fun hc2 => ?_) (fun hc2 => ?_)
  · skip
    refine Z_run C it_Lc30 1 (f2 := (1928, [some (.ref (D.1 52)), some (.ref (D.1 0)), some (.ref (D.1 37)), some (.ref (D.1 44)), some (.ref (D.1 45)), some (.int (nI (4 * nc))), some (.int (nI kc)), some (.int bb), none], [])) rfl ?_
    exact kk _ _ _ _ _ _ _ _ _ hS (by omega) (by omega)
  · have hk0 : kc = 0 := (nI_e0 (by omega)).mp (Classical.not_not.mp hc2)
    refine Z_run C it_Lc30 2 (f2 := (1713, [some (.ref (D.1 52)), some (.ref (D.1 0)), some (.ref (D.1 37)), some (.ref (D.1 44)), some (.ref (D.1 45)), some (.int (nI (4 * nc))), some (.int (nI kc)), some (.int bb), none], [.int (nI 0), .ref (D.1 44)])) rfl ?_
    refine Zm_ald C it_Lc30 hD 44 11 rfl (by decide) rfl (by decide) (by decide) rfl (j := 0) (by decide) (v := .long bb.toInt64) (hv hk0) ?_
    refine Z_run C it_Lc30 3 (f2 := (1718, [some (.ref (D.1 52)), some (.ref (D.1 0)), some (.ref (D.1 37)), some (.ref (D.1 44)), some (.ref (D.1 45)), some (.int (nI (4 * nc))), some (.int (nI kc)), some (.int bb), none], [.int (lg_cmp (bb.toInt64) (bb.toInt64))])) rfl ?_
    refine Z_br C it_Lc30 rfl rfl (fun hc3 => ?_) (fun hc3 => absurd (lg_cmp_s _) hc3)
    refine Z_run C it_Lc30 1 (f2 := (1928, [some (.ref (D.1 52)), some (.ref (D.1 0)), some (.ref (D.1 37)), some (.ref (D.1 44)), some (.ref (D.1 45)), some (.int (nI (4 * nc))), some (.int (nI kc)), some (.int bb), none], [])) rfl ?_
    exact kk _ _ _ _ _ _ _ _ _ hS (by omega) (by omega)
def i_Lc31 : List zI := [(1726, .aload_n 1, 1, 0, 0), (1727, .aload_n 0, 1, 0, 0), (1728, .iload 5, 2, 0, 0), (1730, .iconst 1, 1, 1, 0), (1731, .iadd, 1, 0, 0), (1732, .iaload, 1, 0, 0), (1733, .aload_n 3, 1, 0, 0), (1734, .invokestatic 222, 3, 0, 0), (1737, .istore 6, 2, 0, 0), (1739, .aload_n 2, 1, 0, 0), (1740, .aload_n 0, 1, 0, 0), (1741, .iload 5, 2, 0, 0), (1743, .iconst 1, 1, 1, 0), (1744, .iadd, 1, 0, 0), (1745, .iaload, 1, 0, 0), (1746, .invokevirtual 224, 3, 0, 0), (1749, .istore 7, 2, 0, 0), (1751, .aload_n 2, 1, 0, 0), (1752, .invokevirtual 118, 3, 0, 0), (1755, .iload 6, 2, 0, 0), (1757, .if_icmp .eq 5, 3, 0, 1762), (1760, .iconst 0, 1, 0, 0), (1761, .ireturn, 1, 0, 0), (1762, .iload 6, 2, 0, 0), (1764, .ifCond .ne 15, 3, 0, 1779), (1767, .aload_n 3, 1, 0, 0), (1768, .iconst 0, 1, 0, 0), (1769, .laload, 1, 0, 0), (1770, .iload 7, 2, 0, 0), (1772, .i2l, 1, 0, 0), (1773, .lcmp, 1, 0, 0), (1774, .ifCond .eq 5, 3, 0, 1779), (1777, .iconst 0, 1, 0, 0), (1778, .ireturn, 1, 0, 0), (1779, .goto 149, 3, 0, 1928)]
set_option maxRecDepth 20000 in
theorem it_Lc31 : zT code i_Lc31 := zT_of (by decide +kernel)
set_option maxRecDepth 20000 in
theorem lc_31 {E : zE} {G : zG} {nm : String} (C : zCx E G code 9 R_Lw nm (some .boolean) room_1) {D : zD} (hD : zDok E D) {V : Nat → Nat → Int32} {P : Nat → Nat → Value} {PH : aH} {sz nc k n : Nat} (h : SIM D V P PH sz nc) (hnc : nc < 512) (hlen : 4 * nc + 4 ≤ D.2.2.1) (hL : D.2.2.1 ≤ 2048) (hk : k ≤ 400 + 13 * nc) (hn : n ≤ 9000 + 90 * nc)
    (kk : ∀ (V2 : Nat → Nat → Int32) (P2 : Nat → Nat → Value) (PH2 : aH) (s2 k2 n2 : Nat) (l6 l7 l8 : Option Value), SIM D V2 P2 PH2 s2 (nc + 1) → k2 ≤ k + 13 → n2 ≤ n + 90 → Z E G (HM D V2 P2 PH2) s2 k2 n2 (1928, [some (.ref (D.1 52)), some (.ref (D.1 0)), some (.ref (D.1 37)), some (.ref (D.1 44)), some (.ref (D.1 45)), some (.int (nI (4 * nc))), l6, l7, l8], [])) : Z E G (HM D V P PH) sz k n (1726, [some (.ref (D.1 52)), some (.ref (D.1 0)), some (.ref (D.1 37)), some (.ref (D.1 44)), some (.ref (D.1 45)), some (.int (nI (4 * nc))), none, none, none], []) := by
  refine Z_run C it_Lc31 5 (f2 := (1732, [some (.ref (D.1 52)), some (.ref (D.1 0)), some (.ref (D.1 37)), some (.ref (D.1 44)), some (.ref (D.1 45)), some (.int (nI (4 * nc))), none, none, none], [.int (nI (4 * nc) + nI 1), .ref (D.1 52), .ref (D.1 0)])) rfl ?_
  refine Zm_ald C it_Lc31 hD 52 15 rfl (by decide) rfl (by decide) (by show D.2.2.1 < 2 ^ 31; omega) (nI_plus _ _) (j := 4 * nc + 1) (by show 4 * nc + 1 < D.2.2.1; omega) (v := .int (D.2.2.2 (4 * nc + 1))) rfl ?_
  refine Z_run C it_Lc31 1 (f2 := (1734, [some (.ref (D.1 52)), some (.ref (D.1 0)), some (.ref (D.1 37)), some (.ref (D.1 44)), some (.ref (D.1 45)), some (.int (nI (4 * nc))), none, none, none], [.ref (D.1 44), .int (D.2.2.2 (4 * nc + 1)), .ref (D.1 0)])) rfl ?_
  refine Z_agS C it_Lc31 rfl p_Lw_worthByAccount ml_Lw_222 [.ref (D.1 0), .int (D.2.2.2 (4 * nc + 1)), .ref (D.1 44)] (ag_worthByAccount C.ev C.l hD h hnc (D.2.2.2 (4 * nc + 1))) rfl rfl ⟨by decide, by decide, by show _ + 1 ≤ 601024; omega, by show _ + 6 ≤ 7293034; omega⟩ (Nat.le_of_ble_eq_true rfl) rfl (fun kc V2 P2 PH2 s2 hkc hA => ?_)
  show Z E G (HM D V2 P2 PH2) s2 (k + 1) (n + 6) (1737, [some (.ref (D.1 52)), some (.ref (D.1 0)), some (.ref (D.1 37)), some (.ref (D.1 44)), some (.ref (D.1 45)), some (.int (nI (4 * nc))), none, none, none], [.int (nI kc)])
  refine Z_run C it_Lc31 6 (f2 := (1745, [some (.ref (D.1 52)), some (.ref (D.1 0)), some (.ref (D.1 37)), some (.ref (D.1 44)), some (.ref (D.1 45)), some (.int (nI (4 * nc))), some (.int (nI kc)), none, none], [.int (nI (4 * nc) + nI 1), .ref (D.1 52), .ref (D.1 37)])) rfl ?_
  refine Zm_ald C it_Lc31 hD 52 15 rfl (by decide) rfl (by decide) (by show D.2.2.1 < 2 ^ 31; omega) (nI_plus _ _) (j := 4 * nc + 1) (by show 4 * nc + 1 < D.2.2.1; omega) (v := .int (D.2.2.2 (4 * nc + 1))) rfl ?_
  refine Z_mdI C it_Lc31 hD rfl p_Mm_worthByAccount ml_Lw_224 rfl [.int (D.2.2.2 (4 * nc + 1))] hA rfl rfl ⟨by decide, by decide, by show _ + 0 ≤ 601024; omega, by show _ + 0 ≤ 7293034; omega⟩ (Nat.le_of_ble_eq_true rfl) rfl (fun V3 bb h8 hv hS => ?_)
  show Z E G (HM D V3 P2 PH2) s2 (k + 1 + 0) (n + 6 + 0) (1749, [some (.ref (D.1 52)), some (.ref (D.1 0)), some (.ref (D.1 37)), some (.ref (D.1 44)), some (.ref (D.1 45)), some (.int (nI (4 * nc))), some (.int (nI kc)), none, none], [.int bb])
  refine Z_run C it_Lc31 2 (f2 := (1752, [some (.ref (D.1 52)), some (.ref (D.1 0)), some (.ref (D.1 37)), some (.ref (D.1 44)), some (.ref (D.1 45)), some (.int (nI (4 * nc))), some (.int (nI kc)), some (.int bb), none], [.ref (D.1 37)])) rfl ?_
  refine Zr_callV C it_Lc31 hD rfl p_Mm_thrown ml_Lw_118 37 (by decide) rfl rfl [] (ct_Mm_thrown C.ev C.l hD _ _ _ _) rfl rfl ⟨by decide, by decide, by show _ + 0 ≤ 601024; omega, by show _ + 0 ≤ 7293034; omega⟩ (Nat.le_of_ble_eq_true rfl) rfl ?_
  rw [h8]
  show Z E G (HM D V3 P2 PH2) s2 (k + 1 + 0 + 0) (n + 6 + 0 + 0) (1755, [some (.ref (D.1 52)), some (.ref (D.1 0)), some (.ref (D.1 37)), some (.ref (D.1 44)), some (.ref (D.1 45)), some (.int (nI (4 * nc))), some (.int (nI kc)), some (.int bb), none], [.int (nI kc)])
  refine Z_run C it_Lc31 1 (f2 := (1757, [some (.ref (D.1 52)), some (.ref (D.1 0)), some (.ref (D.1 37)), some (.ref (D.1 44)), some (.ref (D.1 45)), some (.int (nI (4 * nc))), some (.int (nI kc)), some (.int bb), none], [.int (nI kc), .int (nI kc)])) rfl ?_
  refine Z_br C it_Lc31 rfl rfl (fun hc1 => ?_) (fun hc1 => absurd rfl hc1)
  refine Z_run C it_Lc31 1 (f2 := (1764, [some (.ref (D.1 52)), some (.ref (D.1 0)), some (.ref (D.1 37)), some (.ref (D.1 44)), some (.ref (D.1 45)), some (.int (nI (4 * nc))), some (.int (nI kc)), some (.int bb), none], [.int (nI kc)])) rfl ?_
  refine Z_br C it_Lc31 rfl rfl (fun hc2 => ?_) (fun hc2 => ?_)
  · skip
    refine Z_run C it_Lc31 1 (f2 := (1928, [some (.ref (D.1 52)), some (.ref (D.1 0)), some (.ref (D.1 37)), some (.ref (D.1 44)), some (.ref (D.1 45)), some (.int (nI (4 * nc))), some (.int (nI kc)), some (.int bb), none], [])) rfl ?_
    exact kk _ _ _ _ _ _ _ _ _ hS (by omega) (by omega)
  · have hk0 : kc = 0 := (nI_e0 (by omega)).mp (Classical.not_not.mp hc2)
    refine Z_run C it_Lc31 2 (f2 := (1769, [some (.ref (D.1 52)), some (.ref (D.1 0)), some (.ref (D.1 37)), some (.ref (D.1 44)), some (.ref (D.1 45)), some (.int (nI (4 * nc))), some (.int (nI kc)), some (.int bb), none], [.int (nI 0), .ref (D.1 44)])) rfl ?_
    refine Zm_ald C it_Lc31 hD 44 11 rfl (by decide) rfl (by decide) (by decide) rfl (j := 0) (by decide) (v := .long bb.toInt64) (hv hk0) ?_
    refine Z_run C it_Lc31 3 (f2 := (1774, [some (.ref (D.1 52)), some (.ref (D.1 0)), some (.ref (D.1 37)), some (.ref (D.1 44)), some (.ref (D.1 45)), some (.int (nI (4 * nc))), some (.int (nI kc)), some (.int bb), none], [.int (lg_cmp (bb.toInt64) (bb.toInt64))])) rfl ?_
    refine Z_br C it_Lc31 rfl rfl (fun hc3 => ?_) (fun hc3 => absurd (lg_cmp_s _) hc3)
    refine Z_run C it_Lc31 1 (f2 := (1928, [some (.ref (D.1 52)), some (.ref (D.1 0)), some (.ref (D.1 37)), some (.ref (D.1 44)), some (.ref (D.1 45)), some (.int (nI (4 * nc))), some (.int (nI kc)), some (.int bb), none], [])) rfl ?_
    exact kk _ _ _ _ _ _ _ _ _ hS (by omega) (by omega)
def i_Lc32 : List zI := [(1782, .aload_n 1, 1, 0, 0), (1783, .aload_n 0, 1, 0, 0), (1784, .iload 5, 2, 0, 0), (1786, .iconst 1, 1, 1, 0), (1787, .iadd, 1, 0, 0), (1788, .iaload, 1, 0, 0), (1789, .aload_n 3, 1, 0, 0), (1790, .invokestatic 225, 3, 0, 0), (1793, .istore 6, 2, 0, 0), (1795, .aload_n 2, 1, 0, 0), (1796, .aload_n 0, 1, 0, 0), (1797, .iload 5, 2, 0, 0), (1799, .iconst 1, 1, 1, 0), (1800, .iadd, 1, 0, 0), (1801, .iaload, 1, 0, 0), (1802, .invokevirtual 227, 3, 0, 0), (1805, .istore 7, 2, 0, 0), (1807, .aload_n 2, 1, 0, 0), (1808, .invokevirtual 118, 3, 0, 0), (1811, .iload 6, 2, 0, 0), (1813, .if_icmp .eq 5, 3, 0, 1818), (1816, .iconst 0, 1, 0, 0), (1817, .ireturn, 1, 0, 0), (1818, .iload 6, 2, 0, 0), (1820, .ifCond .ne 15, 3, 0, 1835), (1823, .aload_n 3, 1, 0, 0), (1824, .iconst 0, 1, 0, 0), (1825, .laload, 1, 0, 0), (1826, .iload 7, 2, 0, 0), (1828, .i2l, 1, 0, 0), (1829, .lcmp, 1, 0, 0), (1830, .ifCond .eq 5, 3, 0, 1835), (1833, .iconst 0, 1, 0, 0), (1834, .ireturn, 1, 0, 0), (1835, .goto 93, 3, 0, 1928)]
set_option maxRecDepth 20000 in
theorem it_Lc32 : zT code i_Lc32 := zT_of (by decide +kernel)
set_option maxRecDepth 20000 in
theorem lc_32 {E : zE} {G : zG} {nm : String} (C : zCx E G code 9 R_Lw nm (some .boolean) room_1) {D : zD} (hD : zDok E D) {V : Nat → Nat → Int32} {P : Nat → Nat → Value} {PH : aH} {sz nc k n : Nat} (h : SIM D V P PH sz nc) (hnc : nc < 512) (hlen : 4 * nc + 4 ≤ D.2.2.1) (hL : D.2.2.1 ≤ 2048) (hk : k ≤ 400 + 13 * nc) (hn : n ≤ 9000 + 90 * nc)
    (kk : ∀ (V2 : Nat → Nat → Int32) (P2 : Nat → Nat → Value) (PH2 : aH) (s2 k2 n2 : Nat) (l6 l7 l8 : Option Value), SIM D V2 P2 PH2 s2 (nc + 1) → k2 ≤ k + 13 → n2 ≤ n + 90 → Z E G (HM D V2 P2 PH2) s2 k2 n2 (1928, [some (.ref (D.1 52)), some (.ref (D.1 0)), some (.ref (D.1 37)), some (.ref (D.1 44)), some (.ref (D.1 45)), some (.int (nI (4 * nc))), l6, l7, l8], [])) : Z E G (HM D V P PH) sz k n (1782, [some (.ref (D.1 52)), some (.ref (D.1 0)), some (.ref (D.1 37)), some (.ref (D.1 44)), some (.ref (D.1 45)), some (.int (nI (4 * nc))), none, none, none], []) := by
  refine Z_run C it_Lc32 5 (f2 := (1788, [some (.ref (D.1 52)), some (.ref (D.1 0)), some (.ref (D.1 37)), some (.ref (D.1 44)), some (.ref (D.1 45)), some (.int (nI (4 * nc))), none, none, none], [.int (nI (4 * nc) + nI 1), .ref (D.1 52), .ref (D.1 0)])) rfl ?_
  refine Zm_ald C it_Lc32 hD 52 15 rfl (by decide) rfl (by decide) (by show D.2.2.1 < 2 ^ 31; omega) (nI_plus _ _) (j := 4 * nc + 1) (by show 4 * nc + 1 < D.2.2.1; omega) (v := .int (D.2.2.2 (4 * nc + 1))) rfl ?_
  refine Z_run C it_Lc32 1 (f2 := (1790, [some (.ref (D.1 52)), some (.ref (D.1 0)), some (.ref (D.1 37)), some (.ref (D.1 44)), some (.ref (D.1 45)), some (.int (nI (4 * nc))), none, none, none], [.ref (D.1 44), .int (D.2.2.2 (4 * nc + 1)), .ref (D.1 0)])) rfl ?_
  refine Z_agS C it_Lc32 rfl p_Lw_captured ml_Lw_225 [.ref (D.1 0), .int (D.2.2.2 (4 * nc + 1)), .ref (D.1 44)] (ag_captured C.ev C.l hD h hnc (D.2.2.2 (4 * nc + 1))) rfl rfl ⟨by decide, by decide, by show _ + 1 ≤ 601024; omega, by show _ + 6 ≤ 7293034; omega⟩ (Nat.le_of_ble_eq_true rfl) rfl (fun kc V2 P2 PH2 s2 hkc hA => ?_)
  show Z E G (HM D V2 P2 PH2) s2 (k + 1) (n + 6) (1793, [some (.ref (D.1 52)), some (.ref (D.1 0)), some (.ref (D.1 37)), some (.ref (D.1 44)), some (.ref (D.1 45)), some (.int (nI (4 * nc))), none, none, none], [.int (nI kc)])
  refine Z_run C it_Lc32 6 (f2 := (1801, [some (.ref (D.1 52)), some (.ref (D.1 0)), some (.ref (D.1 37)), some (.ref (D.1 44)), some (.ref (D.1 45)), some (.int (nI (4 * nc))), some (.int (nI kc)), none, none], [.int (nI (4 * nc) + nI 1), .ref (D.1 52), .ref (D.1 37)])) rfl ?_
  refine Zm_ald C it_Lc32 hD 52 15 rfl (by decide) rfl (by decide) (by show D.2.2.1 < 2 ^ 31; omega) (nI_plus _ _) (j := 4 * nc + 1) (by show 4 * nc + 1 < D.2.2.1; omega) (v := .int (D.2.2.2 (4 * nc + 1))) rfl ?_
  refine Z_mdI C it_Lc32 hD rfl p_Mm_captured ml_Lw_227 rfl [.int (D.2.2.2 (4 * nc + 1))] hA rfl rfl ⟨by decide, by decide, by show _ + 0 ≤ 601024; omega, by show _ + 0 ≤ 7293034; omega⟩ (Nat.le_of_ble_eq_true rfl) rfl (fun V3 bb h8 hv hS => ?_)
  show Z E G (HM D V3 P2 PH2) s2 (k + 1 + 0) (n + 6 + 0) (1805, [some (.ref (D.1 52)), some (.ref (D.1 0)), some (.ref (D.1 37)), some (.ref (D.1 44)), some (.ref (D.1 45)), some (.int (nI (4 * nc))), some (.int (nI kc)), none, none], [.int bb])
  refine Z_run C it_Lc32 2 (f2 := (1808, [some (.ref (D.1 52)), some (.ref (D.1 0)), some (.ref (D.1 37)), some (.ref (D.1 44)), some (.ref (D.1 45)), some (.int (nI (4 * nc))), some (.int (nI kc)), some (.int bb), none], [.ref (D.1 37)])) rfl ?_
  refine Zr_callV C it_Lc32 hD rfl p_Mm_thrown ml_Lw_118 37 (by decide) rfl rfl [] (ct_Mm_thrown C.ev C.l hD _ _ _ _) rfl rfl ⟨by decide, by decide, by show _ + 0 ≤ 601024; omega, by show _ + 0 ≤ 7293034; omega⟩ (Nat.le_of_ble_eq_true rfl) rfl ?_
  rw [h8]
  show Z E G (HM D V3 P2 PH2) s2 (k + 1 + 0 + 0) (n + 6 + 0 + 0) (1811, [some (.ref (D.1 52)), some (.ref (D.1 0)), some (.ref (D.1 37)), some (.ref (D.1 44)), some (.ref (D.1 45)), some (.int (nI (4 * nc))), some (.int (nI kc)), some (.int bb), none], [.int (nI kc)])
  refine Z_run C it_Lc32 1 (f2 := (1813, [some (.ref (D.1 52)), some (.ref (D.1 0)), some (.ref (D.1 37)), some (.ref (D.1 44)), some (.ref (D.1 45)), some (.int (nI (4 * nc))), some (.int (nI kc)), some (.int bb), none], [.int (nI kc), .int (nI kc)])) rfl ?_
  refine Z_br C it_Lc32 rfl rfl (fun hc1 => ?_) (fun hc1 => absurd rfl hc1)
  refine Z_run C it_Lc32 1 (f2 := (1820, [some (.ref (D.1 52)), some (.ref (D.1 0)), some (.ref (D.1 37)), some (.ref (D.1 44)), some (.ref (D.1 45)), some (.int (nI (4 * nc))), some (.int (nI kc)), some (.int bb), none], [.int (nI kc)])) rfl ?_
  refine Z_br C it_Lc32 rfl rfl (fun hc2 => ?_) (fun hc2 => ?_)
  · skip
    refine Z_run C it_Lc32 1 (f2 := (1928, [some (.ref (D.1 52)), some (.ref (D.1 0)), some (.ref (D.1 37)), some (.ref (D.1 44)), some (.ref (D.1 45)), some (.int (nI (4 * nc))), some (.int (nI kc)), some (.int bb), none], [])) rfl ?_
    exact kk _ _ _ _ _ _ _ _ _ hS (by omega) (by omega)
  · have hk0 : kc = 0 := (nI_e0 (by omega)).mp (Classical.not_not.mp hc2)
    refine Z_run C it_Lc32 2 (f2 := (1825, [some (.ref (D.1 52)), some (.ref (D.1 0)), some (.ref (D.1 37)), some (.ref (D.1 44)), some (.ref (D.1 45)), some (.int (nI (4 * nc))), some (.int (nI kc)), some (.int bb), none], [.int (nI 0), .ref (D.1 44)])) rfl ?_
    refine Zm_ald C it_Lc32 hD 44 11 rfl (by decide) rfl (by decide) (by decide) rfl (j := 0) (by decide) (v := .long bb.toInt64) (hv hk0) ?_
    refine Z_run C it_Lc32 3 (f2 := (1830, [some (.ref (D.1 52)), some (.ref (D.1 0)), some (.ref (D.1 37)), some (.ref (D.1 44)), some (.ref (D.1 45)), some (.int (nI (4 * nc))), some (.int (nI kc)), some (.int bb), none], [.int (lg_cmp (bb.toInt64) (bb.toInt64))])) rfl ?_
    refine Z_br C it_Lc32 rfl rfl (fun hc3 => ?_) (fun hc3 => absurd (lg_cmp_s _) hc3)
    refine Z_run C it_Lc32 1 (f2 := (1928, [some (.ref (D.1 52)), some (.ref (D.1 0)), some (.ref (D.1 37)), some (.ref (D.1 44)), some (.ref (D.1 45)), some (.int (nI (4 * nc))), some (.int (nI kc)), some (.int bb), none], [])) rfl ?_
    exact kk _ _ _ _ _ _ _ _ _ hS (by omega) (by omega)
def i_Lc33 : List zI := [(1838, .aload_n 1, 1, 0, 0), (1839, .aload_n 0, 1, 0, 0), (1840, .iload 5, 2, 0, 0), (1842, .iconst 1, 1, 1, 0), (1843, .iadd, 1, 0, 0), (1844, .iaload, 1, 0, 0), (1845, .aload 4, 2, 0, 0), (1847, .invokestatic 228, 3, 0, 0), (1850, .istore 6, 2, 0, 0), (1852, .aload_n 2, 1, 0, 0), (1853, .aload_n 0, 1, 0, 0), (1854, .iload 5, 2, 0, 0), (1856, .iconst 1, 1, 1, 0), (1857, .iadd, 1, 0, 0), (1858, .iaload, 1, 0, 0), (1859, .invokevirtual 231, 3, 0, 0), (1862, .dstore 7, 2, 0, 0), (1864, .aload_n 2, 1, 0, 0), (1865, .invokevirtual 118, 3, 0, 0), (1868, .iload 6, 2, 0, 0), (1870, .if_icmp .eq 5, 3, 0, 1875), (1873, .iconst 0, 1, 0, 0), (1874, .ireturn, 1, 0, 0), (1875, .iload 6, 2, 0, 0), (1877, .ifCond .ne 35, 3, 0, 1912), (1880, .aload 4, 2, 0, 0), (1882, .iconst 0, 1, 0, 0), (1883, .daload, 1, 0, 0), (1884, .dload 7, 2, 0, 0), (1886, .dcmp .l, 1, 0, 0), (1887, .ifCond .eq 25, 3, 0, 1912), (1890, .aload 4, 2, 0, 0), (1892, .iconst 0, 1, 0, 0), (1893, .daload, 1, 0, 0), (1894, .aload 4, 2, 0, 0), (1896, .iconst 0, 1, 0, 0), (1897, .daload, 1, 0, 0), (1898, .dcmp .l, 1, 0, 0), (1899, .ifCond .eq 11, 3, 0, 1910), (1902, .dload 7, 2, 0, 0), (1904, .dload 7, 2, 0, 0), (1906, .dcmp .l, 1, 0, 0), (1907, .ifCond .ne 5, 3, 0, 1912), (1910, .iconst 0, 1, 0, 0), (1911, .ireturn, 1, 0, 0), (1912, .goto 16, 3, 0, 1928)]
set_option maxRecDepth 20000 in
theorem it_Lc33 : zT code i_Lc33 := zT_of (by decide +kernel)
set_option maxRecDepth 20000 in
theorem lc_33 {E : zE} {G : zG} {nm : String} (C : zCx E G code 9 R_Lw nm (some .boolean) room_1) {D : zD} (hD : zDok E D) {V : Nat → Nat → Int32} {P : Nat → Nat → Value} {PH : aH} {sz nc k n : Nat} (h : SIM D V P PH sz nc) (hnc : nc < 512) (hlen : 4 * nc + 4 ≤ D.2.2.1) (hL : D.2.2.1 ≤ 2048) (hk : k ≤ 400 + 13 * nc) (hn : n ≤ 9000 + 90 * nc)
    (kk : ∀ (V2 : Nat → Nat → Int32) (P2 : Nat → Nat → Value) (PH2 : aH) (s2 k2 n2 : Nat) (l6 l7 l8 : Option Value), SIM D V2 P2 PH2 s2 (nc + 1) → k2 ≤ k + 13 → n2 ≤ n + 90 → Z E G (HM D V2 P2 PH2) s2 k2 n2 (1928, [some (.ref (D.1 52)), some (.ref (D.1 0)), some (.ref (D.1 37)), some (.ref (D.1 44)), some (.ref (D.1 45)), some (.int (nI (4 * nc))), l6, l7, l8], [])) : Z E G (HM D V P PH) sz k n (1838, [some (.ref (D.1 52)), some (.ref (D.1 0)), some (.ref (D.1 37)), some (.ref (D.1 44)), some (.ref (D.1 45)), some (.int (nI (4 * nc))), none, none, none], []) := by
  refine Z_run C it_Lc33 5 (f2 := (1844, [some (.ref (D.1 52)), some (.ref (D.1 0)), some (.ref (D.1 37)), some (.ref (D.1 44)), some (.ref (D.1 45)), some (.int (nI (4 * nc))), none, none, none], [.int (nI (4 * nc) + nI 1), .ref (D.1 52), .ref (D.1 0)])) rfl ?_
  refine Zm_ald C it_Lc33 hD 52 15 rfl (by decide) rfl (by decide) (by show D.2.2.1 < 2 ^ 31; omega) (nI_plus _ _) (j := 4 * nc + 1) (by show 4 * nc + 1 < D.2.2.1; omega) (v := .int (D.2.2.2 (4 * nc + 1))) rfl ?_
  refine Z_run C it_Lc33 1 (f2 := (1847, [some (.ref (D.1 52)), some (.ref (D.1 0)), some (.ref (D.1 37)), some (.ref (D.1 44)), some (.ref (D.1 45)), some (.int (nI (4 * nc))), none, none, none], [.ref (D.1 45), .int (D.2.2.2 (4 * nc + 1)), .ref (D.1 0)])) rfl ?_
  refine Z_agS C it_Lc33 rfl p_Lw_worthShare ml_Lw_228 [.ref (D.1 0), .int (D.2.2.2 (4 * nc + 1)), .ref (D.1 45)] (ag_worthShare C.ev C.l hD h hnc (D.2.2.2 (4 * nc + 1))) rfl rfl ⟨by decide, by decide, by show _ + 1 ≤ 601024; omega, by show _ + 6 ≤ 7293034; omega⟩ (Nat.le_of_ble_eq_true rfl) rfl (fun kc V2 P2 PH2 s2 hkc hA => ?_)
  show Z E G (HM D V2 P2 PH2) s2 (k + 1) (n + 6) (1850, [some (.ref (D.1 52)), some (.ref (D.1 0)), some (.ref (D.1 37)), some (.ref (D.1 44)), some (.ref (D.1 45)), some (.int (nI (4 * nc))), none, none, none], [.int (nI kc)])
  refine Z_run C it_Lc33 6 (f2 := (1858, [some (.ref (D.1 52)), some (.ref (D.1 0)), some (.ref (D.1 37)), some (.ref (D.1 44)), some (.ref (D.1 45)), some (.int (nI (4 * nc))), some (.int (nI kc)), none, none], [.int (nI (4 * nc) + nI 1), .ref (D.1 52), .ref (D.1 37)])) rfl ?_
  refine Zm_ald C it_Lc33 hD 52 15 rfl (by decide) rfl (by decide) (by show D.2.2.1 < 2 ^ 31; omega) (nI_plus _ _) (j := 4 * nc + 1) (by show 4 * nc + 1 < D.2.2.1; omega) (v := .int (D.2.2.2 (4 * nc + 1))) rfl ?_
  refine Z_mdD C it_Lc33 hD rfl p_Mm_worthShare ml_Lw_231 rfl [.int (D.2.2.2 (4 * nc + 1))] hA rfl rfl ⟨by decide, by decide, by show _ + 0 ≤ 601024; omega, by show _ + 0 ≤ 7293034; omega⟩ (Nat.le_of_ble_eq_true rfl) rfl (fun V3 bb h8 hv hS => ?_)
  show Z E G (HM D V3 P2 PH2) s2 (k + 1 + 0) (n + 6 + 0) (1862, [some (.ref (D.1 52)), some (.ref (D.1 0)), some (.ref (D.1 37)), some (.ref (D.1 44)), some (.ref (D.1 45)), some (.int (nI (4 * nc))), some (.int (nI kc)), none, none], [.double bb])
  refine Z_run C it_Lc33 2 (f2 := (1865, [some (.ref (D.1 52)), some (.ref (D.1 0)), some (.ref (D.1 37)), some (.ref (D.1 44)), some (.ref (D.1 45)), some (.int (nI (4 * nc))), some (.int (nI kc)), some (.double bb), none], [.ref (D.1 37)])) rfl ?_
  refine Zr_callV C it_Lc33 hD rfl p_Mm_thrown ml_Lw_118 37 (by decide) rfl rfl [] (ct_Mm_thrown C.ev C.l hD _ _ _ _) rfl rfl ⟨by decide, by decide, by show _ + 0 ≤ 601024; omega, by show _ + 0 ≤ 7293034; omega⟩ (Nat.le_of_ble_eq_true rfl) rfl ?_
  rw [h8]
  show Z E G (HM D V3 P2 PH2) s2 (k + 1 + 0 + 0) (n + 6 + 0 + 0) (1868, [some (.ref (D.1 52)), some (.ref (D.1 0)), some (.ref (D.1 37)), some (.ref (D.1 44)), some (.ref (D.1 45)), some (.int (nI (4 * nc))), some (.int (nI kc)), some (.double bb), none], [.int (nI kc)])
  refine Z_run C it_Lc33 1 (f2 := (1870, [some (.ref (D.1 52)), some (.ref (D.1 0)), some (.ref (D.1 37)), some (.ref (D.1 44)), some (.ref (D.1 45)), some (.int (nI (4 * nc))), some (.int (nI kc)), some (.double bb), none], [.int (nI kc), .int (nI kc)])) rfl ?_
  refine Z_br C it_Lc33 rfl rfl (fun hc1 => ?_) (fun hc1 => absurd rfl hc1)
  refine Z_run C it_Lc33 1 (f2 := (1877, [some (.ref (D.1 52)), some (.ref (D.1 0)), some (.ref (D.1 37)), some (.ref (D.1 44)), some (.ref (D.1 45)), some (.int (nI (4 * nc))), some (.int (nI kc)), some (.double bb), none], [.int (nI kc)])) rfl ?_
  refine Z_br C it_Lc33 rfl rfl (fun hc2 => ?_) (fun hc2 => ?_)
  · skip
    refine Z_run C it_Lc33 1 (f2 := (1928, [some (.ref (D.1 52)), some (.ref (D.1 0)), some (.ref (D.1 37)), some (.ref (D.1 44)), some (.ref (D.1 45)), some (.int (nI (4 * nc))), some (.int (nI kc)), some (.double bb), none], [])) rfl ?_
    exact kk _ _ _ _ _ _ _ _ _ hS (by omega) (by omega)
  · have hk0 : kc = 0 := (nI_e0 (by omega)).mp (Classical.not_not.mp hc2)
    refine Z_run C it_Lc33 2 (f2 := (1883, [some (.ref (D.1 52)), some (.ref (D.1 0)), some (.ref (D.1 37)), some (.ref (D.1 44)), some (.ref (D.1 45)), some (.int (nI (4 * nc))), some (.int (nI kc)), some (.double bb), none], [.int (nI 0), .ref (D.1 45)])) rfl ?_
    refine Zm_ald C it_Lc33 hD 45 12 rfl (by decide) rfl (by decide) (by decide) rfl (j := 0) (by decide) (v := .double bb) (hv hk0) ?_
    refine Z_run C it_Lc33 2 (f2 := (1887, [some (.ref (D.1 52)), some (.ref (D.1 0)), some (.ref (D.1 37)), some (.ref (D.1 44)), some (.ref (D.1 45)), some (.int (nI (4 * nc))), some (.int (nI kc)), some (.double bb), none], [.int (Op.cmpValue (FP.dcmp bb bb) .l)])) rfl ?_
    refine Z_br C it_Lc33 rfl rfl (fun hc3 => ?_) (fun hc3 => ?_)
    · skip
      refine Z_run C it_Lc33 1 (f2 := (1928, [some (.ref (D.1 52)), some (.ref (D.1 0)), some (.ref (D.1 37)), some (.ref (D.1 44)), some (.ref (D.1 45)), some (.int (nI (4 * nc))), some (.int (nI kc)), some (.double bb), none], [])) rfl ?_
      exact kk _ _ _ _ _ _ _ _ _ hS (by omega) (by omega)
    · skip
      refine Z_run C it_Lc33 2 (f2 := (1893, [some (.ref (D.1 52)), some (.ref (D.1 0)), some (.ref (D.1 37)), some (.ref (D.1 44)), some (.ref (D.1 45)), some (.int (nI (4 * nc))), some (.int (nI kc)), some (.double bb), none], [.int (nI 0), .ref (D.1 45)])) rfl ?_
      refine Zm_ald C it_Lc33 hD 45 12 rfl (by decide) rfl (by decide) (by decide) rfl (j := 0) (by decide) (v := .double bb) (hv hk0) ?_
      refine Z_run C it_Lc33 2 (f2 := (1897, [some (.ref (D.1 52)), some (.ref (D.1 0)), some (.ref (D.1 37)), some (.ref (D.1 44)), some (.ref (D.1 45)), some (.int (nI (4 * nc))), some (.int (nI kc)), some (.double bb), none], [.int (nI 0), .ref (D.1 45), .double bb])) rfl ?_
      refine Zm_ald C it_Lc33 hD 45 12 rfl (by decide) rfl (by decide) (by decide) rfl (j := 0) (by decide) (v := .double bb) (hv hk0) ?_
      refine Z_run C it_Lc33 1 (f2 := (1899, [some (.ref (D.1 52)), some (.ref (D.1 0)), some (.ref (D.1 37)), some (.ref (D.1 44)), some (.ref (D.1 45)), some (.int (nI (4 * nc))), some (.int (nI kc)), some (.double bb), none], [.int (Op.cmpValue (FP.dcmp bb bb) .l)])) rfl ?_
      refine Z_br C it_Lc33 rfl rfl (fun hc4 => absurd hc4 hc3) (fun hc4 => ?_)
      refine Z_run C it_Lc33 3 (f2 := (1907, [some (.ref (D.1 52)), some (.ref (D.1 0)), some (.ref (D.1 37)), some (.ref (D.1 44)), some (.ref (D.1 45)), some (.int (nI (4 * nc))), some (.int (nI kc)), some (.double bb), none], [.int (Op.cmpValue (FP.dcmp bb bb) .l)])) rfl ?_
      refine Z_br C it_Lc33 rfl rfl (fun hc5 => ?_) (fun hc5 => absurd (Classical.not_not.mp hc5) hc3)
      refine Z_run C it_Lc33 1 (f2 := (1928, [some (.ref (D.1 52)), some (.ref (D.1 0)), some (.ref (D.1 37)), some (.ref (D.1 44)), some (.ref (D.1 45)), some (.int (nI (4 * nc))), some (.int (nI kc)), some (.double bb), none], [])) rfl ?_
      exact kk _ _ _ _ _ _ _ _ _ hS (by omega) (by omega)
def i_Lc34 : List zI := [(1915, .aload_n 1, 1, 0, 0), (1916, .invokevirtual 232, 3, 0, 0), (1919, .aload_n 2, 1, 0, 0), (1920, .invokevirtual 235, 3, 0, 0), (1923, .if_icmp .eq 5, 3, 0, 1928), (1926, .iconst 0, 1, 0, 0), (1927, .ireturn, 1, 0, 0)]
set_option maxRecDepth 20000 in
theorem it_Lc34 : zT code i_Lc34 := zT_of (by decide +kernel)
set_option maxRecDepth 20000 in
theorem lc_34 {E : zE} {G : zG} {nm : String} (C : zCx E G code 9 R_Lw nm (some .boolean) room_1) {D : zD} (hD : zDok E D) {V : Nat → Nat → Int32} {P : Nat → Nat → Value} {PH : aH} {sz nc k n : Nat} (h : SIM D V P PH sz nc) (hnc : nc < 512) (hlen : 4 * nc + 4 ≤ D.2.2.1) (hL : D.2.2.1 ≤ 2048) (hk : k ≤ 400 + 13 * nc) (hn : n ≤ 9000 + 90 * nc)
    (kk : ∀ (V2 : Nat → Nat → Int32) (P2 : Nat → Nat → Value) (PH2 : aH) (s2 k2 n2 : Nat) (l6 l7 l8 : Option Value), SIM D V2 P2 PH2 s2 (nc + 1) → k2 ≤ k + 13 → n2 ≤ n + 90 → Z E G (HM D V2 P2 PH2) s2 k2 n2 (1928, [some (.ref (D.1 52)), some (.ref (D.1 0)), some (.ref (D.1 37)), some (.ref (D.1 44)), some (.ref (D.1 45)), some (.int (nI (4 * nc))), l6, l7, l8], [])) : Z E G (HM D V P PH) sz k n (1915, [some (.ref (D.1 52)), some (.ref (D.1 0)), some (.ref (D.1 37)), some (.ref (D.1 44)), some (.ref (D.1 45)), some (.int (nI (4 * nc))), none, none, none], []) := by
  have h0 := h
  obtain ⟨hP, hS, L, md, H, gs, T, n9, hch, ⟨Bd, mv, tn, bs, ov, st, ch, hR⟩, hmd, hH, hn9, hHm, hT, hU, h33, h37, h60⟩ := h
  have hR0 := hR
  obtain ⟨⟨hF, hz, h1, h8⟩, ⟨htn, htc, htm⟩, ⟨hmc, hmm⟩, ⟨hoc, hom⟩, ⟨hcc, hcm, hc2, hcn⟩, ⟨hst, hbs⟩, hg, hb, hms, hak⟩ := hR
  replace hF : okF (bF V 2) := hF
  replace hz : ∀ k, k < 36 → V 38 k = nI (mo (bF V 2 k)) := hz
  refine Z_run C it_Lc34 1 (f2 := (1916, [some (.ref (D.1 52)), some (.ref (D.1 0)), some (.ref (D.1 37)), some (.ref (D.1 44)), some (.ref (D.1 45)), some (.int (nI (4 * nc))), none, none, none], [.ref (D.1 0)])) rfl ?_
  refine Zr_callV C it_Lc34 hD rfl p_Xx_historySize ml_Lw_232 0 (by decide) rfl rfl [] (ct_Xx_historySize C.ev C.l hD V P PH  sz) rfl rfl ⟨by decide, by decide, by show _ + 0 ≤ 601024; omega, by show _ + 0 ≤ 7293034; omega⟩ (Nat.le_of_ble_eq_true rfl) rfl ?_
  show Z E G (HM D (V) P PH) sz (k + 0) (n + 0) (1919, [some (.ref (D.1 52)), some (.ref (D.1 0)), some (.ref (D.1 37)), some (.ref (D.1 44)), some (.ref (D.1 45)), some (.int (nI (4 * nc))), none, none, none], [.int (V 6 1)])
  refine Z_run C it_Lc34 1 (f2 := (1920, [some (.ref (D.1 52)), some (.ref (D.1 0)), some (.ref (D.1 37)), some (.ref (D.1 44)), some (.ref (D.1 45)), some (.int (nI (4 * nc))), none, none, none], [.ref (D.1 37), .int (V 6 1)])) rfl ?_
  refine Zr_callV C it_Lc34 hD rfl p_Mm_historySize ml_Lw_235 37 (by decide) rfl rfl [] (ct_Mm_historySize C.ev C.l hD V P PH  sz) rfl rfl ⟨by decide, by decide, by show _ + 0 ≤ 601024; omega, by show _ + 0 ≤ 7293034; omega⟩ (Nat.le_of_ble_eq_true rfl) rfl ?_
  show Z E G _ sz (k + 0 + 0) (n + 0 + 0) (1923, [some (.ref (D.1 52)), some (.ref (D.1 0)), some (.ref (D.1 37)), some (.ref (D.1 44)), some (.ref (D.1 45)), some (.int (nI (4 * nc))), none, none, none], [.int (V 37 2), .int (V 6 1)])
  refine Z_br C it_Lc34 rfl rfl (fun hc1 => ?_) (fun hc1 => absurd (hH.2.2.2.1.trans hn9.symm) hc1)
  exact kk _ _ _ _ _ _ _ _ _ (SIM_q0 h0) (by omega) (by omega)
