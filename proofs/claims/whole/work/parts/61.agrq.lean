/-! ===== what the calls owe: the queries ===== -/
theorem pn_lt (x : Int32) : pn x < 4294967296 := x.toBitVec.isLt
theorem ag_pieces {E : zE} (hE : zEv E) {l : Launch} (hl : l.stackTraces = false) {D : zD} (hD : zDok E D) {V : Nat → Nat → Int32} {P : Nat → Nat → Value} {PH : aH} {sz nc : Nat} (h : SIM D V P PH sz nc) (hnc : nc < 512) (xa : Int32) : agr E l D y_Lw_pieces c_Lw_pieces 4 hh_Lw_pieces rm_Lw_pieces [.ref (D.1 0), .int xa, .ref (D.1 44)] V P PH sz (fun kc V2 P2 PH2 s2 => mdI E l D y_Mm_pieces c_Mm_pieces 2 rm_Mm_pieces [.int xa] kc V2 P2 PH2 s2 (fun V3 P3 PH3 s3 => SIM D V3 P3 PH3 s3 (nc + 1))) := by
  have h0 := h
  obtain ⟨hP, hS, L, md, H, gs, T, n9, hch, ⟨Bd, mv, tn, bs, ov, st, ch, hR⟩, hmd, hH, hn9, hHm, hT, hU, h33, h37, h60⟩ := h
  have hR0 := hR
  obtain ⟨⟨hF, hz, h1, h8⟩, ⟨htn, htc, htm⟩, ⟨hmc, hmm⟩, ⟨hoc, hom⟩, ⟨hcc, hcm, hc2, hcn⟩, ⟨hst, hbs⟩, hg, hb, hms, hak⟩ := hR
  replace hF : okF (bF V 2) := hF
  replace hz : ∀ k, k < 36 → V 38 k = nI (mo (bF V 2 k)) := hz
  replace h1 : one_ (bF V 2) := h1
  obtain ⟨a, ha32, rfl⟩ : ∃ a : Nat, a < 4294967296 ∧ xa = nI a := ⟨pn xa, pn_lt _, (nI_pn _).symm⟩
  by_cases ha : a < 2
  · refine agr_ret hD (.inl rfl) (by decide) (wr_Lw_pieces hE hl hD V P PH (nI a) sz (fun l hl => ct_Xx_pieces hE hl hD V P PH hF a ha sz) okI_ret okX_ret) ?_
    exact mdI_ret (ct_Mm_pieces hE hl hD V _ PH (bF V 2) hF hz a ha sz) vrd_s (fun _ => by rw [pset_s]; exact congrArg (fun z : Int32 => Value.long z.toInt64) (congrArg nI (popc_sqs _ _))) (SIM_q (.inl rfl) h0)
  · exact agr_thr hD (.inl rfl) (by decide) (wr_Lw_pieces hE hl hD V P PH (nI a) sz (fun l hl => ct_Xx_pieces_x1 hE hl hD V P PH a ha32 (by omega) sz) okI_thr (okX_thr (by simp))) (fun _ => ix_1) (mdI_ret (ct_Mm_pieces_x1 hE hl hD V P PH a ha32 (by omega) sz) vrd_s (fun q => absurd q (by decide)) (SIM_q0 h0))
theorem ag_moveCount {E : zE} (hE : zEv E) {l : Launch} (hl : l.stackTraces = false) {D : zD} (hD : zDok E D) {V : Nat → Nat → Int32} {P : Nat → Nat → Value} {PH : aH} {sz nc : Nat} (h : SIM D V P PH sz nc) (hnc : nc < 512) (xa : Int32) : agr E l D y_Lw_moveCount c_Lw_moveCount 4 hh_Lw_moveCount rm_Lw_moveCount [.ref (D.1 0), .int xa, .ref (D.1 44)] V P PH sz (fun kc V2 P2 PH2 s2 => mdI E l D y_Mm_moveCount c_Mm_moveCount 2 rm_Mm_moveCount [.int xa] kc V2 P2 PH2 s2 (fun V3 P3 PH3 s3 => SIM D V3 P3 PH3 s3 (nc + 1))) := by
  have h0 := h
  obtain ⟨hP, hS, L, md, H, gs, T, n9, hch, ⟨Bd, mv, tn, bs, ov, st, ch, hR⟩, hmd, hH, hn9, hHm, hT, hU, h33, h37, h60⟩ := h
  have hR0 := hR
  obtain ⟨⟨hF, hz, h1, h8⟩, ⟨htn, htc, htm⟩, ⟨hmc, hmm⟩, ⟨hoc, hom⟩, ⟨hcc, hcm, hc2, hcn⟩, ⟨hst, hbs⟩, hg, hb, hms, hak⟩ := hR
  replace hF : okF (bF V 2) := hF
  replace hz : ∀ k, k < 36 → V 38 k = nI (mo (bF V 2 k)) := hz
  replace h1 : one_ (bF V 2) := h1
  obtain ⟨a, ha32, rfl⟩ : ∃ a : Nat, a < 4294967296 ∧ xa = nI a := ⟨pn xa, pn_lt _, (nI_pn _).symm⟩
  by_cases ha : a < 2
  · refine agr_ret hD (.inl rfl) (by decide) (wr_Lw_moveCount hE hl hD V P PH (nI a) sz (fun l hl => ct_Xx_moveCount hE hl hD V P PH hF a ha sz) okI_ret okX_ret) ?_
    exact mdI_ret (ct_Mm_moveCount hE hl hD V _ PH (bF V 2) hF hz a ha sz) vrd_s (fun _ => by rw [pset_s]; exact congrArg (fun z : Int32 => Value.long z.toInt64) (congrArg nI (mvs_mvo hF _).symm)) (SIM_q (.inl rfl) h0)
  · exact agr_thr hD (.inl rfl) (by decide) (wr_Lw_moveCount hE hl hD V P PH (nI a) sz (fun l hl => ct_Xx_moveCount_x1 hE hl hD V P PH a ha32 (by omega) sz) okI_thr (okX_thr (by simp))) (fun _ => ix_1) (mdI_ret (ct_Mm_moveCount_x1 hE hl hD V P PH a ha32 (by omega) sz) vrd_s (fun q => absurd q (by decide)) (SIM_q0 h0))
theorem ag_worth {E : zE} (hE : zEv E) {l : Launch} (hl : l.stackTraces = false) {D : zD} (hD : zDok E D) {V : Nat → Nat → Int32} {P : Nat → Nat → Value} {PH : aH} {sz nc : Nat} (h : SIM D V P PH sz nc) (hnc : nc < 512) (xa : Int32) : agr E l D y_Lw_worth c_Lw_worth 4 hh_Lw_worth rm_Lw_worth [.ref (D.1 0), .int xa, .ref (D.1 44)] V P PH sz (fun kc V2 P2 PH2 s2 => mdI E l D y_Mm_worth c_Mm_worth 2 rm_Mm_worth [.int xa] kc V2 P2 PH2 s2 (fun V3 P3 PH3 s3 => SIM D V3 P3 PH3 s3 (nc + 1))) := by
  have h0 := h
  obtain ⟨hP, hS, L, md, H, gs, T, n9, hch, ⟨Bd, mv, tn, bs, ov, st, ch, hR⟩, hmd, hH, hn9, hHm, hT, hU, h33, h37, h60⟩ := h
  have hR0 := hR
  obtain ⟨⟨hF, hz, h1, h8⟩, ⟨htn, htc, htm⟩, ⟨hmc, hmm⟩, ⟨hoc, hom⟩, ⟨hcc, hcm, hc2, hcn⟩, ⟨hst, hbs⟩, hg, hb, hms, hak⟩ := hR
  replace hF : okF (bF V 2) := hF
  replace hz : ∀ k, k < 36 → V 38 k = nI (mo (bF V 2 k)) := hz
  replace h1 : one_ (bF V 2) := h1
  obtain ⟨a, ha32, rfl⟩ : ∃ a : Nat, a < 4294967296 ∧ xa = nI a := ⟨pn xa, pn_lt _, (nI_pn _).symm⟩
  by_cases ha : a < 2
  · refine agr_ret hD (.inl rfl) (by decide) (wr_Lw_worth hE hl hD V P PH (nI a) sz (fun l hl => ct_Xx_worth hE hl hD V P PH hF a ha sz) okI_ret okX_ret) ?_
    exact mdI_ret (ct_Mm_worth hE hl hD V _ PH (bF V 2) hF hz a ha sz) vrd_s (fun _ => by rw [pset_s]; exact congrArg (fun z : Int32 => Value.long z.toInt64) (rfl)) (SIM_q (.inl rfl) h0)
  · exact agr_thr hD (.inl rfl) (by decide) (wr_Lw_worth hE hl hD V P PH (nI a) sz (fun l hl => ct_Xx_worth_x1 hE hl hD V P PH a ha32 (by omega) sz) okI_thr (okX_thr (by simp))) (fun _ => ix_1) (mdI_ret (ct_Mm_worth_x1 hE hl hD V P PH a ha32 (by omega) sz) vrd_s (fun q => absurd q (by decide)) (SIM_q0 h0))
theorem ag_worthShare {E : zE} (hE : zEv E) {l : Launch} (hl : l.stackTraces = false) {D : zD} (hD : zDok E D) {V : Nat → Nat → Int32} {P : Nat → Nat → Value} {PH : aH} {sz nc : Nat} (h : SIM D V P PH sz nc) (hnc : nc < 512) (xa : Int32) : agr E l D y_Lw_worthShare c_Lw_worthShare 4 hh_Lw_worthShare rm_Lw_worthShare [.ref (D.1 0), .int xa, .ref (D.1 45)] V P PH sz (fun kc V2 P2 PH2 s2 => mdD E l D y_Mm_worthShare c_Mm_worthShare 3 rm_Mm_worthShare [.int xa] kc V2 P2 PH2 s2 (fun V3 P3 PH3 s3 => SIM D V3 P3 PH3 s3 (nc + 1))) := by
  have h0 := h
  obtain ⟨hP, hS, L, md, H, gs, T, n9, hch, ⟨Bd, mv, tn, bs, ov, st, ch, hR⟩, hmd, hH, hn9, hHm, hT, hU, h33, h37, h60⟩ := h
  have hR0 := hR
  obtain ⟨⟨hF, hz, h1, h8⟩, ⟨htn, htc, htm⟩, ⟨hmc, hmm⟩, ⟨hoc, hom⟩, ⟨hcc, hcm, hc2, hcn⟩, ⟨hst, hbs⟩, hg, hb, hms, hak⟩ := hR
  replace hF : okF (bF V 2) := hF
  replace hz : ∀ k, k < 36 → V 38 k = nI (mo (bF V 2 k)) := hz
  replace h1 : one_ (bF V 2) := h1
  obtain ⟨a, ha32, rfl⟩ : ∃ a : Nat, a < 4294967296 ∧ xa = nI a := ⟨pn xa, pn_lt _, (nI_pn _).symm⟩
  by_cases ha : a < 2
  · refine agr_ret hD (.inr rfl) (by decide) (wr_Lw_worthShare hE hl hD V P PH (nI a) sz (fun l hl => ct_Xx_worthShare hE hl hD V P PH hF a ha sz) okD_ret okX_ret) ?_
    exact mdD_ret (ct_Mm_worthShare hE hl hD V _ PH (bF V 2) hF hz a ha sz) vrd_s (fun _ => by rw [pset_s]; exact congrArg Value.double (rfl)) (SIM_q (.inr rfl) h0)
  · exact agr_thr hD (.inr rfl) (by decide) (wr_Lw_worthShare hE hl hD V P PH (nI a) sz (fun l hl => ct_Xx_worthShare_x1 hE hl hD V P PH a ha32 (by omega) sz) okD_thr (okX_thr (by simp))) (fun _ => ix_1) (mdD_ret (ct_Mm_worthShare_x1 hE hl hD V P PH a ha32 (by omega) sz) vrd_s (fun q => absurd q (by decide)) (SIM_q0 h0))
theorem ag_worthByAccount {E : zE} (hE : zEv E) {l : Launch} (hl : l.stackTraces = false) {D : zD} (hD : zDok E D) {V : Nat → Nat → Int32} {P : Nat → Nat → Value} {PH : aH} {sz nc : Nat} (h : SIM D V P PH sz nc) (hnc : nc < 512) (xa : Int32) : agr E l D y_Lw_worthByAccount c_Lw_worthByAccount 4 hh_Lw_worthByAccount rm_Lw_worthByAccount [.ref (D.1 0), .int xa, .ref (D.1 44)] V P PH sz (fun kc V2 P2 PH2 s2 => mdI E l D y_Mm_worthByAccount c_Mm_worthByAccount 2 rm_Mm_worthByAccount [.int xa] kc V2 P2 PH2 s2 (fun V3 P3 PH3 s3 => SIM D V3 P3 PH3 s3 (nc + 1))) := by
  have h0 := h
  obtain ⟨hP, hS, L, md, H, gs, T, n9, hch, ⟨Bd, mv, tn, bs, ov, st, ch, hR⟩, hmd, hH, hn9, hHm, hT, hU, h33, h37, h60⟩ := h
  have hR0 := hR
  obtain ⟨⟨hF, hz, h1, h8⟩, ⟨htn, htc, htm⟩, ⟨hmc, hmm⟩, ⟨hoc, hom⟩, ⟨hcc, hcm, hc2, hcn⟩, ⟨hst, hbs⟩, hg, hb, hms, hak⟩ := hR
  replace hF : okF (bF V 2) := hF
  replace hz : ∀ k, k < 36 → V 38 k = nI (mo (bF V 2 k)) := hz
  replace h1 : one_ (bF V 2) := h1
  obtain ⟨a, ha32, rfl⟩ : ∃ a : Nat, a < 4294967296 ∧ xa = nI a := ⟨pn xa, pn_lt _, (nI_pn _).symm⟩
  by_cases ha : a < 2
  · refine agr_ret hD (.inl rfl) (by decide) (wr_Lw_worthByAccount hE hl hD V P PH (nI a) sz (fun l hl => ct_Xx_worthByAccount hE hl hD V P PH  a ha sz) okI_ret okX_ret) ?_
    exact mdI_ret (ct_Mm_worthByAccount hE hl hD V _ PH (bF V 2) hF hz a ha sz) vrd_s (fun _ => by rw [pset_s]; exact congrArg (fun z : Int32 => Value.long z.toInt64) ((hak a ha).1)) (SIM_q (.inl rfl) h0)
  · exact agr_thr hD (.inl rfl) (by decide) (wr_Lw_worthByAccount hE hl hD V P PH (nI a) sz (fun l hl => ct_Xx_worthByAccount_x1 hE hl hD V P PH a ha32 (by omega) sz) okI_thr (okX_thr (by simp))) (fun _ => ix_1) (mdI_ret (ct_Mm_worthByAccount_x1 hE hl hD V P PH a ha32 (by omega) sz) vrd_s (fun q => absurd q (by decide)) (SIM_q0 h0))
theorem ag_captured {E : zE} (hE : zEv E) {l : Launch} (hl : l.stackTraces = false) {D : zD} (hD : zDok E D) {V : Nat → Nat → Int32} {P : Nat → Nat → Value} {PH : aH} {sz nc : Nat} (h : SIM D V P PH sz nc) (hnc : nc < 512) (xa : Int32) : agr E l D y_Lw_captured c_Lw_captured 4 hh_Lw_captured rm_Lw_captured [.ref (D.1 0), .int xa, .ref (D.1 44)] V P PH sz (fun kc V2 P2 PH2 s2 => mdI E l D y_Mm_captured c_Mm_captured 2 rm_Mm_captured [.int xa] kc V2 P2 PH2 s2 (fun V3 P3 PH3 s3 => SIM D V3 P3 PH3 s3 (nc + 1))) := by
  have h0 := h
  obtain ⟨hP, hS, L, md, H, gs, T, n9, hch, ⟨Bd, mv, tn, bs, ov, st, ch, hR⟩, hmd, hH, hn9, hHm, hT, hU, h33, h37, h60⟩ := h
  have hR0 := hR
  obtain ⟨⟨hF, hz, h1, h8⟩, ⟨htn, htc, htm⟩, ⟨hmc, hmm⟩, ⟨hoc, hom⟩, ⟨hcc, hcm, hc2, hcn⟩, ⟨hst, hbs⟩, hg, hb, hms, hak⟩ := hR
  replace hF : okF (bF V 2) := hF
  replace hz : ∀ k, k < 36 → V 38 k = nI (mo (bF V 2 k)) := hz
  replace h1 : one_ (bF V 2) := h1
  obtain ⟨a, ha32, rfl⟩ : ∃ a : Nat, a < 4294967296 ∧ xa = nI a := ⟨pn xa, pn_lt _, (nI_pn _).symm⟩
  by_cases ha : a < 2
  · refine agr_ret hD (.inl rfl) (by decide) (wr_Lw_captured hE hl hD V P PH (nI a) sz (fun l hl => ct_Xx_captured hE hl hD V P PH  a ha sz) okI_ret okX_ret) ?_
    exact mdI_ret (ct_Mm_captured hE hl hD V _ PH (bF V 2) hF hz a ha sz) vrd_s (fun _ => by rw [pset_s]; exact congrArg (fun z : Int32 => Value.long z.toInt64) ((hak a ha).2)) (SIM_q (.inl rfl) h0)
  · exact agr_thr hD (.inl rfl) (by decide) (wr_Lw_captured hE hl hD V P PH (nI a) sz (fun l hl => ct_Xx_captured_x1 hE hl hD V P PH a ha32 (by omega) sz) okI_thr (okX_thr (by simp))) (fun _ => ix_1) (mdI_ret (ct_Mm_captured_x1 hE hl hD V P PH a ha32 (by omega) sz) vrd_s (fun q => absurd q (by decide)) (SIM_q0 h0))
theorem ag_guarded {E : zE} (hE : zEv E) {l : Launch} (hl : l.stackTraces = false) {D : zD} (hD : zDok E D) {V : Nat → Nat → Int32} {P : Nat → Nat → Value} {PH : aH} {sz nc : Nat} (h : SIM D V P PH sz nc) (hnc : nc < 512) (xa : Int32) : agr E l D y_Lw_guarded c_Lw_guarded 4 hh_Lw_guarded rm_Lw_guarded [.ref (D.1 0), .int xa, .ref (D.1 44)] V P PH sz (fun kc V2 P2 PH2 s2 => mdL E l D y_Mm_guarded c_Mm_guarded 5 rm_Mm_guarded [.int xa] kc V2 P2 PH2 s2 (fun V3 P3 PH3 s3 => SIM D V3 P3 PH3 s3 (nc + 1))) := by
  have h0 := h
  obtain ⟨hP, hS, L, md, H, gs, T, n9, hch, ⟨Bd, mv, tn, bs, ov, st, ch, hR⟩, hmd, hH, hn9, hHm, hT, hU, h33, h37, h60⟩ := h
  have hR0 := hR
  obtain ⟨⟨hF, hz, h1, h8⟩, ⟨htn, htc, htm⟩, ⟨hmc, hmm⟩, ⟨hoc, hom⟩, ⟨hcc, hcm, hc2, hcn⟩, ⟨hst, hbs⟩, hg, hb, hms, hak⟩ := hR
  replace hF : okF (bF V 2) := hF
  replace hz : ∀ k, k < 36 → V 38 k = nI (mo (bF V 2 k)) := hz
  replace h1 : one_ (bF V 2) := h1
  obtain ⟨a, ha32, rfl⟩ : ∃ a : Nat, a < 4294967296 ∧ xa = nI a := ⟨pn xa, pn_lt _, (nI_pn _).symm⟩
  by_cases ha : a < 2
  · refine agr_ret hD (.inl rfl) (by decide) (wr_Lw_guarded hE hl hD V P PH (nI a) sz (fun l hl => ct_Xx_guarded hE hl hD V P PH hF a ha sz) okL_ret okX_ret) ?_
    exact mdL_ret (ct_Mm_guarded hE hl hD V _ PH (bF V 2) hF hz a ha sz) vrd_s (fun _ => by rw [pset_s]; exact congrArg Value.long (congrArg lN (gby_bm hF a).symm)) (SIM_q (.inl rfl) h0)
  · exact agr_thr hD (.inl rfl) (by decide) (wr_Lw_guarded hE hl hD V P PH (nI a) sz (fun l hl => ct_Xx_guarded_x1 hE hl hD V P PH a ha32 (by omega) sz) okL_thr (okX_thr (by simp))) (fun _ => ix_1) (mdL_ret (ct_Mm_guarded_x1 hE hl hD V P PH a ha32 (by omega) sz) vrd_s (fun q => absurd q (by decide)) (SIM_q0 h0))
theorem ag_guards {E : zE} (hE : zEv E) {l : Launch} (hl : l.stackTraces = false) {D : zD} (hD : zDok E D) {V : Nat → Nat → Int32} {P : Nat → Nat → Value} {PH : aH} {sz nc : Nat} (h : SIM D V P PH sz nc) (hnc : nc < 512) (xa xb : Int32) : agr E l D y_Lw_guards c_Lw_guards 5 hh_Lw_guards rm_Lw_guards [.ref (D.1 0), .int xa, .int xb, .ref (D.1 44)] V P PH sz (fun kc V2 P2 PH2 s2 => mdI E l D y_Mm_guards c_Mm_guards 3 rm_Mm_guards [.int xa, .int xb] kc V2 P2 PH2 s2 (fun V3 P3 PH3 s3 => SIM D V3 P3 PH3 s3 (nc + 1))) := by
  have h0 := h
  obtain ⟨hP, hS, L, md, H, gs, T, n9, hch, ⟨Bd, mv, tn, bs, ov, st, ch, hR⟩, hmd, hH, hn9, hHm, hT, hU, h33, h37, h60⟩ := h
  have hR0 := hR
  obtain ⟨⟨hF, hz, h1, h8⟩, ⟨htn, htc, htm⟩, ⟨hmc, hmm⟩, ⟨hoc, hom⟩, ⟨hcc, hcm, hc2, hcn⟩, ⟨hst, hbs⟩, hg, hb, hms, hak⟩ := hR
  replace hF : okF (bF V 2) := hF
  replace hz : ∀ k, k < 36 → V 38 k = nI (mo (bF V 2 k)) := hz
  replace h1 : one_ (bF V 2) := h1
  obtain ⟨a, ha32, rfl⟩ : ∃ a : Nat, a < 4294967296 ∧ xa = nI a := ⟨pn xa, pn_lt _, (nI_pn _).symm⟩
  obtain ⟨b, hb32, rfl⟩ : ∃ b : Nat, b < 4294967296 ∧ xb = nI b := ⟨pn xb, pn_lt _, (nI_pn _).symm⟩
  by_cases ha : a < 2
  · by_cases hb2 : b < 36
    · refine agr_ret hD (.inl rfl) (by decide) (wr_Lw_guards hE hl hD V P PH (nI a) (nI b) sz (fun l hl => ct_Xx_guards hE hl hD V P PH hF a ha b hb2 sz) okI_ret okX_ret) ?_
      exact mdI_ret (ct_Mm_guards hE hl hD V _ PH (bF V 2) hF hz a ha b hb2 sz) vrd_s (fun _ => by rw [pset_s]; exact congrArg (fun z : Int32 => Value.long z.toInt64) (congrArg nI (cga_cnt hF a hb2))) (SIM_q (.inl rfl) h0)
    · exact agr_thr hD (.inl rfl) (by decide) (wr_Lw_guards hE hl hD V P PH (nI a) (nI b) sz (fun l hl => ct_Xx_guards_x2 hE hl hD V P PH a ha b hb32 (by omega) sz) okI_thr (okX_thr (by simp))) (fun _ => ix_1) (mdI_ret (ct_Mm_guards_x2 hE hl hD V P PH a ha b hb32 (by omega) sz) vrd_s (fun q => absurd q (by decide)) (SIM_q0 h0))
  · exact agr_thr hD (.inl rfl) (by decide) (wr_Lw_guards hE hl hD V P PH (nI a) (nI b) sz (fun l hl => ct_Xx_guards_x1 hE hl hD V P PH a ha32 (by omega) _ sz) okI_thr (okX_thr (by simp))) (fun _ => ix_1) (mdI_ret (ct_Mm_guards_x1 hE hl hD V P PH a ha32 (by omega) _ sz) vrd_s (fun q => absurd q (by decide)) (SIM_q0 h0))
theorem ag_guardsByLooking {E : zE} (hE : zEv E) {l : Launch} (hl : l.stackTraces = false) {D : zD} (hD : zDok E D) {V : Nat → Nat → Int32} {P : Nat → Nat → Value} {PH : aH} {sz nc : Nat} (h : SIM D V P PH sz nc) (hnc : nc < 512) (xa xb : Int32) : agr E l D y_Lw_guardsByLooking c_Lw_guardsByLooking 5 hh_Lw_guardsByLooking rm_Lw_guardsByLooking [.ref (D.1 0), .int xa, .int xb, .ref (D.1 44)] V P PH sz (fun kc V2 P2 PH2 s2 => mdI E l D y_Mm_guardsByLooking c_Mm_guardsByLooking 3 rm_Mm_guardsByLooking [.int xa, .int xb] kc V2 P2 PH2 s2 (fun V3 P3 PH3 s3 => SIM D V3 P3 PH3 s3 (nc + 1))) := by
  have h0 := h
  obtain ⟨hP, hS, L, md, H, gs, T, n9, hch, ⟨Bd, mv, tn, bs, ov, st, ch, hR⟩, hmd, hH, hn9, hHm, hT, hU, h33, h37, h60⟩ := h
  have hR0 := hR
  obtain ⟨⟨hF, hz, h1, h8⟩, ⟨htn, htc, htm⟩, ⟨hmc, hmm⟩, ⟨hoc, hom⟩, ⟨hcc, hcm, hc2, hcn⟩, ⟨hst, hbs⟩, hg, hb, hms, hak⟩ := hR
  replace hF : okF (bF V 2) := hF
  replace hz : ∀ k, k < 36 → V 38 k = nI (mo (bF V 2 k)) := hz
  replace h1 : one_ (bF V 2) := h1
  obtain ⟨a, ha32, rfl⟩ : ∃ a : Nat, a < 4294967296 ∧ xa = nI a := ⟨pn xa, pn_lt _, (nI_pn _).symm⟩
  obtain ⟨b, hb32, rfl⟩ : ∃ b : Nat, b < 4294967296 ∧ xb = nI b := ⟨pn xb, pn_lt _, (nI_pn _).symm⟩
  by_cases ha : a < 2
  · by_cases hb2 : b < 36
    · refine agr_ret hD (.inl rfl) (by decide) (wr_Lw_guardsByLooking hE hl hD V P PH (nI a) (nI b) sz (fun l hl => ct_Xx_guardsByLooking hE hl hD V P PH hF a ha b hb2 sz) okI_ret okX_ret) ?_
      exact mdI_ret (ct_Mm_guardsByLooking hE hl hD V _ PH (bF V 2) hF hz a ha b hb2 sz) vrd_s (fun _ => by rw [pset_s]; exact congrArg (fun z : Int32 => Value.long z.toInt64) (congrArg nI (gsf_cnt hF a hb2))) (SIM_q (.inl rfl) h0)
    · exact agr_thr hD (.inl rfl) (by decide) (wr_Lw_guardsByLooking hE hl hD V P PH (nI a) (nI b) sz (fun l hl => ct_Xx_guardsByLooking_x2 hE hl hD V P PH a ha b hb32 (by omega) sz) okI_thr (okX_thr (by simp))) (fun _ => ix_1) (mdI_ret (ct_Mm_guardsByLooking_x2 hE hl hD V P PH a ha b hb32 (by omega) sz) vrd_s (fun q => absurd q (by decide)) (SIM_q0 h0))
  · exact agr_thr hD (.inl rfl) (by decide) (wr_Lw_guardsByLooking hE hl hD V P PH (nI a) (nI b) sz (fun l hl => ct_Xx_guardsByLooking_x1 hE hl hD V P PH a ha32 (by omega) _ sz) okI_thr (okX_thr (by simp))) (fun _ => ix_1) (mdI_ret (ct_Mm_guardsByLooking_x1 hE hl hD V P PH a ha32 (by omega) _ sz) vrd_s (fun q => absurd q (by decide)) (SIM_q0 h0))
theorem ag_knowing {E : zE} (hE : zEv E) {l : Launch} (hl : l.stackTraces = false) {D : zD} (hD : zDok E D) {V : Nat → Nat → Int32} {P : Nat → Nat → Value} {PH : aH} {sz nc : Nat} (h : SIM D V P PH sz nc) (hnc : nc < 512) (xa xb : Int32) : agr E l D y_Lw_knowing c_Lw_knowing 5 hh_Lw_knowing rm_Lw_knowing [.ref (D.1 0), .int xa, .int xb, .ref (D.1 44)] V P PH sz (fun kc V2 P2 PH2 s2 => mdI E l D y_Mm_knowing c_Mm_knowing 5 rm_Mm_knowing [.int xa, .int xb] kc V2 P2 PH2 s2 (fun V3 P3 PH3 s3 => SIM D V3 P3 PH3 s3 (nc + 1))) := by
  have h0 := h
  obtain ⟨hP, hS, L, md, H, gs, T, n9, hch, ⟨Bd, mv, tn, bs, ov, st, ch, hR⟩, hmd, hH, hn9, hHm, hT, hU, h33, h37, h60⟩ := h
  have hR0 := hR
  obtain ⟨⟨hF, hz, h1, h8⟩, ⟨htn, htc, htm⟩, ⟨hmc, hmm⟩, ⟨hoc, hom⟩, ⟨hcc, hcm, hc2, hcn⟩, ⟨hst, hbs⟩, hg, hb, hms, hak⟩ := hR
  replace hF : okF (bF V 2) := hF
  replace hz : ∀ k, k < 36 → V 38 k = nI (mo (bF V 2 k)) := hz
  replace h1 : one_ (bF V 2) := h1
  obtain ⟨a, ha32, rfl⟩ : ∃ a : Nat, a < 4294967296 ∧ xa = nI a := ⟨pn xa, pn_lt _, (nI_pn _).symm⟩
  obtain ⟨b, hb32, rfl⟩ : ∃ b : Nat, b < 4294967296 ∧ xb = nI b := ⟨pn xb, pn_lt _, (nI_pn _).symm⟩
  by_cases ha : a < 2
  · by_cases hb2 : b < 5
    · refine agr_ret hD (.inl rfl) (by decide) (wr_Lw_knowing hE hl hD V P PH (nI a) (nI b) sz (fun l hl => ct_Xx_knowing hE hl hD V P PH hF a ha b hb2 sz) okI_ret okX_ret) ?_
      exact mdI_ret (ct_Mm_knowing hE hl hD V _ PH (bF V 2) hF hz a ha b hb2 sz) vrd_s (fun _ => by rw [pset_s]; exact congrArg (fun z : Int32 => Value.long z.toInt64) (congrArg nI (knw_cnt hF a hb2))) (SIM_q (.inl rfl) h0)
    · exact agr_thr hD (.inl rfl) (by decide) (wr_Lw_knowing hE hl hD V P PH (nI a) (nI b) sz (fun l hl => ct_Xx_knowing_x2 hE hl hD V P PH a ha b hb32 (by omega) sz) okI_thr (okX_thr (by simp))) (fun _ => ix_1) (mdI_ret (ct_Mm_knowing_x2 hE hl hD V P PH a ha b hb32 (by omega) sz) vrd_s (fun q => absurd q (by decide)) (SIM_q0 h0))
  · exact agr_thr hD (.inl rfl) (by decide) (wr_Lw_knowing hE hl hD V P PH (nI a) (nI b) sz (fun l hl => ct_Xx_knowing_x1 hE hl hD V P PH a ha32 (by omega) _ sz) okI_thr (okX_thr (by simp))) (fun _ => ix_1) (mdI_ret (ct_Mm_knowing_x1 hE hl hD V P PH a ha32 (by omega) _ sz) vrd_s (fun q => absurd q (by decide)) (SIM_q0 h0))
theorem ag_sideAt {E : zE} (hE : zEv E) {l : Launch} (hl : l.stackTraces = false) {D : zD} (hD : zDok E D) {V : Nat → Nat → Int32} {P : Nat → Nat → Value} {PH : aH} {sz nc : Nat} (h : SIM D V P PH sz nc) (hnc : nc < 512) (xa : Int32) : agr E l D y_Lw_sideAt c_Lw_sideAt 4 hh_Lw_sideAt rm_Lw_sideAt [.ref (D.1 0), .int xa, .ref (D.1 44)] V P PH sz (fun kc V2 P2 PH2 s2 => mdI E l D y_Mm_sideAt c_Mm_sideAt 2 rm_Mm_sideAt [.int xa] kc V2 P2 PH2 s2 (fun V3 P3 PH3 s3 => SIM D V3 P3 PH3 s3 (nc + 1))) := by
  have h0 := h
  obtain ⟨hP, hS, L, md, H, gs, T, n9, hch, ⟨Bd, mv, tn, bs, ov, st, ch, hR⟩, hmd, hH, hn9, hHm, hT, hU, h33, h37, h60⟩ := h
  have hR0 := hR
  obtain ⟨⟨hF, hz, h1, h8⟩, ⟨htn, htc, htm⟩, ⟨hmc, hmm⟩, ⟨hoc, hom⟩, ⟨hcc, hcm, hc2, hcn⟩, ⟨hst, hbs⟩, hg, hb, hms, hak⟩ := hR
  replace hF : okF (bF V 2) := hF
  replace hz : ∀ k, k < 36 → V 38 k = nI (mo (bF V 2 k)) := hz
  replace h1 : one_ (bF V 2) := h1
  obtain ⟨a, ha32, rfl⟩ : ∃ a : Nat, a < 4294967296 ∧ xa = nI a := ⟨pn xa, pn_lt _, (nI_pn _).symm⟩
  by_cases ha : a < 36
  · by_cases h9 : bF V 2 a = 0
    · exact agr_thr hD (.inl rfl) (by decide) (wr_Lw_sideAt hE hl hD V P PH (nI a) sz (fun l hl => ct_Xx_sideAt_x2 hE hl hD V P PH hF a ha h9 sz) okI_thr (okX_thr (by simp))) (fun _ => ix_21 (by decide)) (mdI_ret (ct_Mm_sideAt_x2 hE hl hD V P PH (bF V 2) hF hz a ha h9 sz) vrd_s (fun q => absurd q (by decide)) (SIM_q0 h0))
    · refine agr_ret hD (.inl rfl) (by decide) (wr_Lw_sideAt hE hl hD V P PH (nI a) sz (fun l hl => ct_Xx_sideAt hE hl hD V P PH hF a ha h9 sz) okI_ret okX_ret) ?_
      exact mdI_ret (ct_Mm_sideAt hE hl hD V _ PH (bF V 2) hF hz a ha h9 sz) vrd_s (fun _ => by rw [pset_s]; exact congrArg (fun z : Int32 => Value.long z.toInt64) (by unfold sdo; rw [if_neg h9]; rfl)) (SIM_q (.inl rfl) h0)
  · exact agr_thr hD (.inl rfl) (by decide) (wr_Lw_sideAt hE hl hD V P PH (nI a) sz (fun l hl => ct_Xx_sideAt_x1 hE hl hD V P PH a ha32 (by omega) sz) okI_thr (okX_thr (by simp))) (fun _ => ix_20 (by decide)) (mdI_ret (ct_Mm_sideAt_x1 hE hl hD V P PH a ha32 (by omega) sz) vrd_s (fun q => absurd q (by decide)) (SIM_q0 h0))
theorem ag_stepsAt {E : zE} (hE : zEv E) {l : Launch} (hl : l.stackTraces = false) {D : zD} (hD : zDok E D) {V : Nat → Nat → Int32} {P : Nat → Nat → Value} {PH : aH} {sz nc : Nat} (h : SIM D V P PH sz nc) (hnc : nc < 512) (xa : Int32) : agr E l D y_Lw_stepsAt c_Lw_stepsAt 4 hh_Lw_stepsAt rm_Lw_stepsAt [.ref (D.1 0), .int xa, .ref (D.1 44)] V P PH sz (fun kc V2 P2 PH2 s2 => mdI E l D y_Mm_stepsAt c_Mm_stepsAt 2 rm_Mm_stepsAt [.int xa] kc V2 P2 PH2 s2 (fun V3 P3 PH3 s3 => SIM D V3 P3 PH3 s3 (nc + 1))) := by
  have h0 := h
  obtain ⟨hP, hS, L, md, H, gs, T, n9, hch, ⟨Bd, mv, tn, bs, ov, st, ch, hR⟩, hmd, hH, hn9, hHm, hT, hU, h33, h37, h60⟩ := h
  have hR0 := hR
  obtain ⟨⟨hF, hz, h1, h8⟩, ⟨htn, htc, htm⟩, ⟨hmc, hmm⟩, ⟨hoc, hom⟩, ⟨hcc, hcm, hc2, hcn⟩, ⟨hst, hbs⟩, hg, hb, hms, hak⟩ := hR
  replace hF : okF (bF V 2) := hF
  replace hz : ∀ k, k < 36 → V 38 k = nI (mo (bF V 2 k)) := hz
  replace h1 : one_ (bF V 2) := h1
  obtain ⟨a, ha32, rfl⟩ : ∃ a : Nat, a < 4294967296 ∧ xa = nI a := ⟨pn xa, pn_lt _, (nI_pn _).symm⟩
  by_cases ha : a < 36
  · by_cases h9 : bF V 2 a = 0
    · exact agr_thr hD (.inl rfl) (by decide) (wr_Lw_stepsAt hE hl hD V P PH (nI a) sz (fun l hl => ct_Xx_stepsAt_x2 hE hl hD V P PH hF a ha h9 sz) okI_thr (okX_thr (by simp))) (fun _ => ix_21 (by decide)) (mdI_ret (ct_Mm_stepsAt_x2 hE hl hD V P PH (bF V 2) hF hz a ha h9 sz) vrd_s (fun q => absurd q (by decide)) (SIM_q0 h0))
    · refine agr_ret hD (.inl rfl) (by decide) (wr_Lw_stepsAt hE hl hD V P PH (nI a) sz (fun l hl => ct_Xx_stepsAt hE hl hD V P PH hF a ha h9 sz) okI_ret okX_ret) ?_
      exact mdI_ret (ct_Mm_stepsAt hE hl hD V _ PH (bF V 2) hF hz a ha h9 sz) vrd_s (fun _ => by rw [pset_s]; exact congrArg (fun z : Int32 => Value.long z.toInt64) (rfl)) (SIM_q (.inl rfl) h0)
  · exact agr_thr hD (.inl rfl) (by decide) (wr_Lw_stepsAt hE hl hD V P PH (nI a) sz (fun l hl => ct_Xx_stepsAt_x1 hE hl hD V P PH a ha32 (by omega) sz) okI_thr (okX_thr (by simp))) (fun _ => ix_20 (by decide)) (mdI_ret (ct_Mm_stepsAt_x1 hE hl hD V P PH a ha32 (by omega) sz) vrd_s (fun q => absurd q (by decide)) (SIM_q0 h0))
theorem ag_worthAt {E : zE} (hE : zEv E) {l : Launch} (hl : l.stackTraces = false) {D : zD} (hD : zDok E D) {V : Nat → Nat → Int32} {P : Nat → Nat → Value} {PH : aH} {sz nc : Nat} (h : SIM D V P PH sz nc) (hnc : nc < 512) (xa : Int32) : agr E l D y_Lw_worthAt c_Lw_worthAt 4 hh_Lw_worthAt rm_Lw_worthAt [.ref (D.1 0), .int xa, .ref (D.1 44)] V P PH sz (fun kc V2 P2 PH2 s2 => mdI E l D y_Mm_worthAt c_Mm_worthAt 2 rm_Mm_worthAt [.int xa] kc V2 P2 PH2 s2 (fun V3 P3 PH3 s3 => SIM D V3 P3 PH3 s3 (nc + 1))) := by
  have h0 := h
  obtain ⟨hP, hS, L, md, H, gs, T, n9, hch, ⟨Bd, mv, tn, bs, ov, st, ch, hR⟩, hmd, hH, hn9, hHm, hT, hU, h33, h37, h60⟩ := h
  have hR0 := hR
  obtain ⟨⟨hF, hz, h1, h8⟩, ⟨htn, htc, htm⟩, ⟨hmc, hmm⟩, ⟨hoc, hom⟩, ⟨hcc, hcm, hc2, hcn⟩, ⟨hst, hbs⟩, hg, hb, hms, hak⟩ := hR
  replace hF : okF (bF V 2) := hF
  replace hz : ∀ k, k < 36 → V 38 k = nI (mo (bF V 2 k)) := hz
  replace h1 : one_ (bF V 2) := h1
  obtain ⟨a, ha32, rfl⟩ : ∃ a : Nat, a < 4294967296 ∧ xa = nI a := ⟨pn xa, pn_lt _, (nI_pn _).symm⟩
  by_cases ha : a < 36
  · by_cases h9 : bF V 2 a = 0
    · exact agr_thr hD (.inl rfl) (by decide) (wr_Lw_worthAt hE hl hD V P PH (nI a) sz (fun l hl => ct_Xx_worthAt_x2 hE hl hD V P PH hF a ha h9 sz) okI_thr (okX_thr (by simp))) (fun _ => ix_21 (by decide)) (mdI_ret (ct_Mm_worthAt_x2 hE hl hD V P PH (bF V 2) hF hz a ha h9 sz) vrd_s (fun q => absurd q (by decide)) (SIM_q0 h0))
    · refine agr_ret hD (.inl rfl) (by decide) (wr_Lw_worthAt hE hl hD V P PH (nI a) sz (fun l hl => ct_Xx_worthAt hE hl hD V P PH hF a ha h9 sz) okI_ret okX_ret) ?_
      exact mdI_ret (ct_Mm_worthAt hE hl hD V _ PH (bF V 2) hF hz a ha h9 sz) vrd_s (fun _ => by rw [pset_s]; exact congrArg (fun z : Int32 => Value.long z.toInt64) (rfl)) (SIM_q (.inl rfl) h0)
  · exact agr_thr hD (.inl rfl) (by decide) (wr_Lw_worthAt hE hl hD V P PH (nI a) sz (fun l hl => ct_Xx_worthAt_x1 hE hl hD V P PH a ha32 (by omega) sz) okI_thr (okX_thr (by simp))) (fun _ => ix_20 (by decide)) (mdI_ret (ct_Mm_worthAt_x1 hE hl hD V P PH a ha32 (by omega) sz) vrd_s (fun q => absurd q (by decide)) (SIM_q0 h0))
theorem ag_reach {E : zE} (hE : zEv E) {l : Launch} (hl : l.stackTraces = false) {D : zD} (hD : zDok E D) {V : Nat → Nat → Int32} {P : Nat → Nat → Value} {PH : aH} {sz nc : Nat} (h : SIM D V P PH sz nc) (hnc : nc < 512) (xa : Int32) : agr E l D y_Lw_reach c_Lw_reach 4 hh_Lw_reach rm_Lw_reach [.ref (D.1 0), .int xa, .ref (D.1 44)] V P PH sz (fun kc V2 P2 PH2 s2 => mdL E l D y_Mm_reach c_Mm_reach 2 rm_Mm_reach [.int xa] kc V2 P2 PH2 s2 (fun V3 P3 PH3 s3 => SIM D V3 P3 PH3 s3 (nc + 1))) := by
  have h0 := h
  obtain ⟨hP, hS, L, md, H, gs, T, n9, hch, ⟨Bd, mv, tn, bs, ov, st, ch, hR⟩, hmd, hH, hn9, hHm, hT, hU, h33, h37, h60⟩ := h
  have hR0 := hR
  obtain ⟨⟨hF, hz, h1, h8⟩, ⟨htn, htc, htm⟩, ⟨hmc, hmm⟩, ⟨hoc, hom⟩, ⟨hcc, hcm, hc2, hcn⟩, ⟨hst, hbs⟩, hg, hb, hms, hak⟩ := hR
  replace hF : okF (bF V 2) := hF
  replace hz : ∀ k, k < 36 → V 38 k = nI (mo (bF V 2 k)) := hz
  replace h1 : one_ (bF V 2) := h1
  obtain ⟨a, ha32, rfl⟩ : ∃ a : Nat, a < 4294967296 ∧ xa = nI a := ⟨pn xa, pn_lt _, (nI_pn _).symm⟩
  by_cases ha : a < 36
  · by_cases h9 : bF V 2 a = 0
    · exact agr_thr hD (.inl rfl) (by decide) (wr_Lw_reach hE hl hD V P PH (nI a) sz (fun l hl => ct_Xx_reach_x2 hE hl hD V P PH hF a ha h9 sz) okL_thr (okX_thr (by simp))) (fun _ => ix_21 (by decide)) (mdL_ret (ct_Mm_reach_x2 hE hl hD V P PH (bF V 2) hF hz a ha h9 sz) vrd_s (fun q => absurd q (by decide)) (SIM_q0 h0))
    · refine agr_ret hD (.inl rfl) (by decide) (wr_Lw_reach hE hl hD V P PH (nI a) sz (fun l hl => ct_Xx_reach hE hl hD V P PH hF a ha h9 sz) okL_ret okX_ret) ?_
      exact mdL_ret (ct_Mm_reach hE hl hD V _ PH (bF V 2) hF hz a ha h9 sz) vrd_s (fun _ => by rw [pset_s]; exact congrArg Value.long (congrArg lN (bm_gfa hF ha h9).symm)) (SIM_q (.inl rfl) h0)
  · exact agr_thr hD (.inl rfl) (by decide) (wr_Lw_reach hE hl hD V P PH (nI a) sz (fun l hl => ct_Xx_reach_x1 hE hl hD V P PH a ha32 (by omega) sz) okL_thr (okX_thr (by simp))) (fun _ => ix_20 (by decide)) (mdL_ret (ct_Mm_reach_x1 hE hl hD V P PH a ha32 (by omega) sz) vrd_s (fun q => absurd q (by decide)) (SIM_q0 h0))
theorem ag_leaderOf {E : zE} (hE : zEv E) {l : Launch} (hl : l.stackTraces = false) {D : zD} (hD : zDok E D) {V : Nat → Nat → Int32} {P : Nat → Nat → Value} {PH : aH} {sz nc : Nat} (h : SIM D V P PH sz nc) (hnc : nc < 512) (xa : Int32) : agr E l D y_Lw_leaderOf c_Lw_leaderOf 4 hh_Lw_leaderOf rm_Lw_leaderOf [.ref (D.1 0), .int xa, .ref (D.1 44)] V P PH sz (fun kc V2 P2 PH2 s2 => mdI E l D y_Mm_leaderOf c_Mm_leaderOf 2 rm_Mm_leaderOf [.int xa] kc V2 P2 PH2 s2 (fun V3 P3 PH3 s3 => SIM D V3 P3 PH3 s3 (nc + 1))) := by
  have h0 := h
  obtain ⟨hP, hS, L, md, H, gs, T, n9, hch, ⟨Bd, mv, tn, bs, ov, st, ch, hR⟩, hmd, hH, hn9, hHm, hT, hU, h33, h37, h60⟩ := h
  have hR0 := hR
  obtain ⟨⟨hF, hz, h1, h8⟩, ⟨htn, htc, htm⟩, ⟨hmc, hmm⟩, ⟨hoc, hom⟩, ⟨hcc, hcm, hc2, hcn⟩, ⟨hst, hbs⟩, hg, hb, hms, hak⟩ := hR
  replace hF : okF (bF V 2) := hF
  replace hz : ∀ k, k < 36 → V 38 k = nI (mo (bF V 2 k)) := hz
  replace h1 : one_ (bF V 2) := h1
  obtain ⟨a, ha32, rfl⟩ : ∃ a : Nat, a < 4294967296 ∧ xa = nI a := ⟨pn xa, pn_lt _, (nI_pn _).symm⟩
  by_cases ha : a < 2
  · have e9 := lsq_lls h1 ha
    cases hl9 : lsq (bF V 2) a with
    | none =>
      exact agr_thr hD (.inl rfl) (by decide) (wr_Lw_leaderOf hE hl hD V P PH (nI a) sz (fun l hl => ct_Xx_leaderOf_x2 hE hl hD V P PH hF a ha hl9 sz) okI_thr (okX_thr (by simp))) (fun _ => ix_21 (by decide)) (mdI_ret (ct_Mm_leaderOf_x2 hE hl hD V P PH (bF V 2) hF hz a ha (e9.trans hl9) sz) vrd_s (fun q => absurd q (by decide)) (SIM_q0 h0))
    | some k =>
      refine agr_ret hD (.inl rfl) (by decide) (wr_Lw_leaderOf hE hl hD V P PH (nI a) sz (fun l hl => ct_Xx_leaderOf hE hl hD V P PH hF a ha k (lls_lt (e9.trans hl9)).1 hl9 sz) okI_ret okX_ret) ?_
      exact mdI_ret (ct_Mm_leaderOf hE hl hD V _ PH (bF V 2) hF hz a ha k (e9.trans hl9) sz) vrd_s (fun _ => by rw [pset_s]; exact congrArg (fun z : Int32 => Value.long z.toInt64) (rfl)) (SIM_q (.inl rfl) h0)
  · exact agr_thr hD (.inl rfl) (by decide) (wr_Lw_leaderOf hE hl hD V P PH (nI a) sz (fun l hl => ct_Xx_leaderOf_x1 hE hl hD V P PH a ha32 (by omega) sz) okI_thr (okX_thr (by simp))) (fun _ => ix_20 (by decide)) (mdI_ret (ct_Mm_leaderOf_x1 hE hl hD V P PH a ha32 (by omega) sz) vrd_s (fun q => absurd q (by decide)) (SIM_q0 h0))
theorem ag_whyNot {E : zE} (hE : zEv E) {l : Launch} (hl : l.stackTraces = false) {D : zD} (hD : zDok E D) {V : Nat → Nat → Int32} {P : Nat → Nat → Value} {PH : aH} {sz nc : Nat} (h : SIM D V P PH sz nc) (hnc : nc < 512) (xa xb : Int32) : agr E l D y_Lw_whyNot c_Lw_whyNot 5 hh_Lw_whyNot rm_Lw_whyNot [.ref (D.1 0), .int xa, .int xb, .ref (D.1 44)] V P PH sz (fun kc V2 P2 PH2 s2 => mdI E l D y_Mm_whyNot c_Mm_whyNot 3 rm_Mm_whyNot [.int xa, .int xb] kc V2 P2 PH2 s2 (fun V3 P3 PH3 s3 => SIM D V3 P3 PH3 s3 (nc + 1))) := by
  have h0 := h
  obtain ⟨hP, hS, L, md, H, gs, T, n9, hch, ⟨Bd, mv, tn, bs, ov, st, ch, hR⟩, hmd, hH, hn9, hHm, hT, hU, h33, h37, h60⟩ := h
  have hR0 := hR
  obtain ⟨⟨hF, hz, h1, h8⟩, ⟨htn, htc, htm⟩, ⟨hmc, hmm⟩, ⟨hoc, hom⟩, ⟨hcc, hcm, hc2, hcn⟩, ⟨hst, hbs⟩, hg, hb, hms, hak⟩ := hR
  replace hF : okF (bF V 2) := hF
  replace hz : ∀ k, k < 36 → V 38 k = nI (mo (bF V 2 k)) := hz
  replace h1 : one_ (bF V 2) := h1
  obtain ⟨a, ha32, rfl⟩ : ∃ a : Nat, a < 4294967296 ∧ xa = nI a := ⟨pn xa, pn_lt _, (nI_pn _).symm⟩
  obtain ⟨b, hb32, rfl⟩ : ∃ b : Nat, b < 4294967296 ∧ xb = nI b := ⟨pn xb, pn_lt _, (nI_pn _).symm⟩
  have e9 : (!L.isEmpty) = st := RSc_L hR0
  by_cases ha : a < 36
  · by_cases hb2 : b < 36
    · refine agr_ret hD (.inl rfl) (by decide) (wr_Lw_whyNot hE hl hD V P PH (nI a) (nI b) sz (fun l hl => ct_Xx_whyNot hE hl hD V P PH hF L hch tn htn htc ov hoc a ha b hb2 sz) okI_ret okX_ret) ?_
      exact mdI_ret (ct_Mm_whyNot hE hl hD V _ PH (bF V 2) hF hz st hst ov hom tn htn htm a ha b hb2 sz) vrd_s (fun _ => by rw [pset_s]; exact congrArg (fun z : Int32 => Value.long z.toInt64) (congrArg nI (by rw [rsn_whm hF L ov ha hb2, e9]))) (SIM_q (.inl rfl) h0)
    · exact agr_thr hD (.inl rfl) (by decide) (wr_Lw_whyNot hE hl hD V P PH (nI a) (nI b) sz (fun l hl => ct_Xx_whyNot_x2 hE hl hD V P PH a ha b hb32 (by omega) sz) okI_thr (okX_thr (by simp))) (fun _ => ix_1) (mdI_ret (ct_Mm_whyNot_x2 hE hl hD V P PH a ha b hb32 (by omega) sz) vrd_s (fun q => absurd q (by decide)) (SIM_q0 h0))
  · exact agr_thr hD (.inl rfl) (by decide) (wr_Lw_whyNot hE hl hD V P PH (nI a) (nI b) sz (fun l hl => ct_Xx_whyNot_x1 hE hl hD V P PH a ha32 (by omega) _ sz) okI_thr (okX_thr (by simp))) (fun _ => ix_1) (mdI_ret (ct_Mm_whyNot_x1 hE hl hD V P PH a ha32 (by omega) _ sz) vrd_s (fun q => absurd q (by decide)) (SIM_q0 h0))
theorem ag_winner {E : zE} (hE : zEv E) {l : Launch} (hl : l.stackTraces = false) {D : zD} (hD : zDok E D) {V : Nat → Nat → Int32} {P : Nat → Nat → Value} {PH : aH} {sz nc : Nat} (h : SIM D V P PH sz nc) (hnc : nc < 512) : agr E l D y_Lw_winner c_Lw_winner 3 hh_Lw_winner rm_Lw_winner [.ref (D.1 0), .ref (D.1 44)] V P PH sz (fun kc V2 P2 PH2 s2 => mdI E l D y_Mm_winner c_Mm_winner 1 rm_Mm_winner [] kc V2 P2 PH2 s2 (fun V3 P3 PH3 s3 => SIM D V3 P3 PH3 s3 (nc + 1))) := by
  have h0 := h
  obtain ⟨hP, hS, L, md, H, gs, T, n9, hch, ⟨Bd, mv, tn, bs, ov, st, ch, hR⟩, hmd, hH, hn9, hHm, hT, hU, h33, h37, h60⟩ := h
  have hR0 := hR
  obtain ⟨⟨hF, hz, h1, h8⟩, ⟨htn, htc, htm⟩, ⟨hmc, hmm⟩, ⟨hoc, hom⟩, ⟨hcc, hcm, hc2, hcn⟩, ⟨hst, hbs⟩, hg, hb, hms, hak⟩ := hR
  replace hF : okF (bF V 2) := hF
  replace hz : ∀ k, k < 36 → V 38 k = nI (mo (bF V 2 k)) := hz
  replace h1 : one_ (bF V 2) := h1
  cases ch with
  | none =>
    exact agr_thr hD (.inl rfl) (by decide) (wr_Lw_winner hE hl hD V P PH  sz (fun l hl => ct_Xx_winner_x hE hl hD V P PH hcc sz) okI_thr (okX_thr (by simp))) (fun _ => ix_1) (mdI_ret (ct_Mm_winner_x hE hl hD V P PH (bF V 2) hF hz hcm sz) vrd_s (fun q => absurd q (by decide)) (SIM_q0 h0))
  | some k =>
    refine agr_ret hD (.inl rfl) (by decide) (wr_Lw_winner hE hl hD V P PH  sz (fun l hl => ct_Xx_winner hE hl hD V P PH k (hc2 k rfl) hcc sz) okI_ret okX_ret) ?_
    exact mdI_ret (ct_Mm_winner hE hl hD V _ PH (bF V 2) hF hz k (hc2 k rfl) hcm sz) vrd_s (fun _ => by rw [pset_s]; exact congrArg (fun z : Int32 => Value.long z.toInt64) (rfl)) (SIM_q (.inl rfl) h0)
theorem ag_firstError {E : zE} (hE : zEv E) {l : Launch} (hl : l.stackTraces = false) {D : zD} (hD : zDok E D) {V : Nat → Nat → Int32} {P : Nat → Nat → Value} {PH : aH} {sz nc : Nat} (h : SIM D V P PH sz nc) (hnc : nc < 512) : agr E l D y_Lw_firstError c_Lw_firstError 3 hh_Lw_firstError rm_Lw_firstError [.ref (D.1 0), .ref (D.1 44)] V P PH sz (fun kc V2 P2 PH2 s2 => mdI E l D y_Mm_firstError c_Mm_firstError 1 rm_Mm_firstError [] kc V2 P2 PH2 s2 (fun V3 P3 PH3 s3 => SIM D V3 P3 PH3 s3 (nc + 1))) := by
  have h0 := h
  obtain ⟨hP, hS, L, md, H, gs, T, n9, hch, ⟨Bd, mv, tn, bs, ov, st, ch, hR⟩, hmd, hH, hn9, hHm, hT, hU, h33, h37, h60⟩ := h
  have hR0 := hR
  obtain ⟨⟨hF, hz, h1, h8⟩, ⟨htn, htc, htm⟩, ⟨hmc, hmm⟩, ⟨hoc, hom⟩, ⟨hcc, hcm, hc2, hcn⟩, ⟨hst, hbs⟩, hg, hb, hms, hak⟩ := hR
  replace hF : okF (bF V 2) := hF
  replace hz : ∀ k, k < 36 → V 38 k = nI (mo (bF V 2 k)) := hz
  replace h1 : one_ (bF V 2) := h1
  cases hl9 : lis T n9 with
  | true =>
    exact agr_thr hD (.inl rfl) (by decide) (wr_Lw_firstError hE hl hD V P PH  sz (fun l hl => ct_Xx_firstError_x hE hl hD V P PH T hT n9 h33 h60 hl9 sz) okI_thr (okX_thr (by simp))) (fun _ => ix_1) (mdI_ret (ct_Mm_firstError_x hE hl hD V P PH T hU n9 h37 h60 (by rw [lis_flt] at hl9; exact eq_of_beq hl9) sz) vrd_s (fun q => absurd q (by decide)) (SIM_q0 h0))
  | false =>
    refine agr_ret hD (.inl rfl) (by decide) (wr_Lw_firstError hE hl hD V P PH  sz (fun l hl => ct_Xx_firstError hE hl hD V P PH T hT n9 h33 h60 hl9 sz) okI_ret okX_ret) ?_
    exact mdI_ret (ct_Mm_firstError hE hl hD V _ PH T hU n9 h37 h60 _ (fmf_flt hl9) sz) vrd_s (fun _ => by rw [pset_s]; exact congrArg (fun z : Int32 => Value.long z.toInt64) (rfl)) (SIM_q (.inl rfl) h0)
