/-! ===== what the calls owe: exchanges ===== -/
theorem zEx_okI {D : zD} {V : Nat → Nat → Int32} {P : Nat → Nat → Value} {PH : aH} {sz r : Nat} : okI D (zEx D V P PH sz r) := fun v h s q => by
  obtain ⟨e, -, V2, e2, -⟩ := q
  cases e
  exact ⟨_, V2, P, PH, rfl, e2⟩
theorem zEx_okX {D : zD} {V : Nat → Nat → Int32} {P : Nat → Nat → Value} {PH : aH} {sz r : Nat} {Xs : List String} : okX (zEx D V P PH sz r) Xs := fun X h s q => by cases q.1
theorem zThE_okI {D : zD} {V : Nat → Nat → Int32} {P : Nat → Nat → Value} {PH : aH} {sz : Nat} {X : String} : okI D (zThE X D V P PH sz) := fun v h s q => by cases q.1
theorem zThE_okX {D : zD} {V : Nat → Nat → Int32} {P : Nat → Nat → Value} {PH : aH} {sz : Nat} {X : String} {Xs : List String} (hX : X ∈ Xs) : okX (zThE X D V P PH sz) Xs := fun X2 h s q => by
  have e := q.1
  cases e
  exact hX
section AGX
variable {E : zE} {l : Launch} {D : zD} {y yM : MethodName} {cL cM : ByteArray} {nL nM : Nat} {hh : List (Nat × Nat × Nat × Nat)} {rm : Room} {av : List Value} {V V2 : Nat → Nat → Int32} {P P2 : Nat → Nat → Value} {PH : aH} {sz nc kc : Nat} {Xs : List String} {M : Nat → (Nat → Nat → Int32) → (Nat → Nat → Value) → aH → Nat → Prop}
theorem agr_zEx (hD : zDok E D) {r : Nat} (hX3 : Xs.length ≤ 3) (hM : zM E l y [.codeWith y cL nL (some .int) hh] rm av (HM D V P PH) sz (zWr D (zEx D V P PH sz r) Xs 44 cvI)) (hm : ∀ V2 : Nat → Nat → Int32, (∀ c, c ≠ 36 → V2 c = V c) → M 0 V2 (pset P 44 0 (.long (nI r).toInt64)) PH sz) : agr E l D y cL nL hh rm av V P PH sz M :=
  agr_of hD (.inl rfl) hX3 hM (fun w V4 P4 PH4 s4 q => by
    obtain ⟨e1, e2, V3, e3, h3⟩ := q
    cases e1
    subst e2
    exact ⟨V3, P, PH, e3, hm V3 h3⟩) (fun X h2 s4 i q => by cases q.1)
theorem agr_zThE (hD : zDok E D) {X : String} {i : Nat} (hX3 : Xs.length ≤ 3) (hM : zM E l y [.codeWith y cL nL (some .int) hh] rm av (HM D V P PH) sz (zWr D (zThE X D V P PH sz) Xs 44 cvI)) (hi : ∀ j : Nat, Xs[j]? = some X → j = i) (hm : ∀ V2 : Nat → Nat → Int32, (∀ c, c ≠ 36 → V2 c = V c) → M (i + 1) V2 P PH sz) : agr E l D y cL nL hh rm av V P PH sz M :=
  agr_of hD (.inl rfl) hX3 hM (fun w V4 P4 PH4 s4 q => by cases q.1) (fun X2 h2 s4 j q hj => by
    obtain ⟨e1, e2, V3, e3, h3⟩ := q
    cases e1
    subst e2
    rw [hi j hj]
    exact ⟨V3, P, PH, e3, hm V3 h3⟩)
theorem mdI_eo {r : Int32} (hM : zM E l yM [.code yM cM nM (some .int)] rm (.ref (D.1 37) :: av) (HM D V2 P2 PH) sz (zEo D (vset V2 37 8 (nI kc)) P2 PH sz r)) (hk : kc = 0 → P2 44 0 = .long r.toInt64) (hV : ∀ c, c ≠ 36 → V2 c = V c) (hP : ∀ c, c ≠ 44 → c ≠ 45 → P2 c = P c) (h : SIM D V P PH sz nc) : mdI E l D yM cM nM rm av kc V2 P2 PH sz (fun V3 P3 PH3 s3 => SIM D V3 P3 PH3 s3 (nc + 1)) :=
  ⟨_, hM, fun X h s q => (by cases q.1), fun w h3 s3 q => by
    obtain ⟨e1, e2, V3, e3, h4⟩ := q
    cases e1
    subst e2
    have e37 : V3 37 = vset V2 37 8 (nI kc) 37 := h4 37 (by decide) (by decide)
    refine ⟨V3, r, rfl, e3, rfl, by rw [e37]; exact vrd_s, hk, SIM_fr h (fun c c1 c2 c3 c4 => by rw [h4 c c3 c4, vset_n c2, hV c c1]) ?_ ?_ hP⟩
    · rw [e37, vrd_n (by decide), hV 37 (by decide)]
    · rw [e37, vrd_n (by decide), hV 37 (by decide)]⟩
end AGX
theorem ag_exchange {E : zE} (hE : zEv E) {l : Launch} (hl : l.stackTraces = false) {D : zD} (hD : zDok E D) {V : Nat → Nat → Int32} {P : Nat → Nat → Value} {PH : aH} {sz nc : Nat} (h : SIM D V P PH sz nc) (hnc : nc < 512) (xa : Int32) : agr E l D y_Lw_exchange c_Lw_exchange 4 hh_Lw_exchange rm_Lw_exchange [.ref (D.1 0), .int xa, .ref (D.1 44)] V P PH sz (fun kc V2 P2 PH2 s2 => mdI E l D y_Mm_exchange c_Mm_exchange 2 rm_Mm_exchange [.int xa] kc V2 P2 PH2 s2 (fun V3 P3 PH3 s3 => SIM D V3 P3 PH3 s3 (nc + 1))) := by
  have h0 := h
  obtain ⟨hP, hS, L, md, H, gs, T, n9, hch, ⟨Bd, mv, tn, bs, ov, st, ch, hR⟩, hmd, hH, hn9, hHm, hT, hU, h33, h37, h60⟩ := h
  have hR0 := hR
  obtain ⟨⟨hF, hz, h1, h8⟩, ⟨htn, htc, htm⟩, ⟨hmc, hmm⟩, ⟨hoc, hom⟩, ⟨hcc, hcm, hc2, hcn⟩, ⟨hst, hbs⟩, hg, hb, hms, hak⟩ := hR
  replace hF : okF (bF V 2) := hF
  replace hz : ∀ k, k < 36 → V 38 k = nI (mo (bF V 2 k)) := hz
  replace h1 : one_ (bF V 2) := h1
  obtain ⟨a, ha32, rfl⟩ : ∃ a : Nat, a < 4294967296 ∧ xa = nI a := ⟨pn xa, pn_lt _, (nI_pn _).symm⟩
  have hps := RSc_pcs hR0
  by_cases ha : a < 36
  · by_cases h9 : bF V 2 a = 0
    · exact agr_thr hD (.inl rfl) (by decide) (wr_Lw_exchange hE hl hD V P PH (nI a) sz (fun l hl => ct_Xx_exchange_x2 hE hl hD V P PH hF a ha h9 sz) okI_thr (okX_thr (by simp))) (fun _ => ix_21 (by decide)) (mdI_ret (ct_Mm_exchange_x2 hE hl hD V P PH (bF V 2) hF hz a ha h9 sz) vrd_s (fun q => absurd q (by decide)) (SIM_q0 h0))
    · refine agr_zEx hD (by decide) (wr_Lw_exchange hE hl hD V P PH (nI a) sz (fun l hl => ct_Xx_exchange hE hl hD V P PH hF a ha h9 sz) zEx_okI zEx_okX) (fun V2 hV => ?_)
      have hz2 : ∀ k, k < 36 → V2 38 k = nI (mo (bF V 2 k)) := fun k hk => by rw [hV 38 (by decide)]; exact hz k hk
      exact mdI_eo (r := nI (exM 16 (bF V 2) a)) (ct_Mm_exchange hE hl hD V2 _ PH (bF V 2) hF hz2 a ha h9 (exT_of ha h9 hps) sz) (fun _ => by rw [pset_s, ← exN_exM ha hF]; rfl) hV (fun c c1 c2 => pset_n c1) h0
  · exact agr_thr hD (.inl rfl) (by decide) (wr_Lw_exchange hE hl hD V P PH (nI a) sz (fun l hl => ct_Xx_exchange_x1 hE hl hD V P PH a ha32 (by omega) sz) okI_thr (okX_thr (by simp))) (fun _ => ix_20 (by decide)) (mdI_ret (ct_Mm_exchange_x1 hE hl hD V P PH a ha32 (by omega) sz) vrd_s (fun q => absurd q (by decide)) (SIM_q0 h0))
theorem ag_weakest {E : zE} (hE : zEv E) {l : Launch} (hl : l.stackTraces = false) {D : zD} (hD : zDok E D) {V : Nat → Nat → Int32} {P : Nat → Nat → Value} {PH : aH} {sz nc : Nat} (h : SIM D V P PH sz nc) (hnc : nc < 512) (xa : Int32) : agr E l D y_Lw_weakest c_Lw_weakest 4 hh_Lw_weakest rm_Lw_weakest [.ref (D.1 0), .int xa, .ref (D.1 44)] V P PH sz (fun kc V2 P2 PH2 s2 => mdI E l D y_Mm_weakest c_Mm_weakest 3 rm_Mm_weakest [.int xa] kc V2 P2 PH2 s2 (fun V3 P3 PH3 s3 => SIM D V3 P3 PH3 s3 (nc + 1))) := by
  have h0 := h
  obtain ⟨hP, hS, L, md, H, gs, T, n9, hch, ⟨Bd, mv, tn, bs, ov, st, ch, hR⟩, hmd, hH, hn9, hHm, hT, hU, h33, h37, h60⟩ := h
  have hR0 := hR
  obtain ⟨⟨hF, hz, h1, h8⟩, ⟨htn, htc, htm⟩, ⟨hmc, hmm⟩, ⟨hoc, hom⟩, ⟨hcc, hcm, hc2, hcn⟩, ⟨hst, hbs⟩, hg, hb, hms, hak⟩ := hR
  replace hF : okF (bF V 2) := hF
  replace hz : ∀ k, k < 36 → V 38 k = nI (mo (bF V 2 k)) := hz
  replace h1 : one_ (bF V 2) := h1
  obtain ⟨a, ha32, rfl⟩ : ∃ a : Nat, a < 4294967296 ∧ xa = nI a := ⟨pn xa, pn_lt _, (nI_pn _).symm⟩
  have hps := RSc_pcs hR0
  have hT9 : ∀ k, k < 36 → bF V 2 k ≠ 0 → exT 16 (bF V 2) k := fun k hk h9 => exT_of hk h9 hps
  by_cases ha : a < 2
  · have e9 : wkp (bF V 2) a 36 = wkq (bF V 2) a 36 := wkp_wkq hF (by decide)
    cases hw9 : (wkp (bF V 2) a 36).2 with
    | none =>
      refine agr_zThE hD (i := 1) (by decide) (wr_Lw_weakest hE hl hD V P PH (nI a) sz (fun l hl => ct_Xx_weakest_x2 hE hl hD V P PH hF a ha hw9 sz) zThE_okI (zThE_okX (by simp))) (fun _ => ix_21 (by decide)) (fun V2 hV => ?_)
      have hz2 : ∀ k, k < 36 → V2 38 k = nI (mo (bF V 2 k)) := fun k hk => by rw [hV 38 (by decide)]; exact hz k hk
      exact mdI_eo (ct_Mm_weakest_x2 hE hl hD V2 _ PH (bF V 2) hF hz2 a ha hT9 (e9 ▸ hw9) sz) (fun q => absurd q (by decide)) hV (fun _ _ _ => rfl) h0
    | some k =>
      refine agr_zEx hD (by decide) (wr_Lw_weakest hE hl hD V P PH (nI a) sz (fun l hl => ct_Xx_weakest hE hl hD V P PH hF a ha k hw9 sz) zEx_okI zEx_okX) (fun V2 hV => ?_)
      have hz2 : ∀ k, k < 36 → V2 38 k = nI (mo (bF V 2 k)) := fun k hk => by rw [hV 38 (by decide)]; exact hz k hk
      exact mdI_eo (ct_Mm_weakest hE hl hD V2 _ PH (bF V 2) hF hz2 a ha hT9 k (e9 ▸ hw9) sz) (fun _ => by rw [pset_s]; rfl) hV (fun c c1 c2 => pset_n c1) h0
  · exact agr_thr hD (.inl rfl) (by decide) (wr_Lw_weakest hE hl hD V P PH (nI a) sz (fun l hl => ct_Xx_weakest_x1 hE hl hD V P PH a ha32 (by omega) sz) okI_thr (okX_thr (by simp))) (fun _ => ix_20 (by decide)) (mdI_ret (ct_Mm_weakest_x1 hE hl hD V P PH a ha32 (by omega) sz) vrd_s (fun q => absurd q (by decide)) (SIM_q0 h0))
