/-! ===== the law's setUp ===== -/
theorem HM_52 {E : zE} {D : zD} (hD : zDok E D) {V : Nat → Nat → Int32} {P : Nat → Nat → Value} {PH : aH} : HM D V P PH (D.1 52) = some (15, D.2.2.1, fun k => .int (D.2.2.2 k)) := by
  rw [HM_at hD (show zin 52 by decide)]
  rfl
theorem LB_of {D : zD} {V : Nat → Nat → Int32} {P : Nat → Nat → Value} {PH : aH} {sz : Nat} {F : Nat → Nat} {L : List zPos} {tn md : Nat} {ov : Bool} {ch : Option Nat} (h : GS D V P PH sz F L tn md ov ch) : LB V F (V 37) (V 38) := ⟨h.2.1.1, rfl, rfl⟩
/-- the law's numbers before the game -/
def TI (V : Nat → Nat → Int32) : Prop := V 39 2 = -101 ∧ V 39 3 = nI 0 ∧ V 39 4 = nI 0 ∧ ∀ s, s < 2 → V 39 (7 + s) = nI 0 ∧ V 39 (9 + s) = nI 0 ∧ V 4 s = V 39 (5 + s) ∧ V 5 s = nI 0
/-- i pieces are told -/
def SU (D : zD) (V : Nat → Nat → Int32) (P : Nat → Nat → Value) (PH : aH) (sz : Nat) (F : Nat → Nat) (i : Nat) : Prop :=
  GS D V P PH sz F [] 0 0 false none ∧ okpq F (V 37) (V 38) ∧ TI V ∧ (i < 2 → (∃ c0, ∀ x, x < 36 → x ≠ c0 → F x = 0) ∧ ∀ x, x < 36 → ∀ s, i ≤ s → s < 2 → hld F x s = false) ∧ ∀ s, s < 2 → s < i → (lsq F s).isSome = true
def zSU (D : zD) (PH : aH) (sz : Nat) : zO := fun o h2 s2 => o = .inl (some (.int (nI 1))) ∧ s2 = sz ∧ ∃ (V2 : Nat → Nat → Int32) (P2 : Nat → Nat → Value) (F : Nat → Nat), h2 = HM D V2 P2 PH ∧ SU D V2 P2 PH sz F 2
theorem lsq_some {F : Nat → Nat} {s k : Nat} (hk : k < 36) (h : (hld F k s && ldr (F k)) = true) : (lsq F s).isSome = true := by
  cases h9 : lsq F s with
  | some j => rfl
  | none =>
    have := ffr_none.mp h9 k (Nat.zero_le k) (by omega)
    rw [h] at this
    cases this
theorem lsq_pl {F : Nat → Nat} {b p s : Nat} (h0 : F b = 0) (h : (lsq F s).isSome = true) : (lsq (plF F b p) s).isSome = true := by
  cases h9 : lsq F s with
  | none => rw [h9] at h; cases h
  | some j =>
    obtain ⟨-, h2, h3⟩ := ffr_lt h9
    have hjb : j ≠ b := fun e => by
      rw [e] at h3
      unfold hld at h3
      rw [h0] at h3
      cases h3
    refine lsq_some (k := j) (by omega) ?_
    rw [hld_pl, if_neg hjb]
    unfold plF
    rw [if_neg hjb]
    exact h3
theorem pof_t : ∀ s, s < 2 → ∀ c, c < 32 → ∀ ld : Bool, stp (pof s c ld) = c ∧ pof s c ld / 32 = (if ld then 1 else 0) + 2 * s ∧ wst c + ((if ld then 1 else 0) + 2 * s) % 2 * 10 = wr (pof s c ld) := by decide +kernel
theorem okpq_pl {F : Nat → Nat} {pr qr : Nat → Int32} (h : okpq F pr qr) {s b c : Nat} {ld : Bool} (hs : s < 2) (hc : c < 32) (hc0 : 1 ≤ c) : okpq (plF F b (pof s c ld)) (upd pr b (nI c)) (upd qr b (nI ((if ld then 1 else 0) + 2 * s))) := by
  obtain ⟨g1, g2, -⟩ := pof_t s hs c hc ld
  refine ⟨okF_pl h.1 (pof_lt hs hc), fun k hk => ?_⟩
  unfold plF
  by_cases e : k = b
  · subst e
    rw [if_pos rfl, upd_s, upd_s, g1, g2]
    exact ⟨rfl, fun z => by omega, fun _ => rfl⟩
  · rw [if_neg e, upd_n e, upd_n e]
    exact h.2 k hk
/-- the next piece is put -/
theorem SU_put {D : zD} {V V2 : Nat → Nat → Int32} {P P2 : Nat → Nat → Value} {PH : aH} {sz : Nat} {F : Nat → Nat} {i s b c : Nat} {ld : Bool} (h : SU D V P PH sz F i) (hs : s < 2) (hb : b < 36) (hc : c < 32) (hc0 : 1 ≤ c) (hb0 : F b = 0) (hi : i < 2 → s = i ∧ ld = true) (hG : GS D V2 P2 PH sz (plF F b (pof s c ld)) [] 0 0 false none) (h37 : V2 37 = upd (V 37) b (nI c)) (h38 : V2 38 = upd (V 38) b (nI ((if ld then 1 else 0) + 2 * s))) (h39 : V2 39 = upd (V 39) (5 + s) (V 39 (5 + s) + nI (wr (pof s c ld)))) (h4 : V2 4 s = V 4 s + nI (wr (pof s c ld))) (h4b : V2 4 (1 - s) = V 4 (1 - s)) (h5 : V2 5 = V 5) : SU D V2 P2 PH sz (plF F b (pof s c ld)) (i + 1) := by
  obtain ⟨a1, a2, ⟨t2, t3, t4, t5⟩, a4, a5⟩ := h
  obtain ⟨sp1, sp2⟩ := sd_pof s hs c hc ld
  have hp0 : pof s c ld ≠ 0 := pof_ne hc0
  refine ⟨hG, by rw [h37, h38]; exact okpq_pl a2 hs hc hc0, ⟨by rw [h39, upd_n (by omega)]; exact t2, by rw [h39, upd_n (by omega)]; exact t3, by rw [h39, upd_n (by omega)]; exact t4, fun s9 hs9 => ?_⟩, fun hi2 => ?_, fun s9 hs9 hsi => ?_⟩
  · obtain ⟨u1, u2, u3, u4⟩ := t5 s9 hs9
    rw [h39, upd_n (by omega), upd_n (by omega), h5]
    refine ⟨u1, u2, ?_, u4⟩
    by_cases e : s9 = s
    · subst e
      rw [upd_s, h4, u3]
    · rw [upd_n (by omega), show s9 = 1 - s by omega, h4b]
      rw [show s9 = 1 - s by omega] at u3
      exact u3
  · obtain ⟨g1, g2⟩ := hi (by omega)
    obtain ⟨⟨c0, e1⟩, e2⟩ := a4 (by omega)
    have hz : ∀ x, x < 36 → F x = 0 := fun x hx => by
      by_cases hx0 : F x = 0
      · exact hx0
      · have hsx := sd_le (F x)
        have := e2 x hx (sd (F x)) (by omega) (by omega)
        rw [hld_t hx0 rfl] at this
        cases this
    refine ⟨⟨b, fun x hx hxb => ?_⟩, fun x hx s9 h1 h2 => ?_⟩
    · unfold plF
      rw [if_neg hxb]
      exact hz x hx
    · rw [hld_pl]
      split
      · rw [sp1]
        have : ¬ s = s9 := by omega
        simp [this]
      · unfold hld
        rw [hz x hx]
        rfl
  · by_cases e : s9 < i
    · exact lsq_pl hb0 (a5 s9 hs9 e)
    · obtain ⟨g1, g2⟩ := hi (by omega)
      refine lsq_some (k := b) hb ?_
      rw [hld_pl, if_pos rfl]
      have ep : plF F b (pof s c ld) b = pof s c ld := if_pos rfl
      rw [ep, sp1, sp2, g2]
      have e9 : (pof s c true != 0) = true := bne_iff_ne.mpr (pof_ne hc0)
      rw [e9]
      simp
      omega
theorem SU_no {D : zD} {V : Nat → Nat → Int32} {P : Nat → Nat → Value} {PH : aH} {sz : Nat} {F : Nat → Nat} {i : Nat} (h : SU D V P PH sz F i) (hi : 2 ≤ i) : SU D V P PH sz F (i + 1) := by
  obtain ⟨a1, a2, a3, a4, a5⟩ := h
  exact ⟨a1, a2, a3, fun z => by omega, fun s hs _ => a5 s hs (by omega)⟩
/-- what the class accepts -/
theorem SU_acc {D : zD} {V : Nat → Nat → Int32} {P : Nat → Nat → Value} {PH : aH} {sz : Nat} {F : Nat → Nat} {i s b : Nat} {ld : Bool} (h : SU D V P PH sz F i) (hs : s < 2) (hi : i < 2 → s = i ∧ ld = true) : acc_ [] F s b ld = (F b == 0 && (decide (cnt (fun k => hld F k s) 36 < 8) && !(ld && decide (2 ≤ i)))) := by
  obtain ⟨a1, a2, a3, a4, a5⟩ := h
  unfold acc_
  rw [popc_sqs]
  have e : (lsq F s).isSome = decide (2 ≤ i) := by
    by_cases h2 : 2 ≤ i
    · rw [decide_eq_true h2]
      exact a5 s hs (by omega)
    · rw [decide_eq_false h2]
      obtain ⟨g1, g2⟩ := hi (by omega)
      have : lsq F s = none := by
        unfold lsq
        rw [ffr_none]
        intro k _ hk
        rw [(a4 (by omega)).2 k (by omega) s (by omega) hs]
        rfl
      rw [this]
      rfl
  rw [e]
  rfl
theorem cnt_few {b : Nat → Bool} {c0 : Nat} : ∀ {n : Nat}, (∀ x, x < n → x ≠ c0 → b x = false) → cnt b n ≤ 1 := by
  intro n
  induction n with
  | zero => intro _; exact Nat.zero_le 1
  | succ n ih =>
    intro h
    rw [cnt_s]
    by_cases e : n = c0
    · have : cnt b n = 0 := by
        have h9 : cnt b n = cnt (fun _ => false) n := cnt_ext (fun k hk => h k (by omega) (by omega))
        rw [h9]
        have e2 : ∀ k : Nat, cnt (fun _ => false) k = 0 := by
          intro k
          induction k with
          | zero => rfl
          | succ k ih => rw [cnt_s, ih]; rfl
        exact e2 n
      split <;> omega
    · rw [h n (by omega) e]
      have := ih (fun x hx => h x (by omega))
      simp
      omega
set_option maxRecDepth 20000 in
theorem su_186_ly {E : zE} {G : zG} {D : zD} (hD : zDok E D) (hL : D.2.2.1 ≤ 260) {PH : aH} {sz : Nat} (C : zCx E G c_Lw_setUp 13 y_Lw_setUp.cls y_Lw_setUp.name (some .boolean) rm_Lw_setUp) (q : zEndX E G (zSU D PH sz) rm_Lw_setUp.cells rm_Lw_setUp.slots) {V : Nat → Nat → Int32} {P : Nat → Nat → Value} {F : Nat → Nat} {mm i k n : Nat} (hS : SU D V P PH sz F i) (hk : k + 6 ≤ 120) (hn : n + 36 ≤ 720) {v : Int32} {s b c : Nat} (hs : s < 2) (hb : b < 36) (hc : c < 32) (hc0 : 1 ≤ c) (hi : i < 2 → s = i ∧ true = true) (hac : acc_ [] F s b true = true) (hb0 : F b = 0) (kk : ∀ (V2 : Nat → Nat → Int32) (P2 : Nat → Nat → Value) (F2 : Nat → Nat), SU D V2 P2 PH sz F2 (i + 1) → Z E G (HM D V2 P2 PH) sz (k + 6) (n + 36) (268, [some (.ref (D.1 0)), some (.ref (D.1 37)), some (.ref (D.1 38)), some (.ref (D.1 39)), some (.ref (D.1 52)), some (.int (nI mm)), some (.int (nI i)), none, none, none, none, none, none], [])) : Z E G (HM D V P PH) sz k n (186, [some (.ref (D.1 0)), some (.ref (D.1 37)), some (.ref (D.1 38)), some (.ref (D.1 39)), some (.ref (D.1 52)), some (.int (nI mm)), some (.int (nI i)), some (.int v), some (.int (nI s)), some (.int (nI 1)), some (.int (nI b)), some (.int (nI c)), some (.int (nI 1))], []) := by
  have hpq := hS.2.1
  have hF := hpq.1
  have hLB := LB_of hS.1
  refine Z_run C it_Lw_setUp 1 (f2 := (188, [some (.ref (D.1 0)), some (.ref (D.1 37)), some (.ref (D.1 38)), some (.ref (D.1 39)), some (.ref (D.1 52)), some (.int (nI mm)), some (.int (nI i)), some (.int v), some (.int (nI s)), some (.int (nI 1)), some (.int (nI b)), some (.int (nI c)), some (.int (nI 1))], [.int (nI 1)])) rfl ?_
  refine Z_br C it_Lw_setUp rfl rfl (fun hc1 => ?_) (fun hc1 => ?_)
  · exact absurd hc1 (by decide)
  · skip
    refine Z_run C it_Lw_setUp 3 (f2 := (196, [some (.ref (D.1 0)), some (.ref (D.1 37)), some (.ref (D.1 38)), some (.ref (D.1 39)), some (.ref (D.1 52)), some (.int (nI mm)), some (.int (nI i)), some (.int v), some (.int (nI s)), some (.int (nI 1)), some (.int (nI b)), some (.int (nI c)), some (.int (nI 1))], [.int (nI c), .int (nI b), .ref (D.1 37)])) rfl ?_
    refine Zm_ast C it_Lw_setUp hD 37 10 rfl (by first | decide | exact isB_k hb | omega) rfl (by decide) rfl (j := b) (by omega) trivial rfl ?_
    refine Z_run C it_Lw_setUp 3 (f2 := (202, [some (.ref (D.1 0)), some (.ref (D.1 37)), some (.ref (D.1 38)), some (.ref (D.1 39)), some (.ref (D.1 52)), some (.int (nI mm)), some (.int (nI i)), some (.int v), some (.int (nI s)), some (.int (nI 1)), some (.int (nI b)), some (.int (nI c)), some (.int (nI 1))], [.int (nI 1), .int (nI b), .ref (D.1 38)])) rfl ?_
    refine Z_br C it_Lw_setUp rfl rfl (fun hc2 => ?_) (fun hc2 => ?_)
    · exact absurd hc2 (by decide)
    · skip
      refine Z_run C it_Lw_setUp 5 (f2 := (214, [some (.ref (D.1 0)), some (.ref (D.1 37)), some (.ref (D.1 38)), some (.ref (D.1 39)), some (.ref (D.1 52)), some (.int (nI mm)), some (.int (nI i)), some (.int v), some (.int (nI s)), some (.int (nI 1)), some (.int (nI b)), some (.int (nI c)), some (.int (nI 1))], [.int (nI 2 * nI s), .int (nI 1), .int (nI b), .ref (D.1 38)])) rfl ?_
      rw [nI_mul 2 s]
      refine Z_run C it_Lw_setUp 1 (f2 := (215, [some (.ref (D.1 0)), some (.ref (D.1 37)), some (.ref (D.1 38)), some (.ref (D.1 39)), some (.ref (D.1 52)), some (.int (nI mm)), some (.int (nI i)), some (.int v), some (.int (nI s)), some (.int (nI 1)), some (.int (nI b)), some (.int (nI c)), some (.int (nI 1))], [.int (nI 1 + nI (2 * s)), .int (nI b), .ref (D.1 38)])) rfl ?_
      rw [nI_add 1 (2 * s)]
      refine Zm_ast C it_Lw_setUp hD 38 10 rfl (by first | decide | exact isB_k hb | omega) rfl (by decide) rfl (j := b) (by omega) trivial rfl ?_
      refine Z_run C it_Lw_setUp 4 (f2 := (221, [some (.ref (D.1 0)), some (.ref (D.1 37)), some (.ref (D.1 38)), some (.ref (D.1 39)), some (.ref (D.1 52)), some (.int (nI mm)), some (.int (nI i)), some (.int v), some (.int (nI s)), some (.int (nI 1)), some (.int (nI b)), some (.int (nI c)), some (.int (nI 1))], [.int (nI 5 + nI s), .ref (D.1 39)])) rfl ?_
      rw [nI_add 5 s]
      refine Z_run C it_Lw_setUp 1 (f2 := (222, [some (.ref (D.1 0)), some (.ref (D.1 37)), some (.ref (D.1 38)), some (.ref (D.1 39)), some (.ref (D.1 52)), some (.int (nI mm)), some (.int (nI i)), some (.int v), some (.int (nI s)), some (.int (nI 1)), some (.int (nI b)), some (.int (nI c)), some (.int (nI 1))], [.int (nI (5 + s)), .ref (D.1 39), .int (nI (5 + s)), .ref (D.1 39)])) rfl ?_
      refine Zm_ald C it_Lw_setUp hD 39 10 rfl (by decide) rfl (by decide) (by decide) rfl (j := 5 + s) (by omega) (v := .int ((vset (vset V 37 b (nI c)) 38 b (nI (1 + 2 * s))) 39 (5 + s))) rfl ?_
      refine Z_run C it_Lw_setUp 3 (f2 := (228, [some (.ref (D.1 0)), some (.ref (D.1 37)), some (.ref (D.1 38)), some (.ref (D.1 39)), some (.ref (D.1 52)), some (.int (nI mm)), some (.int (nI i)), some (.int v), some (.int (nI s)), some (.int (nI 1)), some (.int (nI b)), some (.int (nI c)), some (.int (nI 1))], [.int (nI b), .ref (D.1 38), .int (nI c), .int ((vset (vset V 37 b (nI c)) 38 b (nI (1 + 2 * s))) 39 (5 + s)), .int (nI (5 + s)), .ref (D.1 39)])) rfl ?_
      refine Zm_ald C it_Lw_setUp hD 38 10 rfl (by decide) rfl (by decide) (by decide) rfl (j := b) (by omega) (v := .int ((vset (vset V 37 b (nI c)) 38 b (nI (1 + 2 * s))) 38 b)) rfl ?_
      have e1 : (vset (vset V 37 b (nI c)) 38 b (nI (1 + 2 * s))) 38 b = nI (1 + 2 * s) := by rw [vset_s, upd_s]
      rw [e1]
      refine Zr_callS C it_Lw_setUp rfl p_Lw_worth ml_Lw_34 [.int (nI c), .int (nI (1 + 2 * s))] ((by have z := ct_Lw_worth C.ev C.l c hc (1 + 2 * s) (by omega) (HM D (vset (vset V 37 b (nI c)) 38 b (nI (1 + 2 * s))) P PH) sz; rw [show wst c + (1 + 2 * s) % 2 * 10 = wr (pof s c true) from (pof_t s hs c hc true).2.2] at z; exact z)) rfl rfl ⟨by decide, by decide, by show k + 0 + 0 ≤ 120; omega, by show n + 0 + 0 ≤ 720; omega⟩ (Nat.le_of_ble_eq_true rfl) rfl ?_
      show Z E G (HM D (vset (vset V 37 b (nI c)) 38 b (nI (1 + 2 * s))) P PH) sz k n (232, [some (.ref (D.1 0)), some (.ref (D.1 37)), some (.ref (D.1 38)), some (.ref (D.1 39)), some (.ref (D.1 52)), some (.int (nI mm)), some (.int (nI i)), some (.int v), some (.int (nI s)), some (.int (nI 1)), some (.int (nI b)), some (.int (nI c)), some (.int (nI 1))], [.int (nI (wr (pof s c true))), .int ((vset (vset V 37 b (nI c)) 38 b (nI (1 + 2 * s))) 39 (5 + s)), .int (nI (5 + s)), .ref (D.1 39)])
      refine Z_run C it_Lw_setUp 1 (f2 := (233, [some (.ref (D.1 0)), some (.ref (D.1 37)), some (.ref (D.1 38)), some (.ref (D.1 39)), some (.ref (D.1 52)), some (.int (nI mm)), some (.int (nI i)), some (.int v), some (.int (nI s)), some (.int (nI 1)), some (.int (nI b)), some (.int (nI c)), some (.int (nI 1))], [.int ((vset (vset V 37 b (nI c)) 38 b (nI (1 + 2 * s))) 39 (5 + s) + nI (wr (pof s c true))), .int (nI (5 + s)), .ref (D.1 39)])) rfl ?_
      refine Zm_ast C it_Lw_setUp hD 39 10 rfl (by first | decide | exact isB_k hb | omega) rfl (by decide) rfl (j := 5 + s) (by omega) trivial rfl ?_
      refine Z_run C it_Lw_setUp 5 (f2 := (243, [some (.ref (D.1 0)), some (.ref (D.1 37)), some (.ref (D.1 38)), some (.ref (D.1 39)), some (.ref (D.1 52)), some (.int (nI mm)), some (.int (nI i)), some (.int v), some (.int (nI s)), some (.int (nI 1)), some (.int (nI b)), some (.int (nI c)), some (.int (nI 1))], [.int (nI c), .int (nI b), .int (nI s), .int (nI 1), .ref (D.1 0)])) rfl ?_
      obtain ⟨V2, eV2⟩ : ∃ V2 : Nat → Nat → Int32, (vset (vset (vset V 37 b (nI c)) 38 b (nI (1 + 2 * s))) 39 (5 + s) ((vset (vset V 37 b (nI c)) 38 b (nI (1 + 2 * s))) 39 (5 + s) + nI (wr (pof s c true)))) = V2 := ⟨_, rfl⟩
      have g37 : V2 37 = upd (V 37) b (nI c) := by rw [← eV2]; rfl
      have g38 : V2 38 = upd (V 38) b (nI (1 + 2 * s)) := by rw [← eV2]; rfl
      have g39 : V2 39 = upd (V 39) (5 + s) (V 39 (5 + s) + nI (wr (pof s c true))) := by rw [← eV2]; rfl
      have gc : ∀ c, c ≤ 33 → V2 c = V c := fun c h9 => by rw [← eV2, vset_n (by omega), vset_n (by omega), vset_n (by omega)]
      rw [eV2]
      have hG2 := GS_fr hS.1 gc (fun _ _ => rfl)
      refine Z_callSX C it_Lw_setUp rfl p_Lw_puts ml_Lw_125 [.ref (D.1 0), .int (nI 1), .int (nI s), .int (nI b), .int (nI c)] (gs_put C.ev C.l hD hG2 s hs b hb c hc hc0 true hac) rfl rfl ⟨by decide, by decide, by show k + 0 + 6 ≤ 120; omega, by show n + 0 + 36 ≤ 720; omega⟩ (Nat.le_of_ble_eq_true rfl) rfl (fun v h3 sz3 hO => ?_) (fun X h3 sz3 hO => by cases hO.1)
      obtain ⟨e1, e2, V3, P3, rfl, hG3, hV3, hP3, h4, h4b, h5⟩ := hO
      rw [e2]
      cases e1
      have hS3 := SU_put hS hs hb hc hc0 hb0 hi hG3 (by rw [hV3 37 (by decide)]; exact g37) (by rw [hV3 38 (by decide)]; exact g38) (by rw [hV3 39 (by decide)]; exact g39) (by rw [h4, gc 4 (by decide)]) (by rw [h4b, gc 4 (by decide)]) (by rw [h5, gc 5 (by decide)])
      have hLB3 := LB_of hG3
      show Z E G (HM D V3 P3 PH) sz (k + 6) (n + 36) (246, [some (.ref (D.1 0)), some (.ref (D.1 37)), some (.ref (D.1 38)), some (.ref (D.1 39)), some (.ref (D.1 52)), some (.int (nI mm)), some (.int (nI i)), some (.int v), some (.int (nI s)), some (.int (nI 1)), some (.int (nI b)), some (.int (nI c)), some (.int (nI 1))], [.int (nI (cnt (fun k => hld (plF F b (pof s c true)) k s) 36))])
      refine Z_run C it_Lw_setUp 1 (f2 := (248, [some (.ref (D.1 0)), some (.ref (D.1 37)), some (.ref (D.1 38)), some (.ref (D.1 39)), some (.ref (D.1 52)), some (.int (nI mm)), some (.int (nI i)), some (.int v), some (.int (nI s)), some (.int (nI 1)), some (.int (nI b)), some (.int (nI c)), some (.int (nI 1))], [.int (nI 1), .int (nI (cnt (fun k => hld (plF F b (pof s c true)) k s) 36))])) rfl ?_
      refine Z_br C it_Lw_setUp rfl rfl (fun hc3 => ?_) (fun hc3 => ?_)
      · exact absurd hc3 (by decide)
      · skip
        refine Z_run C it_Lw_setUp 3 (f2 := (255, [some (.ref (D.1 0)), some (.ref (D.1 37)), some (.ref (D.1 38)), some (.ref (D.1 39)), some (.ref (D.1 52)), some (.int (nI mm)), some (.int (nI i)), some (.int v), some (.int (nI s)), some (.int (nI 1)), some (.int (nI b)), some (.int (nI c)), some (.int (nI 1))], [.int (nI s), .ref (D.1 38), .ref (D.1 37), .int (nI (cnt (fun k => hld (plF F b (pof s c true)) k s) 36))])) rfl ?_
        refine Zr_callS C it_Lw_setUp rfl p_Lw_pieces ml_Lw_123 [.ref (D.1 37), .ref (D.1 38), .int (nI s)] (ct_Lw_pieces C.ev C.l (plF F b (pof s c true)) _ _ hS3.2.1 (HM D V3 P3 PH) _ _ (LB_p hD hLB3) (LB_q hD hLB3) s (by omega) _) rfl rfl ⟨by decide, by decide, by show k + 6 + 0 ≤ 120; omega, by show n + 36 + 0 ≤ 720; omega⟩ (Nat.le_of_ble_eq_true rfl) rfl ?_
        show Z E G (HM D V3 P3 PH) sz (k + 6) (n + 36) (258, [some (.ref (D.1 0)), some (.ref (D.1 37)), some (.ref (D.1 38)), some (.ref (D.1 39)), some (.ref (D.1 52)), some (.int (nI mm)), some (.int (nI i)), some (.int v), some (.int (nI s)), some (.int (nI 1)), some (.int (nI b)), some (.int (nI c)), some (.int (nI 1))], [.int (nI (cnt (fun k => hld (plF F b (pof s c true)) k s) 36)), .int (nI (cnt (fun k => hld (plF F b (pof s c true)) k s) 36))])
        refine Z_run C it_Lw_setUp 1 (f2 := (263, [some (.ref (D.1 0)), some (.ref (D.1 37)), some (.ref (D.1 38)), some (.ref (D.1 39)), some (.ref (D.1 52)), some (.int (nI mm)), some (.int (nI i)), some (.int v), some (.int (nI s)), some (.int (nI 1)), some (.int (nI b)), some (.int (nI c)), some (.int (nI 1))], [.int (nI (cnt (fun k => hld (plF F b (pof s c true)) k s) 36)), .int (nI (cnt (fun k => hld (plF F b (pof s c true)) k s) 36))])) rfl ?_
        refine Z_br C it_Lw_setUp rfl rfl (fun hc4 => ?_) (fun hc4 => ?_)
        · skip
          refine Z_sub (ls2 := [some (.ref (D.1 0)), some (.ref (D.1 37)), some (.ref (D.1 38)), some (.ref (D.1 39)), some (.ref (D.1 52)), some (.int (nI mm)), some (.int (nI i)), none, none, none, none, none, none]) ⟨rfl, rfl, rfl, rfl, rfl, rfl, rfl, trivial⟩ ?_
          exact kk V3 P3 _ hS3
        · exact absurd (rfl) hc4
set_option maxRecDepth 20000 in
theorem su_186_ln {E : zE} {G : zG} {D : zD} (hD : zDok E D) (hL : D.2.2.1 ≤ 260) {PH : aH} {sz : Nat} (C : zCx E G c_Lw_setUp 13 y_Lw_setUp.cls y_Lw_setUp.name (some .boolean) rm_Lw_setUp) (q : zEndX E G (zSU D PH sz) rm_Lw_setUp.cells rm_Lw_setUp.slots) {V : Nat → Nat → Int32} {P : Nat → Nat → Value} {F : Nat → Nat} {mm i k n : Nat} (hS : SU D V P PH sz F i) (hk : k + 6 ≤ 120) (hn : n + 36 ≤ 720) {v : Int32} {s b c : Nat} (hs : s < 2) (hb : b < 36) (hc : c < 32) (hc0 : 1 ≤ c) (hi : i < 2 → s = i ∧ true = true) (hac : acc_ [] F s b true = false) (h2i : 2 ≤ i) (kk : ∀ (V2 : Nat → Nat → Int32) (P2 : Nat → Nat → Value) (F2 : Nat → Nat), SU D V2 P2 PH sz F2 (i + 1) → Z E G (HM D V2 P2 PH) sz (k + 6) (n + 36) (268, [some (.ref (D.1 0)), some (.ref (D.1 37)), some (.ref (D.1 38)), some (.ref (D.1 39)), some (.ref (D.1 52)), some (.int (nI mm)), some (.int (nI i)), none, none, none, none, none, none], [])) : Z E G (HM D V P PH) sz k n (186, [some (.ref (D.1 0)), some (.ref (D.1 37)), some (.ref (D.1 38)), some (.ref (D.1 39)), some (.ref (D.1 52)), some (.int (nI mm)), some (.int (nI i)), some (.int v), some (.int (nI s)), some (.int (nI 1)), some (.int (nI b)), some (.int (nI c)), some (.int (nI 0))], []) := by
  have hpq := hS.2.1
  have hF := hpq.1
  have hLB := LB_of hS.1
  refine Z_run C it_Lw_setUp 1 (f2 := (188, [some (.ref (D.1 0)), some (.ref (D.1 37)), some (.ref (D.1 38)), some (.ref (D.1 39)), some (.ref (D.1 52)), some (.int (nI mm)), some (.int (nI i)), some (.int v), some (.int (nI s)), some (.int (nI 1)), some (.int (nI b)), some (.int (nI c)), some (.int (nI 0))], [.int (nI 0)])) rfl ?_
  refine Z_br C it_Lw_setUp rfl rfl (fun hc1 => ?_) (fun hc1 => ?_)
  · skip
    refine Z_run C it_Lw_setUp 5 (f2 := (243, [some (.ref (D.1 0)), some (.ref (D.1 37)), some (.ref (D.1 38)), some (.ref (D.1 39)), some (.ref (D.1 52)), some (.int (nI mm)), some (.int (nI i)), some (.int v), some (.int (nI s)), some (.int (nI 1)), some (.int (nI b)), some (.int (nI c)), some (.int (nI 0))], [.int (nI c), .int (nI b), .int (nI s), .int (nI 1), .ref (D.1 0)])) rfl ?_
    refine Z_callSX C it_Lw_setUp rfl p_Lw_puts ml_Lw_125 [.ref (D.1 0), .int (nI 1), .int (nI s), .int (nI b), .int (nI c)] (gs_putx C.ev C.l hD hS.1 s hs b hb c hc hc0 true hac) rfl rfl ⟨by decide, by decide, by show k + 0 + 6 ≤ 120; omega, by show n + 0 + 36 ≤ 720; omega⟩ (Nat.le_of_ble_eq_true rfl) rfl (fun v h3 sz3 hO => ?_) (fun X h3 sz3 hO => by cases hO.1)
    obtain ⟨e1, rfl, e2⟩ := hO
    rw [e2]
    cases e1
    show Z E G (HM D V P PH) sz (k + 6) (n + 36) (246, [some (.ref (D.1 0)), some (.ref (D.1 37)), some (.ref (D.1 38)), some (.ref (D.1 39)), some (.ref (D.1 52)), some (.int (nI mm)), some (.int (nI i)), some (.int v), some (.int (nI s)), some (.int (nI 1)), some (.int (nI b)), some (.int (nI c)), some (.int (nI 0))], [.int ((-103))])
    refine Z_run C it_Lw_setUp 1 (f2 := (248, [some (.ref (D.1 0)), some (.ref (D.1 37)), some (.ref (D.1 38)), some (.ref (D.1 39)), some (.ref (D.1 52)), some (.int (nI mm)), some (.int (nI i)), some (.int v), some (.int (nI s)), some (.int (nI 1)), some (.int (nI b)), some (.int (nI c)), some (.int (nI 0))], [.int (nI 0), .int ((-103))])) rfl ?_
    refine Z_br C it_Lw_setUp rfl rfl (fun hc2 => ?_) (fun hc2 => ?_)
    · skip
      refine Z_run C it_Lw_setUp 1 (f2 := (263, [some (.ref (D.1 0)), some (.ref (D.1 37)), some (.ref (D.1 38)), some (.ref (D.1 39)), some (.ref (D.1 52)), some (.int (nI mm)), some (.int (nI i)), some (.int v), some (.int (nI s)), some (.int (nI 1)), some (.int (nI b)), some (.int (nI c)), some (.int (nI 0))], [.int ((-103)), .int ((-103))])) rfl ?_
      refine Z_br C it_Lw_setUp rfl rfl (fun hc3 => ?_) (fun hc3 => ?_)
      · skip
        refine Z_sub (ls2 := [some (.ref (D.1 0)), some (.ref (D.1 37)), some (.ref (D.1 38)), some (.ref (D.1 39)), some (.ref (D.1 52)), some (.int (nI mm)), some (.int (nI i)), none, none, none, none, none, none]) ⟨rfl, rfl, rfl, rfl, rfl, rfl, rfl, trivial⟩ ?_
        exact kk V P F (SU_no hS h2i)
      · exact absurd (rfl) hc3
    · exact absurd rfl hc2
  · exact absurd rfl hc1
set_option maxRecDepth 20000 in
theorem su_186_py {E : zE} {G : zG} {D : zD} (hD : zDok E D) (hL : D.2.2.1 ≤ 260) {PH : aH} {sz : Nat} (C : zCx E G c_Lw_setUp 13 y_Lw_setUp.cls y_Lw_setUp.name (some .boolean) rm_Lw_setUp) (q : zEndX E G (zSU D PH sz) rm_Lw_setUp.cells rm_Lw_setUp.slots) {V : Nat → Nat → Int32} {P : Nat → Nat → Value} {F : Nat → Nat} {mm i k n : Nat} (hS : SU D V P PH sz F i) (hk : k + 6 ≤ 120) (hn : n + 36 ≤ 720) {v : Int32} {s b c : Nat} (hs : s < 2) (hb : b < 36) (hc : c < 32) (hc0 : 1 ≤ c) (hi : i < 2 → s = i ∧ false = true) (hac : acc_ [] F s b false = true) (hb0 : F b = 0) (kk : ∀ (V2 : Nat → Nat → Int32) (P2 : Nat → Nat → Value) (F2 : Nat → Nat), SU D V2 P2 PH sz F2 (i + 1) → Z E G (HM D V2 P2 PH) sz (k + 6) (n + 36) (268, [some (.ref (D.1 0)), some (.ref (D.1 37)), some (.ref (D.1 38)), some (.ref (D.1 39)), some (.ref (D.1 52)), some (.int (nI mm)), some (.int (nI i)), none, none, none, none, none, none], [])) : Z E G (HM D V P PH) sz k n (186, [some (.ref (D.1 0)), some (.ref (D.1 37)), some (.ref (D.1 38)), some (.ref (D.1 39)), some (.ref (D.1 52)), some (.int (nI mm)), some (.int (nI i)), some (.int v), some (.int (nI s)), some (.int (nI 0)), some (.int (nI b)), some (.int (nI c)), some (.int (nI 1))], []) := by
  have hpq := hS.2.1
  have hF := hpq.1
  have hLB := LB_of hS.1
  refine Z_run C it_Lw_setUp 1 (f2 := (188, [some (.ref (D.1 0)), some (.ref (D.1 37)), some (.ref (D.1 38)), some (.ref (D.1 39)), some (.ref (D.1 52)), some (.int (nI mm)), some (.int (nI i)), some (.int v), some (.int (nI s)), some (.int (nI 0)), some (.int (nI b)), some (.int (nI c)), some (.int (nI 1))], [.int (nI 1)])) rfl ?_
  refine Z_br C it_Lw_setUp rfl rfl (fun hc1 => ?_) (fun hc1 => ?_)
  · exact absurd hc1 (by decide)
  · skip
    refine Z_run C it_Lw_setUp 3 (f2 := (196, [some (.ref (D.1 0)), some (.ref (D.1 37)), some (.ref (D.1 38)), some (.ref (D.1 39)), some (.ref (D.1 52)), some (.int (nI mm)), some (.int (nI i)), some (.int v), some (.int (nI s)), some (.int (nI 0)), some (.int (nI b)), some (.int (nI c)), some (.int (nI 1))], [.int (nI c), .int (nI b), .ref (D.1 37)])) rfl ?_
    refine Zm_ast C it_Lw_setUp hD 37 10 rfl (by first | decide | exact isB_k hb | omega) rfl (by decide) rfl (j := b) (by omega) trivial rfl ?_
    refine Z_run C it_Lw_setUp 3 (f2 := (202, [some (.ref (D.1 0)), some (.ref (D.1 37)), some (.ref (D.1 38)), some (.ref (D.1 39)), some (.ref (D.1 52)), some (.int (nI mm)), some (.int (nI i)), some (.int v), some (.int (nI s)), some (.int (nI 0)), some (.int (nI b)), some (.int (nI c)), some (.int (nI 1))], [.int (nI 0), .int (nI b), .ref (D.1 38)])) rfl ?_
    refine Z_br C it_Lw_setUp rfl rfl (fun hc2 => ?_) (fun hc2 => ?_)
    · skip
      refine Z_run C it_Lw_setUp 4 (f2 := (214, [some (.ref (D.1 0)), some (.ref (D.1 37)), some (.ref (D.1 38)), some (.ref (D.1 39)), some (.ref (D.1 52)), some (.int (nI mm)), some (.int (nI i)), some (.int v), some (.int (nI s)), some (.int (nI 0)), some (.int (nI b)), some (.int (nI c)), some (.int (nI 1))], [.int (nI 2 * nI s), .int (nI 0), .int (nI b), .ref (D.1 38)])) rfl ?_
      rw [nI_mul 2 s]
      refine Z_run C it_Lw_setUp 1 (f2 := (215, [some (.ref (D.1 0)), some (.ref (D.1 37)), some (.ref (D.1 38)), some (.ref (D.1 39)), some (.ref (D.1 52)), some (.int (nI mm)), some (.int (nI i)), some (.int v), some (.int (nI s)), some (.int (nI 0)), some (.int (nI b)), some (.int (nI c)), some (.int (nI 1))], [.int (nI 0 + nI (2 * s)), .int (nI b), .ref (D.1 38)])) rfl ?_
      rw [nI_add 0 (2 * s)]
      refine Zm_ast C it_Lw_setUp hD 38 10 rfl (by first | decide | exact isB_k hb | omega) rfl (by decide) rfl (j := b) (by omega) trivial rfl ?_
      refine Z_run C it_Lw_setUp 4 (f2 := (221, [some (.ref (D.1 0)), some (.ref (D.1 37)), some (.ref (D.1 38)), some (.ref (D.1 39)), some (.ref (D.1 52)), some (.int (nI mm)), some (.int (nI i)), some (.int v), some (.int (nI s)), some (.int (nI 0)), some (.int (nI b)), some (.int (nI c)), some (.int (nI 1))], [.int (nI 5 + nI s), .ref (D.1 39)])) rfl ?_
      rw [nI_add 5 s]
      refine Z_run C it_Lw_setUp 1 (f2 := (222, [some (.ref (D.1 0)), some (.ref (D.1 37)), some (.ref (D.1 38)), some (.ref (D.1 39)), some (.ref (D.1 52)), some (.int (nI mm)), some (.int (nI i)), some (.int v), some (.int (nI s)), some (.int (nI 0)), some (.int (nI b)), some (.int (nI c)), some (.int (nI 1))], [.int (nI (5 + s)), .ref (D.1 39), .int (nI (5 + s)), .ref (D.1 39)])) rfl ?_
      refine Zm_ald C it_Lw_setUp hD 39 10 rfl (by decide) rfl (by decide) (by decide) rfl (j := 5 + s) (by omega) (v := .int ((vset (vset V 37 b (nI c)) 38 b (nI (0 + 2 * s))) 39 (5 + s))) rfl ?_
      refine Z_run C it_Lw_setUp 3 (f2 := (228, [some (.ref (D.1 0)), some (.ref (D.1 37)), some (.ref (D.1 38)), some (.ref (D.1 39)), some (.ref (D.1 52)), some (.int (nI mm)), some (.int (nI i)), some (.int v), some (.int (nI s)), some (.int (nI 0)), some (.int (nI b)), some (.int (nI c)), some (.int (nI 1))], [.int (nI b), .ref (D.1 38), .int (nI c), .int ((vset (vset V 37 b (nI c)) 38 b (nI (0 + 2 * s))) 39 (5 + s)), .int (nI (5 + s)), .ref (D.1 39)])) rfl ?_
      refine Zm_ald C it_Lw_setUp hD 38 10 rfl (by decide) rfl (by decide) (by decide) rfl (j := b) (by omega) (v := .int ((vset (vset V 37 b (nI c)) 38 b (nI (0 + 2 * s))) 38 b)) rfl ?_
      have e1 : (vset (vset V 37 b (nI c)) 38 b (nI (0 + 2 * s))) 38 b = nI (0 + 2 * s) := by rw [vset_s, upd_s]
      rw [e1]
      refine Zr_callS C it_Lw_setUp rfl p_Lw_worth ml_Lw_34 [.int (nI c), .int (nI (0 + 2 * s))] ((by have z := ct_Lw_worth C.ev C.l c hc (0 + 2 * s) (by omega) (HM D (vset (vset V 37 b (nI c)) 38 b (nI (0 + 2 * s))) P PH) sz; rw [show wst c + (0 + 2 * s) % 2 * 10 = wr (pof s c false) from (pof_t s hs c hc false).2.2] at z; exact z)) rfl rfl ⟨by decide, by decide, by show k + 0 + 0 ≤ 120; omega, by show n + 0 + 0 ≤ 720; omega⟩ (Nat.le_of_ble_eq_true rfl) rfl ?_
      show Z E G (HM D (vset (vset V 37 b (nI c)) 38 b (nI (0 + 2 * s))) P PH) sz k n (232, [some (.ref (D.1 0)), some (.ref (D.1 37)), some (.ref (D.1 38)), some (.ref (D.1 39)), some (.ref (D.1 52)), some (.int (nI mm)), some (.int (nI i)), some (.int v), some (.int (nI s)), some (.int (nI 0)), some (.int (nI b)), some (.int (nI c)), some (.int (nI 1))], [.int (nI (wr (pof s c false))), .int ((vset (vset V 37 b (nI c)) 38 b (nI (0 + 2 * s))) 39 (5 + s)), .int (nI (5 + s)), .ref (D.1 39)])
      refine Z_run C it_Lw_setUp 1 (f2 := (233, [some (.ref (D.1 0)), some (.ref (D.1 37)), some (.ref (D.1 38)), some (.ref (D.1 39)), some (.ref (D.1 52)), some (.int (nI mm)), some (.int (nI i)), some (.int v), some (.int (nI s)), some (.int (nI 0)), some (.int (nI b)), some (.int (nI c)), some (.int (nI 1))], [.int ((vset (vset V 37 b (nI c)) 38 b (nI (0 + 2 * s))) 39 (5 + s) + nI (wr (pof s c false))), .int (nI (5 + s)), .ref (D.1 39)])) rfl ?_
      refine Zm_ast C it_Lw_setUp hD 39 10 rfl (by first | decide | exact isB_k hb | omega) rfl (by decide) rfl (j := 5 + s) (by omega) trivial rfl ?_
      refine Z_run C it_Lw_setUp 5 (f2 := (243, [some (.ref (D.1 0)), some (.ref (D.1 37)), some (.ref (D.1 38)), some (.ref (D.1 39)), some (.ref (D.1 52)), some (.int (nI mm)), some (.int (nI i)), some (.int v), some (.int (nI s)), some (.int (nI 0)), some (.int (nI b)), some (.int (nI c)), some (.int (nI 1))], [.int (nI c), .int (nI b), .int (nI s), .int (nI 0), .ref (D.1 0)])) rfl ?_
      obtain ⟨V2, eV2⟩ : ∃ V2 : Nat → Nat → Int32, (vset (vset (vset V 37 b (nI c)) 38 b (nI (0 + 2 * s))) 39 (5 + s) ((vset (vset V 37 b (nI c)) 38 b (nI (0 + 2 * s))) 39 (5 + s) + nI (wr (pof s c false)))) = V2 := ⟨_, rfl⟩
      have g37 : V2 37 = upd (V 37) b (nI c) := by rw [← eV2]; rfl
      have g38 : V2 38 = upd (V 38) b (nI (0 + 2 * s)) := by rw [← eV2]; rfl
      have g39 : V2 39 = upd (V 39) (5 + s) (V 39 (5 + s) + nI (wr (pof s c false))) := by rw [← eV2]; rfl
      have gc : ∀ c, c ≤ 33 → V2 c = V c := fun c h9 => by rw [← eV2, vset_n (by omega), vset_n (by omega), vset_n (by omega)]
      rw [eV2]
      have hG2 := GS_fr hS.1 gc (fun _ _ => rfl)
      refine Z_callSX C it_Lw_setUp rfl p_Lw_puts ml_Lw_125 [.ref (D.1 0), .int (nI 0), .int (nI s), .int (nI b), .int (nI c)] (gs_put C.ev C.l hD hG2 s hs b hb c hc hc0 false hac) rfl rfl ⟨by decide, by decide, by show k + 0 + 6 ≤ 120; omega, by show n + 0 + 36 ≤ 720; omega⟩ (Nat.le_of_ble_eq_true rfl) rfl (fun v h3 sz3 hO => ?_) (fun X h3 sz3 hO => by cases hO.1)
      obtain ⟨e1, e2, V3, P3, rfl, hG3, hV3, hP3, h4, h4b, h5⟩ := hO
      rw [e2]
      cases e1
      have hS3 := SU_put hS hs hb hc hc0 hb0 hi hG3 (by rw [hV3 37 (by decide)]; exact g37) (by rw [hV3 38 (by decide)]; exact g38) (by rw [hV3 39 (by decide)]; exact g39) (by rw [h4, gc 4 (by decide)]) (by rw [h4b, gc 4 (by decide)]) (by rw [h5, gc 5 (by decide)])
      have hLB3 := LB_of hG3
      show Z E G (HM D V3 P3 PH) sz (k + 6) (n + 36) (246, [some (.ref (D.1 0)), some (.ref (D.1 37)), some (.ref (D.1 38)), some (.ref (D.1 39)), some (.ref (D.1 52)), some (.int (nI mm)), some (.int (nI i)), some (.int v), some (.int (nI s)), some (.int (nI 0)), some (.int (nI b)), some (.int (nI c)), some (.int (nI 1))], [.int (nI (cnt (fun k => hld (plF F b (pof s c false)) k s) 36))])
      refine Z_run C it_Lw_setUp 1 (f2 := (248, [some (.ref (D.1 0)), some (.ref (D.1 37)), some (.ref (D.1 38)), some (.ref (D.1 39)), some (.ref (D.1 52)), some (.int (nI mm)), some (.int (nI i)), some (.int v), some (.int (nI s)), some (.int (nI 0)), some (.int (nI b)), some (.int (nI c)), some (.int (nI 1))], [.int (nI 1), .int (nI (cnt (fun k => hld (plF F b (pof s c false)) k s) 36))])) rfl ?_
      refine Z_br C it_Lw_setUp rfl rfl (fun hc3 => ?_) (fun hc3 => ?_)
      · exact absurd hc3 (by decide)
      · skip
        refine Z_run C it_Lw_setUp 3 (f2 := (255, [some (.ref (D.1 0)), some (.ref (D.1 37)), some (.ref (D.1 38)), some (.ref (D.1 39)), some (.ref (D.1 52)), some (.int (nI mm)), some (.int (nI i)), some (.int v), some (.int (nI s)), some (.int (nI 0)), some (.int (nI b)), some (.int (nI c)), some (.int (nI 1))], [.int (nI s), .ref (D.1 38), .ref (D.1 37), .int (nI (cnt (fun k => hld (plF F b (pof s c false)) k s) 36))])) rfl ?_
        refine Zr_callS C it_Lw_setUp rfl p_Lw_pieces ml_Lw_123 [.ref (D.1 37), .ref (D.1 38), .int (nI s)] (ct_Lw_pieces C.ev C.l (plF F b (pof s c false)) _ _ hS3.2.1 (HM D V3 P3 PH) _ _ (LB_p hD hLB3) (LB_q hD hLB3) s (by omega) _) rfl rfl ⟨by decide, by decide, by show k + 6 + 0 ≤ 120; omega, by show n + 36 + 0 ≤ 720; omega⟩ (Nat.le_of_ble_eq_true rfl) rfl ?_
        show Z E G (HM D V3 P3 PH) sz (k + 6) (n + 36) (258, [some (.ref (D.1 0)), some (.ref (D.1 37)), some (.ref (D.1 38)), some (.ref (D.1 39)), some (.ref (D.1 52)), some (.int (nI mm)), some (.int (nI i)), some (.int v), some (.int (nI s)), some (.int (nI 0)), some (.int (nI b)), some (.int (nI c)), some (.int (nI 1))], [.int (nI (cnt (fun k => hld (plF F b (pof s c false)) k s) 36)), .int (nI (cnt (fun k => hld (plF F b (pof s c false)) k s) 36))])
        refine Z_run C it_Lw_setUp 1 (f2 := (263, [some (.ref (D.1 0)), some (.ref (D.1 37)), some (.ref (D.1 38)), some (.ref (D.1 39)), some (.ref (D.1 52)), some (.int (nI mm)), some (.int (nI i)), some (.int v), some (.int (nI s)), some (.int (nI 0)), some (.int (nI b)), some (.int (nI c)), some (.int (nI 1))], [.int (nI (cnt (fun k => hld (plF F b (pof s c false)) k s) 36)), .int (nI (cnt (fun k => hld (plF F b (pof s c false)) k s) 36))])) rfl ?_
        refine Z_br C it_Lw_setUp rfl rfl (fun hc4 => ?_) (fun hc4 => ?_)
        · skip
          refine Z_sub (ls2 := [some (.ref (D.1 0)), some (.ref (D.1 37)), some (.ref (D.1 38)), some (.ref (D.1 39)), some (.ref (D.1 52)), some (.int (nI mm)), some (.int (nI i)), none, none, none, none, none, none]) ⟨rfl, rfl, rfl, rfl, rfl, rfl, rfl, trivial⟩ ?_
          exact kk V3 P3 _ hS3
        · exact absurd (rfl) hc4
    · exact absurd rfl hc2
set_option maxRecDepth 20000 in
theorem su_186_pn {E : zE} {G : zG} {D : zD} (hD : zDok E D) (hL : D.2.2.1 ≤ 260) {PH : aH} {sz : Nat} (C : zCx E G c_Lw_setUp 13 y_Lw_setUp.cls y_Lw_setUp.name (some .boolean) rm_Lw_setUp) (q : zEndX E G (zSU D PH sz) rm_Lw_setUp.cells rm_Lw_setUp.slots) {V : Nat → Nat → Int32} {P : Nat → Nat → Value} {F : Nat → Nat} {mm i k n : Nat} (hS : SU D V P PH sz F i) (hk : k + 6 ≤ 120) (hn : n + 36 ≤ 720) {v : Int32} {s b c : Nat} (hs : s < 2) (hb : b < 36) (hc : c < 32) (hc0 : 1 ≤ c) (hi : i < 2 → s = i ∧ false = true) (hac : acc_ [] F s b false = false) (h2i : 2 ≤ i) (kk : ∀ (V2 : Nat → Nat → Int32) (P2 : Nat → Nat → Value) (F2 : Nat → Nat), SU D V2 P2 PH sz F2 (i + 1) → Z E G (HM D V2 P2 PH) sz (k + 6) (n + 36) (268, [some (.ref (D.1 0)), some (.ref (D.1 37)), some (.ref (D.1 38)), some (.ref (D.1 39)), some (.ref (D.1 52)), some (.int (nI mm)), some (.int (nI i)), none, none, none, none, none, none], [])) : Z E G (HM D V P PH) sz k n (186, [some (.ref (D.1 0)), some (.ref (D.1 37)), some (.ref (D.1 38)), some (.ref (D.1 39)), some (.ref (D.1 52)), some (.int (nI mm)), some (.int (nI i)), some (.int v), some (.int (nI s)), some (.int (nI 0)), some (.int (nI b)), some (.int (nI c)), some (.int (nI 0))], []) := by
  have hpq := hS.2.1
  have hF := hpq.1
  have hLB := LB_of hS.1
  refine Z_run C it_Lw_setUp 1 (f2 := (188, [some (.ref (D.1 0)), some (.ref (D.1 37)), some (.ref (D.1 38)), some (.ref (D.1 39)), some (.ref (D.1 52)), some (.int (nI mm)), some (.int (nI i)), some (.int v), some (.int (nI s)), some (.int (nI 0)), some (.int (nI b)), some (.int (nI c)), some (.int (nI 0))], [.int (nI 0)])) rfl ?_
  refine Z_br C it_Lw_setUp rfl rfl (fun hc1 => ?_) (fun hc1 => ?_)
  · skip
    refine Z_run C it_Lw_setUp 5 (f2 := (243, [some (.ref (D.1 0)), some (.ref (D.1 37)), some (.ref (D.1 38)), some (.ref (D.1 39)), some (.ref (D.1 52)), some (.int (nI mm)), some (.int (nI i)), some (.int v), some (.int (nI s)), some (.int (nI 0)), some (.int (nI b)), some (.int (nI c)), some (.int (nI 0))], [.int (nI c), .int (nI b), .int (nI s), .int (nI 0), .ref (D.1 0)])) rfl ?_
    refine Z_callSX C it_Lw_setUp rfl p_Lw_puts ml_Lw_125 [.ref (D.1 0), .int (nI 0), .int (nI s), .int (nI b), .int (nI c)] (gs_putx C.ev C.l hD hS.1 s hs b hb c hc hc0 false hac) rfl rfl ⟨by decide, by decide, by show k + 0 + 6 ≤ 120; omega, by show n + 0 + 36 ≤ 720; omega⟩ (Nat.le_of_ble_eq_true rfl) rfl (fun v h3 sz3 hO => ?_) (fun X h3 sz3 hO => by cases hO.1)
    obtain ⟨e1, rfl, e2⟩ := hO
    rw [e2]
    cases e1
    show Z E G (HM D V P PH) sz (k + 6) (n + 36) (246, [some (.ref (D.1 0)), some (.ref (D.1 37)), some (.ref (D.1 38)), some (.ref (D.1 39)), some (.ref (D.1 52)), some (.int (nI mm)), some (.int (nI i)), some (.int v), some (.int (nI s)), some (.int (nI 0)), some (.int (nI b)), some (.int (nI c)), some (.int (nI 0))], [.int ((-103))])
    refine Z_run C it_Lw_setUp 1 (f2 := (248, [some (.ref (D.1 0)), some (.ref (D.1 37)), some (.ref (D.1 38)), some (.ref (D.1 39)), some (.ref (D.1 52)), some (.int (nI mm)), some (.int (nI i)), some (.int v), some (.int (nI s)), some (.int (nI 0)), some (.int (nI b)), some (.int (nI c)), some (.int (nI 0))], [.int (nI 0), .int ((-103))])) rfl ?_
    refine Z_br C it_Lw_setUp rfl rfl (fun hc2 => ?_) (fun hc2 => ?_)
    · skip
      refine Z_run C it_Lw_setUp 1 (f2 := (263, [some (.ref (D.1 0)), some (.ref (D.1 37)), some (.ref (D.1 38)), some (.ref (D.1 39)), some (.ref (D.1 52)), some (.int (nI mm)), some (.int (nI i)), some (.int v), some (.int (nI s)), some (.int (nI 0)), some (.int (nI b)), some (.int (nI c)), some (.int (nI 0))], [.int ((-103)), .int ((-103))])) rfl ?_
      refine Z_br C it_Lw_setUp rfl rfl (fun hc3 => ?_) (fun hc3 => ?_)
      · skip
        refine Z_sub (ls2 := [some (.ref (D.1 0)), some (.ref (D.1 37)), some (.ref (D.1 38)), some (.ref (D.1 39)), some (.ref (D.1 52)), some (.int (nI mm)), some (.int (nI i)), none, none, none, none, none, none]) ⟨rfl, rfl, rfl, rfl, rfl, rfl, rfl, trivial⟩ ?_
        exact kk V P F (SU_no hS h2i)
      · exact absurd (rfl) hc3
    · exact absurd rfl hc2
  · exact absurd rfl hc1
set_option maxRecDepth 20000 in
theorem su_149_l {E : zE} {G : zG} {D : zD} (hD : zDok E D) (hL : D.2.2.1 ≤ 260) {PH : aH} {sz : Nat} (C : zCx E G c_Lw_setUp 13 y_Lw_setUp.cls y_Lw_setUp.name (some .boolean) rm_Lw_setUp) (q : zEndX E G (zSU D PH sz) rm_Lw_setUp.cells rm_Lw_setUp.slots) {V : Nat → Nat → Int32} {P : Nat → Nat → Value} {F : Nat → Nat} {mm i k n : Nat} (hS : SU D V P PH sz F i) (hi31 : i < 100) (hk : k + 6 ≤ 120) (hn : n + 36 ≤ 720) {v : Int32} {s b c : Nat} (hs : s < 2) (hb : b < 36) (hc : c < 32) (hc0 : 1 ≤ c) (hi : i < 2 → s = i ∧ true = true) (hfree : i < 2 → F b = 0) (kk : ∀ (V2 : Nat → Nat → Int32) (P2 : Nat → Nat → Value) (F2 : Nat → Nat), SU D V2 P2 PH sz F2 (i + 1) → Z E G (HM D V2 P2 PH) sz (k + 6) (n + 36) (268, [some (.ref (D.1 0)), some (.ref (D.1 37)), some (.ref (D.1 38)), some (.ref (D.1 39)), some (.ref (D.1 52)), some (.int (nI mm)), some (.int (nI i)), none, none, none, none, none, none], [])) : Z E G (HM D V P PH) sz k n (149, [some (.ref (D.1 0)), some (.ref (D.1 37)), some (.ref (D.1 38)), some (.ref (D.1 39)), some (.ref (D.1 52)), some (.int (nI mm)), some (.int (nI i)), some (.int v), some (.int (nI s)), some (.int (nI 1)), some (.int (nI b)), some (.int (nI c)), none], []) := by
  have hpq := hS.2.1
  have hF := hpq.1
  have hLB := LB_of hS.1
  have hcn : cnt (fun k => hld F k s) 36 ≤ 36 := cnt_le
  refine Z_run C it_Lw_setUp 2 (f2 := (152, [some (.ref (D.1 0)), some (.ref (D.1 37)), some (.ref (D.1 38)), some (.ref (D.1 39)), some (.ref (D.1 52)), some (.int (nI mm)), some (.int (nI i)), some (.int v), some (.int (nI s)), some (.int (nI 1)), some (.int (nI b)), some (.int (nI c)), none], [.int (nI b), .ref (D.1 37)])) rfl ?_
  refine Z_ald C it_Lw_setUp (tg := 10) rfl (LB_p hD hLB) (by decide) rfl (j := b) (by omega) (by decide) (v := .int (nI (stp (F b)))) (congrArg Value.int (hpq.2 b (by omega)).1) ?_
  refine Z_br C it_Lw_setUp rfl rfl (fun hc1 => ?_) (fun hc1 => ?_)
  · have hz : ¬ F b = 0 := fun z => hc1 (by rw [z]; rfl)
    refine Z_run C it_Lw_setUp 2 (f2 := (186, [some (.ref (D.1 0)), some (.ref (D.1 37)), some (.ref (D.1 38)), some (.ref (D.1 39)), some (.ref (D.1 52)), some (.int (nI mm)), some (.int (nI i)), some (.int v), some (.int (nI s)), some (.int (nI 1)), some (.int (nI b)), some (.int (nI c)), some (.int (nI 0))], [])) rfl ?_
    have h2i : 2 ≤ i := by
      by_cases z : 2 ≤ i
      · exact z
      · exfalso
        have z0 := hfree (by omega)
        obtain ⟨⟨c0, z1⟩, z2⟩ := hS.2.2.2.1 (by omega)
        have z3 : cnt (fun k => hld F k s) 36 ≤ 1 := cnt_few (c0 := c0) (fun x hx hxc => by unfold hld; rw [z1 x hx hxc]; rfl)
        first | omega | exact hz z0 | (have := hi (by omega); simp at this)
    have hac : acc_ [] F s b true = false := by rw [SU_acc hS hs hi]; first | (simp [hz]; done) | (simp [h2i]; done) | (have : ¬ cnt (fun k => hld F k s) 36 < 8 := (by omega); simp [this])
    exact su_186_ln hD hL C q hS hk hn hs hb hc hc0 hi hac h2i kk
  · have hb0 : F b = 0 := (hpq.2 b hb).2.1 ((nI_e0 (by have := stp_lt (F b); omega)).mp (Classical.not_not.mp hc1))
    refine Z_run C it_Lw_setUp 3 (f2 := (160, [some (.ref (D.1 0)), some (.ref (D.1 37)), some (.ref (D.1 38)), some (.ref (D.1 39)), some (.ref (D.1 52)), some (.int (nI mm)), some (.int (nI i)), some (.int v), some (.int (nI s)), some (.int (nI 1)), some (.int (nI b)), some (.int (nI c)), none], [.int (nI s), .ref (D.1 38), .ref (D.1 37)])) rfl ?_
    refine Zr_callS C it_Lw_setUp rfl p_Lw_pieces ml_Lw_123 [.ref (D.1 37), .ref (D.1 38), .int (nI s)] (ct_Lw_pieces C.ev C.l F _ _ hS.2.1 (HM D V P PH) _ _ (LB_p hD hLB) (LB_q hD hLB) s (by omega) _) rfl rfl ⟨by decide, by decide, by show k + 0 + 0 ≤ 120; omega, by show n + 0 + 0 ≤ 720; omega⟩ (Nat.le_of_ble_eq_true rfl) rfl ?_
    show Z E G (HM D V P PH) sz k n (163, [some (.ref (D.1 0)), some (.ref (D.1 37)), some (.ref (D.1 38)), some (.ref (D.1 39)), some (.ref (D.1 52)), some (.int (nI mm)), some (.int (nI i)), some (.int v), some (.int (nI s)), some (.int (nI 1)), some (.int (nI b)), some (.int (nI c)), none], [.int (nI (cnt (fun k => hld F k s) 36))])
    refine Z_run C it_Lw_setUp 1 (f2 := (165, [some (.ref (D.1 0)), some (.ref (D.1 37)), some (.ref (D.1 38)), some (.ref (D.1 39)), some (.ref (D.1 52)), some (.int (nI mm)), some (.int (nI i)), some (.int v), some (.int (nI s)), some (.int (nI 1)), some (.int (nI b)), some (.int (nI c)), none], [.int (nI 8), .int (nI (cnt (fun k => hld F k s) 36))])) rfl ?_
    refine Z_br C it_Lw_setUp rfl rfl (fun hc2 => ?_) (fun hc2 => ?_)
    · replace hc2 := (nI_leI (a := 8) (b := cnt (fun k => hld F k s) 36) (by omega) (by omega)).mp hc2
      refine Z_run C it_Lw_setUp 2 (f2 := (186, [some (.ref (D.1 0)), some (.ref (D.1 37)), some (.ref (D.1 38)), some (.ref (D.1 39)), some (.ref (D.1 52)), some (.int (nI mm)), some (.int (nI i)), some (.int v), some (.int (nI s)), some (.int (nI 1)), some (.int (nI b)), some (.int (nI c)), some (.int (nI 0))], [])) rfl ?_
      have h2i : 2 ≤ i := by
        by_cases z : 2 ≤ i
        · exact z
        · exfalso
          have z0 := hfree (by omega)
          obtain ⟨⟨c0, z1⟩, z2⟩ := hS.2.2.2.1 (by omega)
          have z3 : cnt (fun k => hld F k s) 36 ≤ 1 := cnt_few (c0 := c0) (fun x hx hxc => by unfold hld; rw [z1 x hx hxc]; rfl)
          first | omega | exact hz z0 | (have := hi (by omega); simp at this)
      have hac : acc_ [] F s b true = false := by rw [SU_acc hS hs hi]; first | (simp [hz]; done) | (simp [h2i]; done) | (have : ¬ cnt (fun k => hld F k s) 36 < 8 := (by omega); simp [this])
      exact su_186_ln hD hL C q hS hk hn hs hb hc hc0 hi hac h2i kk
    · replace hc2 : ¬ _ := fun z9 => hc2 ((nI_leI (a := 8) (b := cnt (fun k => hld F k s) 36) (by omega) (by omega)).mpr z9)
      refine Z_run C it_Lw_setUp 1 (f2 := (170, [some (.ref (D.1 0)), some (.ref (D.1 37)), some (.ref (D.1 38)), some (.ref (D.1 39)), some (.ref (D.1 52)), some (.int (nI mm)), some (.int (nI i)), some (.int v), some (.int (nI s)), some (.int (nI 1)), some (.int (nI b)), some (.int (nI c)), none], [.int (nI 1)])) rfl ?_
      refine Z_br C it_Lw_setUp rfl rfl (fun hc3 => ?_) (fun hc3 => ?_)
      · exact absurd hc3 (by decide)
      · skip
        refine Z_run C it_Lw_setUp 2 (f2 := (176, [some (.ref (D.1 0)), some (.ref (D.1 37)), some (.ref (D.1 38)), some (.ref (D.1 39)), some (.ref (D.1 52)), some (.int (nI mm)), some (.int (nI i)), some (.int v), some (.int (nI s)), some (.int (nI 1)), some (.int (nI b)), some (.int (nI c)), none], [.int (nI 2), .int (nI i)])) rfl ?_
        refine Z_br C it_Lw_setUp rfl rfl (fun hc4 => ?_) (fun hc4 => ?_)
        · replace hc4 := (nI_leI (a := 2) (b := i) (by omega) (by omega)).mp hc4
          refine Z_run C it_Lw_setUp 2 (f2 := (186, [some (.ref (D.1 0)), some (.ref (D.1 37)), some (.ref (D.1 38)), some (.ref (D.1 39)), some (.ref (D.1 52)), some (.int (nI mm)), some (.int (nI i)), some (.int v), some (.int (nI s)), some (.int (nI 1)), some (.int (nI b)), some (.int (nI c)), some (.int (nI 0))], [])) rfl ?_
          have h2i : 2 ≤ i := by
            by_cases z : 2 ≤ i
            · exact z
            · exfalso
              have z0 := hfree (by omega)
              obtain ⟨⟨c0, z1⟩, z2⟩ := hS.2.2.2.1 (by omega)
              have z3 : cnt (fun k => hld F k s) 36 ≤ 1 := cnt_few (c0 := c0) (fun x hx hxc => by unfold hld; rw [z1 x hx hxc]; rfl)
              first | omega | exact hz z0 | (have := hi (by omega); simp at this)
          have hac : acc_ [] F s b true = false := by rw [SU_acc hS hs hi]; first | (simp [hz]; done) | (simp [h2i]; done) | (have : ¬ cnt (fun k => hld F k s) 36 < 8 := (by omega); simp [this])
          exact su_186_ln hD hL C q hS hk hn hs hb hc hc0 hi hac h2i kk
        · replace hc4 : ¬ _ := fun z9 => hc4 ((nI_leI (a := 2) (b := i) (by omega) (by omega)).mpr z9)
          refine Z_run C it_Lw_setUp 3 (f2 := (186, [some (.ref (D.1 0)), some (.ref (D.1 37)), some (.ref (D.1 38)), some (.ref (D.1 39)), some (.ref (D.1 52)), some (.int (nI mm)), some (.int (nI i)), some (.int v), some (.int (nI s)), some (.int (nI 1)), some (.int (nI b)), some (.int (nI c)), some (.int (nI 1))], [])) rfl ?_
          have hac : acc_ [] F s b true = true := by rw [SU_acc hS hs hi, hb0]; simp <;> omega
          exact su_186_ly hD hL C q hS hk hn hs hb hc hc0 hi hac hb0 kk
set_option maxRecDepth 20000 in
theorem su_149_p {E : zE} {G : zG} {D : zD} (hD : zDok E D) (hL : D.2.2.1 ≤ 260) {PH : aH} {sz : Nat} (C : zCx E G c_Lw_setUp 13 y_Lw_setUp.cls y_Lw_setUp.name (some .boolean) rm_Lw_setUp) (q : zEndX E G (zSU D PH sz) rm_Lw_setUp.cells rm_Lw_setUp.slots) {V : Nat → Nat → Int32} {P : Nat → Nat → Value} {F : Nat → Nat} {mm i k n : Nat} (hS : SU D V P PH sz F i) (hi31 : i < 100) (hk : k + 6 ≤ 120) (hn : n + 36 ≤ 720) {v : Int32} {s b c : Nat} (hs : s < 2) (hb : b < 36) (hc : c < 32) (hc0 : 1 ≤ c) (hi : i < 2 → s = i ∧ false = true) (hfree : i < 2 → F b = 0) (kk : ∀ (V2 : Nat → Nat → Int32) (P2 : Nat → Nat → Value) (F2 : Nat → Nat), SU D V2 P2 PH sz F2 (i + 1) → Z E G (HM D V2 P2 PH) sz (k + 6) (n + 36) (268, [some (.ref (D.1 0)), some (.ref (D.1 37)), some (.ref (D.1 38)), some (.ref (D.1 39)), some (.ref (D.1 52)), some (.int (nI mm)), some (.int (nI i)), none, none, none, none, none, none], [])) : Z E G (HM D V P PH) sz k n (149, [some (.ref (D.1 0)), some (.ref (D.1 37)), some (.ref (D.1 38)), some (.ref (D.1 39)), some (.ref (D.1 52)), some (.int (nI mm)), some (.int (nI i)), some (.int v), some (.int (nI s)), some (.int (nI 0)), some (.int (nI b)), some (.int (nI c)), none], []) := by
  have hpq := hS.2.1
  have hF := hpq.1
  have hLB := LB_of hS.1
  have hcn : cnt (fun k => hld F k s) 36 ≤ 36 := cnt_le
  refine Z_run C it_Lw_setUp 2 (f2 := (152, [some (.ref (D.1 0)), some (.ref (D.1 37)), some (.ref (D.1 38)), some (.ref (D.1 39)), some (.ref (D.1 52)), some (.int (nI mm)), some (.int (nI i)), some (.int v), some (.int (nI s)), some (.int (nI 0)), some (.int (nI b)), some (.int (nI c)), none], [.int (nI b), .ref (D.1 37)])) rfl ?_
  refine Z_ald C it_Lw_setUp (tg := 10) rfl (LB_p hD hLB) (by decide) rfl (j := b) (by omega) (by decide) (v := .int (nI (stp (F b)))) (congrArg Value.int (hpq.2 b (by omega)).1) ?_
  refine Z_br C it_Lw_setUp rfl rfl (fun hc1 => ?_) (fun hc1 => ?_)
  · have hz : ¬ F b = 0 := fun z => hc1 (by rw [z]; rfl)
    refine Z_run C it_Lw_setUp 2 (f2 := (186, [some (.ref (D.1 0)), some (.ref (D.1 37)), some (.ref (D.1 38)), some (.ref (D.1 39)), some (.ref (D.1 52)), some (.int (nI mm)), some (.int (nI i)), some (.int v), some (.int (nI s)), some (.int (nI 0)), some (.int (nI b)), some (.int (nI c)), some (.int (nI 0))], [])) rfl ?_
    have h2i : 2 ≤ i := by
      by_cases z : 2 ≤ i
      · exact z
      · exfalso
        have z0 := hfree (by omega)
        obtain ⟨⟨c0, z1⟩, z2⟩ := hS.2.2.2.1 (by omega)
        have z3 : cnt (fun k => hld F k s) 36 ≤ 1 := cnt_few (c0 := c0) (fun x hx hxc => by unfold hld; rw [z1 x hx hxc]; rfl)
        first | omega | exact hz z0 | (have := hi (by omega); simp at this)
    have hac : acc_ [] F s b false = false := by rw [SU_acc hS hs hi]; first | (simp [hz]; done) | (simp [h2i]; done) | (have : ¬ cnt (fun k => hld F k s) 36 < 8 := (by omega); simp [this])
    exact su_186_pn hD hL C q hS hk hn hs hb hc hc0 hi hac h2i kk
  · have hb0 : F b = 0 := (hpq.2 b hb).2.1 ((nI_e0 (by have := stp_lt (F b); omega)).mp (Classical.not_not.mp hc1))
    refine Z_run C it_Lw_setUp 3 (f2 := (160, [some (.ref (D.1 0)), some (.ref (D.1 37)), some (.ref (D.1 38)), some (.ref (D.1 39)), some (.ref (D.1 52)), some (.int (nI mm)), some (.int (nI i)), some (.int v), some (.int (nI s)), some (.int (nI 0)), some (.int (nI b)), some (.int (nI c)), none], [.int (nI s), .ref (D.1 38), .ref (D.1 37)])) rfl ?_
    refine Zr_callS C it_Lw_setUp rfl p_Lw_pieces ml_Lw_123 [.ref (D.1 37), .ref (D.1 38), .int (nI s)] (ct_Lw_pieces C.ev C.l F _ _ hS.2.1 (HM D V P PH) _ _ (LB_p hD hLB) (LB_q hD hLB) s (by omega) _) rfl rfl ⟨by decide, by decide, by show k + 0 + 0 ≤ 120; omega, by show n + 0 + 0 ≤ 720; omega⟩ (Nat.le_of_ble_eq_true rfl) rfl ?_
    show Z E G (HM D V P PH) sz k n (163, [some (.ref (D.1 0)), some (.ref (D.1 37)), some (.ref (D.1 38)), some (.ref (D.1 39)), some (.ref (D.1 52)), some (.int (nI mm)), some (.int (nI i)), some (.int v), some (.int (nI s)), some (.int (nI 0)), some (.int (nI b)), some (.int (nI c)), none], [.int (nI (cnt (fun k => hld F k s) 36))])
    refine Z_run C it_Lw_setUp 1 (f2 := (165, [some (.ref (D.1 0)), some (.ref (D.1 37)), some (.ref (D.1 38)), some (.ref (D.1 39)), some (.ref (D.1 52)), some (.int (nI mm)), some (.int (nI i)), some (.int v), some (.int (nI s)), some (.int (nI 0)), some (.int (nI b)), some (.int (nI c)), none], [.int (nI 8), .int (nI (cnt (fun k => hld F k s) 36))])) rfl ?_
    refine Z_br C it_Lw_setUp rfl rfl (fun hc2 => ?_) (fun hc2 => ?_)
    · replace hc2 := (nI_leI (a := 8) (b := cnt (fun k => hld F k s) 36) (by omega) (by omega)).mp hc2
      refine Z_run C it_Lw_setUp 2 (f2 := (186, [some (.ref (D.1 0)), some (.ref (D.1 37)), some (.ref (D.1 38)), some (.ref (D.1 39)), some (.ref (D.1 52)), some (.int (nI mm)), some (.int (nI i)), some (.int v), some (.int (nI s)), some (.int (nI 0)), some (.int (nI b)), some (.int (nI c)), some (.int (nI 0))], [])) rfl ?_
      have h2i : 2 ≤ i := by
        by_cases z : 2 ≤ i
        · exact z
        · exfalso
          have z0 := hfree (by omega)
          obtain ⟨⟨c0, z1⟩, z2⟩ := hS.2.2.2.1 (by omega)
          have z3 : cnt (fun k => hld F k s) 36 ≤ 1 := cnt_few (c0 := c0) (fun x hx hxc => by unfold hld; rw [z1 x hx hxc]; rfl)
          first | omega | exact hz z0 | (have := hi (by omega); simp at this)
      have hac : acc_ [] F s b false = false := by rw [SU_acc hS hs hi]; first | (simp [hz]; done) | (simp [h2i]; done) | (have : ¬ cnt (fun k => hld F k s) 36 < 8 := (by omega); simp [this])
      exact su_186_pn hD hL C q hS hk hn hs hb hc hc0 hi hac h2i kk
    · replace hc2 : ¬ _ := fun z9 => hc2 ((nI_leI (a := 8) (b := cnt (fun k => hld F k s) 36) (by omega) (by omega)).mpr z9)
      refine Z_run C it_Lw_setUp 1 (f2 := (170, [some (.ref (D.1 0)), some (.ref (D.1 37)), some (.ref (D.1 38)), some (.ref (D.1 39)), some (.ref (D.1 52)), some (.int (nI mm)), some (.int (nI i)), some (.int v), some (.int (nI s)), some (.int (nI 0)), some (.int (nI b)), some (.int (nI c)), none], [.int (nI 0)])) rfl ?_
      refine Z_br C it_Lw_setUp rfl rfl (fun hc3 => ?_) (fun hc3 => ?_)
      · skip
        refine Z_run C it_Lw_setUp 3 (f2 := (186, [some (.ref (D.1 0)), some (.ref (D.1 37)), some (.ref (D.1 38)), some (.ref (D.1 39)), some (.ref (D.1 52)), some (.int (nI mm)), some (.int (nI i)), some (.int v), some (.int (nI s)), some (.int (nI 0)), some (.int (nI b)), some (.int (nI c)), some (.int (nI 1))], [])) rfl ?_
        have hac : acc_ [] F s b false = true := by rw [SU_acc hS hs hi, hb0]; simp <;> omega
        exact su_186_py hD hL C q hS hk hn hs hb hc hc0 hi hac hb0 kk
      · exact absurd rfl hc3
set_option maxRecDepth 20000 in
theorem su_124e {E : zE} {G : zG} {D : zD} (hD : zDok E D) (hL : D.2.2.1 ≤ 260) {PH : aH} {sz : Nat} (C : zCx E G c_Lw_setUp 13 y_Lw_setUp.cls y_Lw_setUp.name (some .boolean) rm_Lw_setUp) (q : zEndX E G (zSU D PH sz) rm_Lw_setUp.cells rm_Lw_setUp.slots) {V : Nat → Nat → Int32} {P : Nat → Nat → Value} {F : Nat → Nat} {mm i k n : Nat} (hS : SU D V P PH sz F i) (hi31 : i < 100) (hk : k + 6 ≤ 120) (hn : n + 36 ≤ 720) {v x8 x9 : Int32} {c : Nat} {b : Nat} (hb : b < 36) (hfree : i < 2 → F b = 0) (kk : ∀ b, b < 36 → (i < 2 → F b = 0) → Z E G (HM D V P PH) sz k n (149, [some (.ref (D.1 0)), some (.ref (D.1 37)), some (.ref (D.1 38)), some (.ref (D.1 39)), some (.ref (D.1 52)), some (.int (nI mm)), some (.int (nI i)), some (.int v), some (.int x8), some (.int x9), some (.int (nI b)), some (.int (nI c)), none], [])) : Z E G (HM D V P PH) sz k n (124, [some (.ref (D.1 0)), some (.ref (D.1 37)), some (.ref (D.1 38)), some (.ref (D.1 39)), some (.ref (D.1 52)), some (.int (nI mm)), some (.int (nI i)), some (.int v), some (.int x8), some (.int x9), some (.int (nI b)), some (.int (nI c)), none], []) := by
  have hpq := hS.2.1
  have hF := hpq.1
  have hLB := LB_of hS.1
  refine Z_run C it_Lw_setUp 2 (f2 := (127, [some (.ref (D.1 0)), some (.ref (D.1 37)), some (.ref (D.1 38)), some (.ref (D.1 39)), some (.ref (D.1 52)), some (.int (nI mm)), some (.int (nI i)), some (.int v), some (.int x8), some (.int x9), some (.int (nI b)), some (.int (nI c)), none], [.int (nI 2), .int (nI i)])) rfl ?_
  refine Z_br C it_Lw_setUp rfl rfl (fun hc1 => ?_) (fun hc1 => ?_)
  · replace hc1 := (nI_leI (a := 2) (b := i) (by omega) (by omega)).mp hc1
    exact kk b hb (fun z => by first | assumption | omega)
  · replace hc1 : ¬ _ := fun z9 => hc1 ((nI_leI (a := 2) (b := i) (by omega) (by omega)).mpr z9)
    refine Z_run C it_Lw_setUp 2 (f2 := (133, [some (.ref (D.1 0)), some (.ref (D.1 37)), some (.ref (D.1 38)), some (.ref (D.1 39)), some (.ref (D.1 52)), some (.int (nI mm)), some (.int (nI i)), some (.int v), some (.int x8), some (.int x9), some (.int (nI b)), some (.int (nI c)), none], [.int (nI b), .ref (D.1 37)])) rfl ?_
    refine Z_ald C it_Lw_setUp (tg := 10) rfl (LB_p hD hLB) (by decide) rfl (j := b) (by omega) (by decide) (v := .int (nI (stp (F b)))) (congrArg Value.int (hpq.2 b (by omega)).1) ?_
    refine Z_br C it_Lw_setUp rfl rfl (fun hc2 => ?_) (fun hc2 => ?_)
    · have hb0 : F b = 0 := (hpq.2 b hb).2.1 ((nI_le0 (by have := stp_lt (F b); omega)).mp hc2)
      exact kk b hb (fun z => by first | assumption | omega)
    · have hz : ¬ F b = 0 := fun z => hc2 ((nI_le0 (by have := stp_lt (F b); omega)).mpr (by rw [z]; rfl))
      exact absurd (hfree (by omega)) hz
set_option maxRecDepth 20000 in
theorem su_124 {E : zE} {G : zG} {D : zD} (hD : zDok E D) (hL : D.2.2.1 ≤ 260) {PH : aH} {sz : Nat} (C : zCx E G c_Lw_setUp 13 y_Lw_setUp.cls y_Lw_setUp.name (some .boolean) rm_Lw_setUp) (q : zEndX E G (zSU D PH sz) rm_Lw_setUp.cells rm_Lw_setUp.slots) {V : Nat → Nat → Int32} {P : Nat → Nat → Value} {F : Nat → Nat} {mm i k n : Nat} (hS : SU D V P PH sz F i) (hi31 : i < 100) (hk : k + 6 ≤ 120) (hn : n + 36 ≤ 720) {v x8 x9 : Int32} {c : Nat} {b : Nat} (hb : b < 36) (kk : ∀ b, b < 36 → (i < 2 → F b = 0) → Z E G (HM D V P PH) sz k n (149, [some (.ref (D.1 0)), some (.ref (D.1 37)), some (.ref (D.1 38)), some (.ref (D.1 39)), some (.ref (D.1 52)), some (.int (nI mm)), some (.int (nI i)), some (.int v), some (.int x8), some (.int x9), some (.int (nI b)), some (.int (nI c)), none], [])) : Z E G (HM D V P PH) sz k n (124, [some (.ref (D.1 0)), some (.ref (D.1 37)), some (.ref (D.1 38)), some (.ref (D.1 39)), some (.ref (D.1 52)), some (.int (nI mm)), some (.int (nI i)), some (.int v), some (.int x8), some (.int x9), some (.int (nI b)), some (.int (nI c)), none], []) := by
  have hpq := hS.2.1
  have hF := hpq.1
  have hLB := LB_of hS.1
  refine Z_run C it_Lw_setUp 2 (f2 := (127, [some (.ref (D.1 0)), some (.ref (D.1 37)), some (.ref (D.1 38)), some (.ref (D.1 39)), some (.ref (D.1 52)), some (.int (nI mm)), some (.int (nI i)), some (.int v), some (.int x8), some (.int x9), some (.int (nI b)), some (.int (nI c)), none], [.int (nI 2), .int (nI i)])) rfl ?_
  refine Z_br C it_Lw_setUp rfl rfl (fun hc1 => ?_) (fun hc1 => ?_)
  · replace hc1 := (nI_leI (a := 2) (b := i) (by omega) (by omega)).mp hc1
    exact kk b hb (fun z => by first | assumption | omega)
  · replace hc1 : ¬ _ := fun z9 => hc1 ((nI_leI (a := 2) (b := i) (by omega) (by omega)).mpr z9)
    refine Z_run C it_Lw_setUp 2 (f2 := (133, [some (.ref (D.1 0)), some (.ref (D.1 37)), some (.ref (D.1 38)), some (.ref (D.1 39)), some (.ref (D.1 52)), some (.int (nI mm)), some (.int (nI i)), some (.int v), some (.int x8), some (.int x9), some (.int (nI b)), some (.int (nI c)), none], [.int (nI b), .ref (D.1 37)])) rfl ?_
    refine Z_ald C it_Lw_setUp (tg := 10) rfl (LB_p hD hLB) (by decide) rfl (j := b) (by omega) (by decide) (v := .int (nI (stp (F b)))) (congrArg Value.int (hpq.2 b (by omega)).1) ?_
    refine Z_br C it_Lw_setUp rfl rfl (fun hc2 => ?_) (fun hc2 => ?_)
    · have hb0 : F b = 0 := (hpq.2 b hb).2.1 ((nI_le0 (by have := stp_lt (F b); omega)).mp hc2)
      exact kk b hb (fun z => by first | assumption | omega)
    · have hz : ¬ F b = 0 := fun z => hc2 ((nI_le0 (by have := stp_lt (F b); omega)).mpr (by rw [z]; rfl))
      have hnx : F ((b + 1) % 36) = 0 := by
        obtain ⟨⟨c0, z1⟩, z2⟩ := hS.2.2.2.1 (by omega)
        have hbc : b = c0 := by
          by_cases e : b = c0
          · exact e
          · exact absurd (z1 b hb e) hz
        exact z1 _ (Nat.mod_lt _ (by decide)) (by omega)
      refine Z_run C it_Lw_setUp 3 (f2 := (141, [some (.ref (D.1 0)), some (.ref (D.1 37)), some (.ref (D.1 38)), some (.ref (D.1 39)), some (.ref (D.1 52)), some (.int (nI mm)), some (.int (nI i)), some (.int v), some (.int x8), some (.int x9), some (.int (nI b)), some (.int (nI c)), none], [.int (nI b + nI 1)])) rfl ?_
      rw [nI_add b 1]
      refine Z_run C it_Lw_setUp 2 (f2 := (144, [some (.ref (D.1 0)), some (.ref (D.1 37)), some (.ref (D.1 38)), some (.ref (D.1 39)), some (.ref (D.1 52)), some (.int (nI mm)), some (.int (nI i)), some (.int v), some (.int x8), some (.int x9), some (.int (nI b)), some (.int (nI c)), none], [.int (nI (b + 1) % nI 36)])) rfl ?_
      rw [nI_mod (a := b + 1) (d := 36) (by omega) (by omega) (by omega)]
      refine Z_run C it_Lw_setUp 2 (f2 := (124, [some (.ref (D.1 0)), some (.ref (D.1 37)), some (.ref (D.1 38)), some (.ref (D.1 39)), some (.ref (D.1 52)), some (.int (nI mm)), some (.int (nI i)), some (.int v), some (.int x8), some (.int x9), some (.int (nI ((b + 1) % 36))), some (.int (nI c)), none], [])) rfl ?_
      exact su_124e hD hL C q hS hi31 hk hn (b := (b + 1) % 36) (Nat.mod_lt _ (by decide)) (fun z => hnx) kk
set_option maxRecDepth 20000 in
theorem su_26 {E : zE} {G : zG} {D : zD} (hD : zDok E D) (hL : D.2.2.1 ≤ 260) {PH : aH} {sz : Nat} (C : zCx E G c_Lw_setUp 13 y_Lw_setUp.cls y_Lw_setUp.name (some .boolean) rm_Lw_setUp) (q : zEndX E G (zSU D PH sz) rm_Lw_setUp.cells rm_Lw_setUp.slots) {V : Nat → Nat → Int32} {P : Nat → Nat → Value} {F : Nat → Nat} {mm i k n : Nat} (hS : SU D V P PH sz F i) (hi31 : i < 100) (hk : k + 6 ≤ 120) (hn : n + 36 ≤ 720) (kk : ∀ (V2 : Nat → Nat → Int32) (P2 : Nat → Nat → Value) (F2 : Nat → Nat), SU D V2 P2 PH sz F2 (i + 1) → Z E G (HM D V2 P2 PH) sz (k + 6) (n + 36) (268, [some (.ref (D.1 0)), some (.ref (D.1 37)), some (.ref (D.1 38)), some (.ref (D.1 39)), some (.ref (D.1 52)), some (.int (nI mm)), some (.int (nI i)), none, none, none, none, none, none], [])) : Z E G (HM D V P PH) sz k n (26, [some (.ref (D.1 0)), some (.ref (D.1 37)), some (.ref (D.1 38)), some (.ref (D.1 39)), some (.ref (D.1 52)), some (.int (nI mm)), some (.int (nI i)), none, none, none, none, none, none], []) := by
  have hpq := hS.2.1
  have hF := hpq.1
  have hLB := LB_of hS.1
  refine Z_run C it_Lw_setUp 4 (f2 := (33, [some (.ref (D.1 0)), some (.ref (D.1 37)), some (.ref (D.1 38)), some (.ref (D.1 39)), some (.ref (D.1 52)), some (.int (nI mm)), some (.int (nI i)), none, none, none, none, none, none], [.int (nI 101 + nI i), .ref (D.1 52)])) rfl ?_
  rw [nI_add 101 i]
  refine Zr_callS C it_Lw_setUp rfl p_Lw_cell ml_Lw_116 [.ref (D.1 52), .int (nI (101 + i))] (ct_Lw_cell C.ev C.l D.2.2.1 hL D.2.2.2 (HM D V P PH) _ (HM_52 hD) (101 + i) (by omega) _) rfl rfl ⟨by decide, by decide, by show k + 0 + 0 ≤ 120; omega, by show n + 0 + 0 ≤ 720; omega⟩ (Nat.le_of_ble_eq_true rfl) rfl ?_
  show Z E G (HM D V P PH) sz k n (36, [some (.ref (D.1 0)), some (.ref (D.1 37)), some (.ref (D.1 38)), some (.ref (D.1 39)), some (.ref (D.1 52)), some (.int (nI mm)), some (.int (nI i)), none, none, none, none, none, none], [.int (cellv D.2.2.1 D.2.2.2 (101 + i))])
  refine Z_run C it_Lw_setUp 3 (f2 := (41, [some (.ref (D.1 0)), some (.ref (D.1 37)), some (.ref (D.1 38)), some (.ref (D.1 39)), some (.ref (D.1 52)), some (.int (nI mm)), some (.int (nI i)), some (.int (cellv D.2.2.1 D.2.2.2 (101 + i))), none, none, none, none, none], [.int (nI 2), .int (nI i)])) rfl ?_
  refine Z_br C it_Lw_setUp rfl rfl (fun hc1 => ?_) (fun hc1 => ?_)
  · replace hc1 := (nI_leI (a := 2) (b := i) (by omega) (by omega)).mp hc1
    refine Z_run C it_Lw_setUp 2 (f2 := (52, [some (.ref (D.1 0)), some (.ref (D.1 37)), some (.ref (D.1 38)), some (.ref (D.1 39)), some (.ref (D.1 52)), some (.int (nI mm)), some (.int (nI i)), some (.int (cellv D.2.2.1 D.2.2.2 (101 + i))), none, none, none, none, none], [.int (nI 2), .int (cellv D.2.2.1 D.2.2.2 (101 + i))])) rfl ?_
    refine Zr_callS C it_Lw_setUp rfl p_Lw_low ml_Lw_120 [.int (cellv D.2.2.1 D.2.2.2 (101 + i)), .int (nI 2)] (ct_Lw_low C.ev C.l (cellv D.2.2.1 D.2.2.2 (101 + i)) 2 (by decide) (by decide) (HM D V P PH) _) rfl rfl ⟨by decide, by decide, by show k + 0 + 0 ≤ 120; omega, by show n + 0 + 0 ≤ 720; omega⟩ (Nat.le_of_ble_eq_true rfl) rfl ?_
    show Z E G (HM D V P PH) sz k n (55, [some (.ref (D.1 0)), some (.ref (D.1 37)), some (.ref (D.1 38)), some (.ref (D.1 39)), some (.ref (D.1 52)), some (.int (nI mm)), some (.int (nI i)), some (.int (cellv D.2.2.1 D.2.2.2 (101 + i))), none, none, none, none, none], [.int (nI (lwN (cellv D.2.2.1 D.2.2.2 (101 + i)) 2))])
    have hlw1 := lwN_lt (cellv D.2.2.1 D.2.2.2 (101 + i)) (show 0 < 2 by decide)
    refine Z_run C it_Lw_setUp 3 (f2 := (60, [some (.ref (D.1 0)), some (.ref (D.1 37)), some (.ref (D.1 38)), some (.ref (D.1 39)), some (.ref (D.1 52)), some (.int (nI mm)), some (.int (nI i)), some (.int (cellv D.2.2.1 D.2.2.2 (101 + i))), some (.int (nI (lwN (cellv D.2.2.1 D.2.2.2 (101 + i)) 2))), none, none, none, none], [.int (nI 2), .int (nI i)])) rfl ?_
    refine Z_br C it_Lw_setUp rfl rfl (fun hc2 => ?_) (fun hc2 => ?_)
    · replace hc2 := (nI_ltI (a := i) (b := 2) (by omega) (by omega)).mp hc2
      refine Z_run C it_Lw_setUp 7 (f2 := (89, [some (.ref (D.1 0)), some (.ref (D.1 37)), some (.ref (D.1 38)), some (.ref (D.1 39)), some (.ref (D.1 52)), some (.int (nI mm)), some (.int (nI i)), some (.int (cellv D.2.2.1 D.2.2.2 (101 + i))), some (.int (nI (lwN (cellv D.2.2.1 D.2.2.2 (101 + i)) 2))), some (.int (nI 1)), none, none, none], [.int (nI 36), .int (cellv D.2.2.1 D.2.2.2 (101 + i) >>> (nI 1 &&& 31))])) rfl ?_
      refine Zr_callS C it_Lw_setUp rfl p_Lw_low ml_Lw_120 [.int (cellv D.2.2.1 D.2.2.2 (101 + i) >>> (nI 1 &&& 31)), .int (nI 36)] (ct_Lw_low C.ev C.l (cellv D.2.2.1 D.2.2.2 (101 + i) >>> (nI 1 &&& 31)) 36 (by decide) (by decide) (HM D V P PH) _) rfl rfl ⟨by decide, by decide, by show k + 0 + 0 ≤ 120; omega, by show n + 0 + 0 ≤ 720; omega⟩ (Nat.le_of_ble_eq_true rfl) rfl ?_
      show Z E G (HM D V P PH) sz k n (92, [some (.ref (D.1 0)), some (.ref (D.1 37)), some (.ref (D.1 38)), some (.ref (D.1 39)), some (.ref (D.1 52)), some (.int (nI mm)), some (.int (nI i)), some (.int (cellv D.2.2.1 D.2.2.2 (101 + i))), some (.int (nI (lwN (cellv D.2.2.1 D.2.2.2 (101 + i)) 2))), some (.int (nI 1)), none, none, none], [.int (nI (lwN (cellv D.2.2.1 D.2.2.2 (101 + i) >>> (nI 1 &&& 31)) 36))])
      have hlw2 := lwN_lt (cellv D.2.2.1 D.2.2.2 (101 + i) >>> (nI 1 &&& 31)) (show 0 < 36 by decide)
      refine Z_run C it_Lw_setUp 9 (f2 := (106, [some (.ref (D.1 0)), some (.ref (D.1 37)), some (.ref (D.1 38)), some (.ref (D.1 39)), some (.ref (D.1 52)), some (.int (nI mm)), some (.int (nI i)), some (.int (cellv D.2.2.1 D.2.2.2 (101 + i))), some (.int (nI (lwN (cellv D.2.2.1 D.2.2.2 (101 + i)) 2))), some (.int (nI 1)), some (.int (nI (lwN (cellv D.2.2.1 D.2.2.2 (101 + i) >>> (nI 1 &&& 31)) 36))), none, none], [.int (nI 3), .int (cellv D.2.2.1 D.2.2.2 (101 + i) >>> (nI 12 &&& 31)), .int (cellv D.2.2.1 D.2.2.2 (101 + i) >>> (nI 7 &&& 31)), .int (nI 1)])) rfl ?_
      refine Zr_callS C it_Lw_setUp rfl p_Lw_low ml_Lw_120 [.int (cellv D.2.2.1 D.2.2.2 (101 + i) >>> (nI 12 &&& 31)), .int (nI 3)] (ct_Lw_low C.ev C.l (cellv D.2.2.1 D.2.2.2 (101 + i) >>> (nI 12 &&& 31)) 3 (by decide) (by decide) (HM D V P PH) _) rfl rfl ⟨by decide, by decide, by show k + 0 + 0 ≤ 120; omega, by show n + 0 + 0 ≤ 720; omega⟩ (Nat.le_of_ble_eq_true rfl) rfl ?_
      show Z E G (HM D V P PH) sz k n (109, [some (.ref (D.1 0)), some (.ref (D.1 37)), some (.ref (D.1 38)), some (.ref (D.1 39)), some (.ref (D.1 52)), some (.int (nI mm)), some (.int (nI i)), some (.int (cellv D.2.2.1 D.2.2.2 (101 + i))), some (.int (nI (lwN (cellv D.2.2.1 D.2.2.2 (101 + i)) 2))), some (.int (nI 1)), some (.int (nI (lwN (cellv D.2.2.1 D.2.2.2 (101 + i) >>> (nI 1 &&& 31)) 36))), none, none], [.int (nI (lwN (cellv D.2.2.1 D.2.2.2 (101 + i) >>> (nI 12 &&& 31)) 3)), .int (cellv D.2.2.1 D.2.2.2 (101 + i) >>> (nI 7 &&& 31)), .int (nI 1)])
      have hlw3 := lwN_lt (cellv D.2.2.1 D.2.2.2 (101 + i) >>> (nI 12 &&& 31)) (show 0 < 3 by decide)
      refine Z_br C it_Lw_setUp rfl rfl (fun hc3 => ?_) (fun hc3 => ?_)
      · replace hc3 : ¬ _ := fun z9 => hc3 ((nI_e0 (a := lwN (cellv D.2.2.1 D.2.2.2 (101 + i) >>> (nI 12 &&& 31)) 3) (by omega)).mpr z9)
        refine Z_run C it_Lw_setUp 1 (f2 := (118, [some (.ref (D.1 0)), some (.ref (D.1 37)), some (.ref (D.1 38)), some (.ref (D.1 39)), some (.ref (D.1 52)), some (.int (nI mm)), some (.int (nI i)), some (.int (cellv D.2.2.1 D.2.2.2 (101 + i))), some (.int (nI (lwN (cellv D.2.2.1 D.2.2.2 (101 + i)) 2))), some (.int (nI 1)), some (.int (nI (lwN (cellv D.2.2.1 D.2.2.2 (101 + i) >>> (nI 1 &&& 31)) 36))), none, none], [.int (nI 3), .int (cellv D.2.2.1 D.2.2.2 (101 + i) >>> (nI 7 &&& 31)), .int (nI 1)])) rfl ?_
        refine Zr_callS C it_Lw_setUp rfl p_Lw_low ml_Lw_120 [.int (cellv D.2.2.1 D.2.2.2 (101 + i) >>> (nI 7 &&& 31)), .int (nI 3)] (ct_Lw_low C.ev C.l (cellv D.2.2.1 D.2.2.2 (101 + i) >>> (nI 7 &&& 31)) 3 (by decide) (by decide) (HM D V P PH) _) rfl rfl ⟨by decide, by decide, by show k + 0 + 0 ≤ 120; omega, by show n + 0 + 0 ≤ 720; omega⟩ (Nat.le_of_ble_eq_true rfl) rfl ?_
        show Z E G (HM D V P PH) sz k n (121, [some (.ref (D.1 0)), some (.ref (D.1 37)), some (.ref (D.1 38)), some (.ref (D.1 39)), some (.ref (D.1 52)), some (.int (nI mm)), some (.int (nI i)), some (.int (cellv D.2.2.1 D.2.2.2 (101 + i))), some (.int (nI (lwN (cellv D.2.2.1 D.2.2.2 (101 + i)) 2))), some (.int (nI 1)), some (.int (nI (lwN (cellv D.2.2.1 D.2.2.2 (101 + i) >>> (nI 1 &&& 31)) 36))), none, none], [.int (nI (lwN (cellv D.2.2.1 D.2.2.2 (101 + i) >>> (nI 7 &&& 31)) 3)), .int (nI 1)])
        have hlw4 := lwN_lt (cellv D.2.2.1 D.2.2.2 (101 + i) >>> (nI 7 &&& 31)) (show 0 < 3 by decide)
        refine Z_run C it_Lw_setUp 1 (f2 := (122, [some (.ref (D.1 0)), some (.ref (D.1 37)), some (.ref (D.1 38)), some (.ref (D.1 39)), some (.ref (D.1 52)), some (.int (nI mm)), some (.int (nI i)), some (.int (cellv D.2.2.1 D.2.2.2 (101 + i))), some (.int (nI (lwN (cellv D.2.2.1 D.2.2.2 (101 + i)) 2))), some (.int (nI 1)), some (.int (nI (lwN (cellv D.2.2.1 D.2.2.2 (101 + i) >>> (nI 1 &&& 31)) 36))), none, none], [.int (nI 1 + nI (lwN (cellv D.2.2.1 D.2.2.2 (101 + i) >>> (nI 7 &&& 31)) 3))])) rfl ?_
        rw [nI_add 1 (lwN (cellv D.2.2.1 D.2.2.2 (101 + i) >>> (nI 7 &&& 31)) 3)]
        refine Z_run C it_Lw_setUp 1 (f2 := (124, [some (.ref (D.1 0)), some (.ref (D.1 37)), some (.ref (D.1 38)), some (.ref (D.1 39)), some (.ref (D.1 52)), some (.int (nI mm)), some (.int (nI i)), some (.int (cellv D.2.2.1 D.2.2.2 (101 + i))), some (.int (nI (lwN (cellv D.2.2.1 D.2.2.2 (101 + i)) 2))), some (.int (nI 1)), some (.int (nI (lwN (cellv D.2.2.1 D.2.2.2 (101 + i) >>> (nI 1 &&& 31)) 36))), some (.int (nI (1 + lwN (cellv D.2.2.1 D.2.2.2 (101 + i) >>> (nI 7 &&& 31)) 3))), none], [])) rfl ?_
        have hs9 : (lwN (cellv D.2.2.1 D.2.2.2 (101 + i)) 2) < 2 := by first | omega | exact lwN_lt _ (by decide)
        have hb9 : (lwN (cellv D.2.2.1 D.2.2.2 (101 + i) >>> (nI 1 &&& 31)) 36) < 36 := lwN_lt _ (by decide)
        have hc9 : 1 + lwN (cellv D.2.2.1 D.2.2.2 (101 + i) >>> (nI 7 &&& 31)) 3 < 32 ∧ 1 ≤ 1 + lwN (cellv D.2.2.1 D.2.2.2 (101 + i) >>> (nI 7 &&& 31)) 3 := by omega
        refine su_124 hD hL C q hS hi31 (by omega) (by omega) hb9 (fun b hb hfree => ?_)
        exact su_149_l hD hL C q hS hi31 hk hn hs9 hb hc9.1 hc9.2 (fun z => by first | omega | exact ⟨rfl, rfl⟩) hfree kk
      · replace hc3 := Classical.not_not.mp hc3
        replace hc3 := (nI_e0 (a := lwN (cellv D.2.2.1 D.2.2.2 (101 + i) >>> (nI 12 &&& 31)) 3) (by omega)).mp hc3
        refine Z_run C it_Lw_setUp 2 (f2 := (118, [some (.ref (D.1 0)), some (.ref (D.1 37)), some (.ref (D.1 38)), some (.ref (D.1 39)), some (.ref (D.1 52)), some (.int (nI mm)), some (.int (nI i)), some (.int (cellv D.2.2.1 D.2.2.2 (101 + i))), some (.int (nI (lwN (cellv D.2.2.1 D.2.2.2 (101 + i)) 2))), some (.int (nI 1)), some (.int (nI (lwN (cellv D.2.2.1 D.2.2.2 (101 + i) >>> (nI 1 &&& 31)) 36))), none, none], [.int (nI 31), .int (cellv D.2.2.1 D.2.2.2 (101 + i) >>> (nI 7 &&& 31)), .int (nI 1)])) rfl ?_
        refine Zr_callS C it_Lw_setUp rfl p_Lw_low ml_Lw_120 [.int (cellv D.2.2.1 D.2.2.2 (101 + i) >>> (nI 7 &&& 31)), .int (nI 31)] (ct_Lw_low C.ev C.l (cellv D.2.2.1 D.2.2.2 (101 + i) >>> (nI 7 &&& 31)) 31 (by decide) (by decide) (HM D V P PH) _) rfl rfl ⟨by decide, by decide, by show k + 0 + 0 ≤ 120; omega, by show n + 0 + 0 ≤ 720; omega⟩ (Nat.le_of_ble_eq_true rfl) rfl ?_
        show Z E G (HM D V P PH) sz k n (121, [some (.ref (D.1 0)), some (.ref (D.1 37)), some (.ref (D.1 38)), some (.ref (D.1 39)), some (.ref (D.1 52)), some (.int (nI mm)), some (.int (nI i)), some (.int (cellv D.2.2.1 D.2.2.2 (101 + i))), some (.int (nI (lwN (cellv D.2.2.1 D.2.2.2 (101 + i)) 2))), some (.int (nI 1)), some (.int (nI (lwN (cellv D.2.2.1 D.2.2.2 (101 + i) >>> (nI 1 &&& 31)) 36))), none, none], [.int (nI (lwN (cellv D.2.2.1 D.2.2.2 (101 + i) >>> (nI 7 &&& 31)) 31)), .int (nI 1)])
        have hlw5 := lwN_lt (cellv D.2.2.1 D.2.2.2 (101 + i) >>> (nI 7 &&& 31)) (show 0 < 31 by decide)
        refine Z_run C it_Lw_setUp 1 (f2 := (122, [some (.ref (D.1 0)), some (.ref (D.1 37)), some (.ref (D.1 38)), some (.ref (D.1 39)), some (.ref (D.1 52)), some (.int (nI mm)), some (.int (nI i)), some (.int (cellv D.2.2.1 D.2.2.2 (101 + i))), some (.int (nI (lwN (cellv D.2.2.1 D.2.2.2 (101 + i)) 2))), some (.int (nI 1)), some (.int (nI (lwN (cellv D.2.2.1 D.2.2.2 (101 + i) >>> (nI 1 &&& 31)) 36))), none, none], [.int (nI 1 + nI (lwN (cellv D.2.2.1 D.2.2.2 (101 + i) >>> (nI 7 &&& 31)) 31))])) rfl ?_
        rw [nI_add 1 (lwN (cellv D.2.2.1 D.2.2.2 (101 + i) >>> (nI 7 &&& 31)) 31)]
        refine Z_run C it_Lw_setUp 1 (f2 := (124, [some (.ref (D.1 0)), some (.ref (D.1 37)), some (.ref (D.1 38)), some (.ref (D.1 39)), some (.ref (D.1 52)), some (.int (nI mm)), some (.int (nI i)), some (.int (cellv D.2.2.1 D.2.2.2 (101 + i))), some (.int (nI (lwN (cellv D.2.2.1 D.2.2.2 (101 + i)) 2))), some (.int (nI 1)), some (.int (nI (lwN (cellv D.2.2.1 D.2.2.2 (101 + i) >>> (nI 1 &&& 31)) 36))), some (.int (nI (1 + lwN (cellv D.2.2.1 D.2.2.2 (101 + i) >>> (nI 7 &&& 31)) 31))), none], [])) rfl ?_
        have hs9 : (lwN (cellv D.2.2.1 D.2.2.2 (101 + i)) 2) < 2 := by first | omega | exact lwN_lt _ (by decide)
        have hb9 : (lwN (cellv D.2.2.1 D.2.2.2 (101 + i) >>> (nI 1 &&& 31)) 36) < 36 := lwN_lt _ (by decide)
        have hc9 : 1 + lwN (cellv D.2.2.1 D.2.2.2 (101 + i) >>> (nI 7 &&& 31)) 31 < 32 ∧ 1 ≤ 1 + lwN (cellv D.2.2.1 D.2.2.2 (101 + i) >>> (nI 7 &&& 31)) 31 := by omega
        refine su_124 hD hL C q hS hi31 (by omega) (by omega) hb9 (fun b hb hfree => ?_)
        exact su_149_l hD hL C q hS hi31 hk hn hs9 hb hc9.1 hc9.2 (fun z => by first | omega | exact ⟨rfl, rfl⟩) hfree kk
    · replace hc2 : ¬ _ := fun z9 => hc2 ((nI_ltI (a := i) (b := 2) (by omega) (by omega)).mpr z9)
      refine Z_run C it_Lw_setUp 4 (f2 := (70, [some (.ref (D.1 0)), some (.ref (D.1 37)), some (.ref (D.1 38)), some (.ref (D.1 39)), some (.ref (D.1 52)), some (.int (nI mm)), some (.int (nI i)), some (.int (cellv D.2.2.1 D.2.2.2 (101 + i))), some (.int (nI (lwN (cellv D.2.2.1 D.2.2.2 (101 + i)) 2))), none, none, none, none], [.int (nI 9), .int (cellv D.2.2.1 D.2.2.2 (101 + i) >>> (nI 11 &&& 31))])) rfl ?_
      refine Zr_callS C it_Lw_setUp rfl p_Lw_low ml_Lw_120 [.int (cellv D.2.2.1 D.2.2.2 (101 + i) >>> (nI 11 &&& 31)), .int (nI 9)] (ct_Lw_low C.ev C.l (cellv D.2.2.1 D.2.2.2 (101 + i) >>> (nI 11 &&& 31)) 9 (by decide) (by decide) (HM D V P PH) _) rfl rfl ⟨by decide, by decide, by show k + 0 + 0 ≤ 120; omega, by show n + 0 + 0 ≤ 720; omega⟩ (Nat.le_of_ble_eq_true rfl) rfl ?_
      show Z E G (HM D V P PH) sz k n (73, [some (.ref (D.1 0)), some (.ref (D.1 37)), some (.ref (D.1 38)), some (.ref (D.1 39)), some (.ref (D.1 52)), some (.int (nI mm)), some (.int (nI i)), some (.int (cellv D.2.2.1 D.2.2.2 (101 + i))), some (.int (nI (lwN (cellv D.2.2.1 D.2.2.2 (101 + i)) 2))), none, none, none, none], [.int (nI (lwN (cellv D.2.2.1 D.2.2.2 (101 + i) >>> (nI 11 &&& 31)) 9))])
      have hlw6 := lwN_lt (cellv D.2.2.1 D.2.2.2 (101 + i) >>> (nI 11 &&& 31)) (show 0 < 9 by decide)
      refine Z_br C it_Lw_setUp rfl rfl (fun hc4 => ?_) (fun hc4 => ?_)
      · replace hc4 : ¬ _ := fun z9 => hc4 ((nI_e0 (a := lwN (cellv D.2.2.1 D.2.2.2 (101 + i) >>> (nI 11 &&& 31)) 9) (by omega)).mpr z9)
        refine Z_run C it_Lw_setUp 6 (f2 := (89, [some (.ref (D.1 0)), some (.ref (D.1 37)), some (.ref (D.1 38)), some (.ref (D.1 39)), some (.ref (D.1 52)), some (.int (nI mm)), some (.int (nI i)), some (.int (cellv D.2.2.1 D.2.2.2 (101 + i))), some (.int (nI (lwN (cellv D.2.2.1 D.2.2.2 (101 + i)) 2))), some (.int (nI 0)), none, none, none], [.int (nI 36), .int (cellv D.2.2.1 D.2.2.2 (101 + i) >>> (nI 1 &&& 31))])) rfl ?_
        refine Zr_callS C it_Lw_setUp rfl p_Lw_low ml_Lw_120 [.int (cellv D.2.2.1 D.2.2.2 (101 + i) >>> (nI 1 &&& 31)), .int (nI 36)] (ct_Lw_low C.ev C.l (cellv D.2.2.1 D.2.2.2 (101 + i) >>> (nI 1 &&& 31)) 36 (by decide) (by decide) (HM D V P PH) _) rfl rfl ⟨by decide, by decide, by show k + 0 + 0 ≤ 120; omega, by show n + 0 + 0 ≤ 720; omega⟩ (Nat.le_of_ble_eq_true rfl) rfl ?_
        show Z E G (HM D V P PH) sz k n (92, [some (.ref (D.1 0)), some (.ref (D.1 37)), some (.ref (D.1 38)), some (.ref (D.1 39)), some (.ref (D.1 52)), some (.int (nI mm)), some (.int (nI i)), some (.int (cellv D.2.2.1 D.2.2.2 (101 + i))), some (.int (nI (lwN (cellv D.2.2.1 D.2.2.2 (101 + i)) 2))), some (.int (nI 0)), none, none, none], [.int (nI (lwN (cellv D.2.2.1 D.2.2.2 (101 + i) >>> (nI 1 &&& 31)) 36))])
        have hlw7 := lwN_lt (cellv D.2.2.1 D.2.2.2 (101 + i) >>> (nI 1 &&& 31)) (show 0 < 36 by decide)
        refine Z_run C it_Lw_setUp 9 (f2 := (106, [some (.ref (D.1 0)), some (.ref (D.1 37)), some (.ref (D.1 38)), some (.ref (D.1 39)), some (.ref (D.1 52)), some (.int (nI mm)), some (.int (nI i)), some (.int (cellv D.2.2.1 D.2.2.2 (101 + i))), some (.int (nI (lwN (cellv D.2.2.1 D.2.2.2 (101 + i)) 2))), some (.int (nI 0)), some (.int (nI (lwN (cellv D.2.2.1 D.2.2.2 (101 + i) >>> (nI 1 &&& 31)) 36))), none, none], [.int (nI 3), .int (cellv D.2.2.1 D.2.2.2 (101 + i) >>> (nI 12 &&& 31)), .int (cellv D.2.2.1 D.2.2.2 (101 + i) >>> (nI 7 &&& 31)), .int (nI 1)])) rfl ?_
        refine Zr_callS C it_Lw_setUp rfl p_Lw_low ml_Lw_120 [.int (cellv D.2.2.1 D.2.2.2 (101 + i) >>> (nI 12 &&& 31)), .int (nI 3)] (ct_Lw_low C.ev C.l (cellv D.2.2.1 D.2.2.2 (101 + i) >>> (nI 12 &&& 31)) 3 (by decide) (by decide) (HM D V P PH) _) rfl rfl ⟨by decide, by decide, by show k + 0 + 0 ≤ 120; omega, by show n + 0 + 0 ≤ 720; omega⟩ (Nat.le_of_ble_eq_true rfl) rfl ?_
        show Z E G (HM D V P PH) sz k n (109, [some (.ref (D.1 0)), some (.ref (D.1 37)), some (.ref (D.1 38)), some (.ref (D.1 39)), some (.ref (D.1 52)), some (.int (nI mm)), some (.int (nI i)), some (.int (cellv D.2.2.1 D.2.2.2 (101 + i))), some (.int (nI (lwN (cellv D.2.2.1 D.2.2.2 (101 + i)) 2))), some (.int (nI 0)), some (.int (nI (lwN (cellv D.2.2.1 D.2.2.2 (101 + i) >>> (nI 1 &&& 31)) 36))), none, none], [.int (nI (lwN (cellv D.2.2.1 D.2.2.2 (101 + i) >>> (nI 12 &&& 31)) 3)), .int (cellv D.2.2.1 D.2.2.2 (101 + i) >>> (nI 7 &&& 31)), .int (nI 1)])
        have hlw8 := lwN_lt (cellv D.2.2.1 D.2.2.2 (101 + i) >>> (nI 12 &&& 31)) (show 0 < 3 by decide)
        refine Z_br C it_Lw_setUp rfl rfl (fun hc5 => ?_) (fun hc5 => ?_)
        · replace hc5 : ¬ _ := fun z9 => hc5 ((nI_e0 (a := lwN (cellv D.2.2.1 D.2.2.2 (101 + i) >>> (nI 12 &&& 31)) 3) (by omega)).mpr z9)
          refine Z_run C it_Lw_setUp 1 (f2 := (118, [some (.ref (D.1 0)), some (.ref (D.1 37)), some (.ref (D.1 38)), some (.ref (D.1 39)), some (.ref (D.1 52)), some (.int (nI mm)), some (.int (nI i)), some (.int (cellv D.2.2.1 D.2.2.2 (101 + i))), some (.int (nI (lwN (cellv D.2.2.1 D.2.2.2 (101 + i)) 2))), some (.int (nI 0)), some (.int (nI (lwN (cellv D.2.2.1 D.2.2.2 (101 + i) >>> (nI 1 &&& 31)) 36))), none, none], [.int (nI 3), .int (cellv D.2.2.1 D.2.2.2 (101 + i) >>> (nI 7 &&& 31)), .int (nI 1)])) rfl ?_
          refine Zr_callS C it_Lw_setUp rfl p_Lw_low ml_Lw_120 [.int (cellv D.2.2.1 D.2.2.2 (101 + i) >>> (nI 7 &&& 31)), .int (nI 3)] (ct_Lw_low C.ev C.l (cellv D.2.2.1 D.2.2.2 (101 + i) >>> (nI 7 &&& 31)) 3 (by decide) (by decide) (HM D V P PH) _) rfl rfl ⟨by decide, by decide, by show k + 0 + 0 ≤ 120; omega, by show n + 0 + 0 ≤ 720; omega⟩ (Nat.le_of_ble_eq_true rfl) rfl ?_
          show Z E G (HM D V P PH) sz k n (121, [some (.ref (D.1 0)), some (.ref (D.1 37)), some (.ref (D.1 38)), some (.ref (D.1 39)), some (.ref (D.1 52)), some (.int (nI mm)), some (.int (nI i)), some (.int (cellv D.2.2.1 D.2.2.2 (101 + i))), some (.int (nI (lwN (cellv D.2.2.1 D.2.2.2 (101 + i)) 2))), some (.int (nI 0)), some (.int (nI (lwN (cellv D.2.2.1 D.2.2.2 (101 + i) >>> (nI 1 &&& 31)) 36))), none, none], [.int (nI (lwN (cellv D.2.2.1 D.2.2.2 (101 + i) >>> (nI 7 &&& 31)) 3)), .int (nI 1)])
          have hlw9 := lwN_lt (cellv D.2.2.1 D.2.2.2 (101 + i) >>> (nI 7 &&& 31)) (show 0 < 3 by decide)
          refine Z_run C it_Lw_setUp 1 (f2 := (122, [some (.ref (D.1 0)), some (.ref (D.1 37)), some (.ref (D.1 38)), some (.ref (D.1 39)), some (.ref (D.1 52)), some (.int (nI mm)), some (.int (nI i)), some (.int (cellv D.2.2.1 D.2.2.2 (101 + i))), some (.int (nI (lwN (cellv D.2.2.1 D.2.2.2 (101 + i)) 2))), some (.int (nI 0)), some (.int (nI (lwN (cellv D.2.2.1 D.2.2.2 (101 + i) >>> (nI 1 &&& 31)) 36))), none, none], [.int (nI 1 + nI (lwN (cellv D.2.2.1 D.2.2.2 (101 + i) >>> (nI 7 &&& 31)) 3))])) rfl ?_
          rw [nI_add 1 (lwN (cellv D.2.2.1 D.2.2.2 (101 + i) >>> (nI 7 &&& 31)) 3)]
          refine Z_run C it_Lw_setUp 1 (f2 := (124, [some (.ref (D.1 0)), some (.ref (D.1 37)), some (.ref (D.1 38)), some (.ref (D.1 39)), some (.ref (D.1 52)), some (.int (nI mm)), some (.int (nI i)), some (.int (cellv D.2.2.1 D.2.2.2 (101 + i))), some (.int (nI (lwN (cellv D.2.2.1 D.2.2.2 (101 + i)) 2))), some (.int (nI 0)), some (.int (nI (lwN (cellv D.2.2.1 D.2.2.2 (101 + i) >>> (nI 1 &&& 31)) 36))), some (.int (nI (1 + lwN (cellv D.2.2.1 D.2.2.2 (101 + i) >>> (nI 7 &&& 31)) 3))), none], [])) rfl ?_
          have hs9 : (lwN (cellv D.2.2.1 D.2.2.2 (101 + i)) 2) < 2 := by first | omega | exact lwN_lt _ (by decide)
          have hb9 : (lwN (cellv D.2.2.1 D.2.2.2 (101 + i) >>> (nI 1 &&& 31)) 36) < 36 := lwN_lt _ (by decide)
          have hc9 : 1 + lwN (cellv D.2.2.1 D.2.2.2 (101 + i) >>> (nI 7 &&& 31)) 3 < 32 ∧ 1 ≤ 1 + lwN (cellv D.2.2.1 D.2.2.2 (101 + i) >>> (nI 7 &&& 31)) 3 := by omega
          refine su_124 hD hL C q hS hi31 (by omega) (by omega) hb9 (fun b hb hfree => ?_)
          exact su_149_p hD hL C q hS hi31 hk hn hs9 hb hc9.1 hc9.2 (fun z => by first | omega | exact ⟨rfl, rfl⟩) hfree kk
        · replace hc5 := Classical.not_not.mp hc5
          replace hc5 := (nI_e0 (a := lwN (cellv D.2.2.1 D.2.2.2 (101 + i) >>> (nI 12 &&& 31)) 3) (by omega)).mp hc5
          refine Z_run C it_Lw_setUp 2 (f2 := (118, [some (.ref (D.1 0)), some (.ref (D.1 37)), some (.ref (D.1 38)), some (.ref (D.1 39)), some (.ref (D.1 52)), some (.int (nI mm)), some (.int (nI i)), some (.int (cellv D.2.2.1 D.2.2.2 (101 + i))), some (.int (nI (lwN (cellv D.2.2.1 D.2.2.2 (101 + i)) 2))), some (.int (nI 0)), some (.int (nI (lwN (cellv D.2.2.1 D.2.2.2 (101 + i) >>> (nI 1 &&& 31)) 36))), none, none], [.int (nI 31), .int (cellv D.2.2.1 D.2.2.2 (101 + i) >>> (nI 7 &&& 31)), .int (nI 1)])) rfl ?_
          refine Zr_callS C it_Lw_setUp rfl p_Lw_low ml_Lw_120 [.int (cellv D.2.2.1 D.2.2.2 (101 + i) >>> (nI 7 &&& 31)), .int (nI 31)] (ct_Lw_low C.ev C.l (cellv D.2.2.1 D.2.2.2 (101 + i) >>> (nI 7 &&& 31)) 31 (by decide) (by decide) (HM D V P PH) _) rfl rfl ⟨by decide, by decide, by show k + 0 + 0 ≤ 120; omega, by show n + 0 + 0 ≤ 720; omega⟩ (Nat.le_of_ble_eq_true rfl) rfl ?_
          show Z E G (HM D V P PH) sz k n (121, [some (.ref (D.1 0)), some (.ref (D.1 37)), some (.ref (D.1 38)), some (.ref (D.1 39)), some (.ref (D.1 52)), some (.int (nI mm)), some (.int (nI i)), some (.int (cellv D.2.2.1 D.2.2.2 (101 + i))), some (.int (nI (lwN (cellv D.2.2.1 D.2.2.2 (101 + i)) 2))), some (.int (nI 0)), some (.int (nI (lwN (cellv D.2.2.1 D.2.2.2 (101 + i) >>> (nI 1 &&& 31)) 36))), none, none], [.int (nI (lwN (cellv D.2.2.1 D.2.2.2 (101 + i) >>> (nI 7 &&& 31)) 31)), .int (nI 1)])
          have hlw10 := lwN_lt (cellv D.2.2.1 D.2.2.2 (101 + i) >>> (nI 7 &&& 31)) (show 0 < 31 by decide)
          refine Z_run C it_Lw_setUp 1 (f2 := (122, [some (.ref (D.1 0)), some (.ref (D.1 37)), some (.ref (D.1 38)), some (.ref (D.1 39)), some (.ref (D.1 52)), some (.int (nI mm)), some (.int (nI i)), some (.int (cellv D.2.2.1 D.2.2.2 (101 + i))), some (.int (nI (lwN (cellv D.2.2.1 D.2.2.2 (101 + i)) 2))), some (.int (nI 0)), some (.int (nI (lwN (cellv D.2.2.1 D.2.2.2 (101 + i) >>> (nI 1 &&& 31)) 36))), none, none], [.int (nI 1 + nI (lwN (cellv D.2.2.1 D.2.2.2 (101 + i) >>> (nI 7 &&& 31)) 31))])) rfl ?_
          rw [nI_add 1 (lwN (cellv D.2.2.1 D.2.2.2 (101 + i) >>> (nI 7 &&& 31)) 31)]
          refine Z_run C it_Lw_setUp 1 (f2 := (124, [some (.ref (D.1 0)), some (.ref (D.1 37)), some (.ref (D.1 38)), some (.ref (D.1 39)), some (.ref (D.1 52)), some (.int (nI mm)), some (.int (nI i)), some (.int (cellv D.2.2.1 D.2.2.2 (101 + i))), some (.int (nI (lwN (cellv D.2.2.1 D.2.2.2 (101 + i)) 2))), some (.int (nI 0)), some (.int (nI (lwN (cellv D.2.2.1 D.2.2.2 (101 + i) >>> (nI 1 &&& 31)) 36))), some (.int (nI (1 + lwN (cellv D.2.2.1 D.2.2.2 (101 + i) >>> (nI 7 &&& 31)) 31))), none], [])) rfl ?_
          have hs9 : (lwN (cellv D.2.2.1 D.2.2.2 (101 + i)) 2) < 2 := by first | omega | exact lwN_lt _ (by decide)
          have hb9 : (lwN (cellv D.2.2.1 D.2.2.2 (101 + i) >>> (nI 1 &&& 31)) 36) < 36 := lwN_lt _ (by decide)
          have hc9 : 1 + lwN (cellv D.2.2.1 D.2.2.2 (101 + i) >>> (nI 7 &&& 31)) 31 < 32 ∧ 1 ≤ 1 + lwN (cellv D.2.2.1 D.2.2.2 (101 + i) >>> (nI 7 &&& 31)) 31 := by omega
          refine su_124 hD hL C q hS hi31 (by omega) (by omega) hb9 (fun b hb hfree => ?_)
          exact su_149_p hD hL C q hS hi31 hk hn hs9 hb hc9.1 hc9.2 (fun z => by first | omega | exact ⟨rfl, rfl⟩) hfree kk
      · replace hc4 := Classical.not_not.mp hc4
        replace hc4 := (nI_e0 (a := lwN (cellv D.2.2.1 D.2.2.2 (101 + i) >>> (nI 11 &&& 31)) 9) (by omega)).mp hc4
        refine Z_run C it_Lw_setUp 7 (f2 := (89, [some (.ref (D.1 0)), some (.ref (D.1 37)), some (.ref (D.1 38)), some (.ref (D.1 39)), some (.ref (D.1 52)), some (.int (nI mm)), some (.int (nI i)), some (.int (cellv D.2.2.1 D.2.2.2 (101 + i))), some (.int (nI (lwN (cellv D.2.2.1 D.2.2.2 (101 + i)) 2))), some (.int (nI 1)), none, none, none], [.int (nI 36), .int (cellv D.2.2.1 D.2.2.2 (101 + i) >>> (nI 1 &&& 31))])) rfl ?_
        refine Zr_callS C it_Lw_setUp rfl p_Lw_low ml_Lw_120 [.int (cellv D.2.2.1 D.2.2.2 (101 + i) >>> (nI 1 &&& 31)), .int (nI 36)] (ct_Lw_low C.ev C.l (cellv D.2.2.1 D.2.2.2 (101 + i) >>> (nI 1 &&& 31)) 36 (by decide) (by decide) (HM D V P PH) _) rfl rfl ⟨by decide, by decide, by show k + 0 + 0 ≤ 120; omega, by show n + 0 + 0 ≤ 720; omega⟩ (Nat.le_of_ble_eq_true rfl) rfl ?_
        show Z E G (HM D V P PH) sz k n (92, [some (.ref (D.1 0)), some (.ref (D.1 37)), some (.ref (D.1 38)), some (.ref (D.1 39)), some (.ref (D.1 52)), some (.int (nI mm)), some (.int (nI i)), some (.int (cellv D.2.2.1 D.2.2.2 (101 + i))), some (.int (nI (lwN (cellv D.2.2.1 D.2.2.2 (101 + i)) 2))), some (.int (nI 1)), none, none, none], [.int (nI (lwN (cellv D.2.2.1 D.2.2.2 (101 + i) >>> (nI 1 &&& 31)) 36))])
        have hlw11 := lwN_lt (cellv D.2.2.1 D.2.2.2 (101 + i) >>> (nI 1 &&& 31)) (show 0 < 36 by decide)
        refine Z_run C it_Lw_setUp 9 (f2 := (106, [some (.ref (D.1 0)), some (.ref (D.1 37)), some (.ref (D.1 38)), some (.ref (D.1 39)), some (.ref (D.1 52)), some (.int (nI mm)), some (.int (nI i)), some (.int (cellv D.2.2.1 D.2.2.2 (101 + i))), some (.int (nI (lwN (cellv D.2.2.1 D.2.2.2 (101 + i)) 2))), some (.int (nI 1)), some (.int (nI (lwN (cellv D.2.2.1 D.2.2.2 (101 + i) >>> (nI 1 &&& 31)) 36))), none, none], [.int (nI 3), .int (cellv D.2.2.1 D.2.2.2 (101 + i) >>> (nI 12 &&& 31)), .int (cellv D.2.2.1 D.2.2.2 (101 + i) >>> (nI 7 &&& 31)), .int (nI 1)])) rfl ?_
        refine Zr_callS C it_Lw_setUp rfl p_Lw_low ml_Lw_120 [.int (cellv D.2.2.1 D.2.2.2 (101 + i) >>> (nI 12 &&& 31)), .int (nI 3)] (ct_Lw_low C.ev C.l (cellv D.2.2.1 D.2.2.2 (101 + i) >>> (nI 12 &&& 31)) 3 (by decide) (by decide) (HM D V P PH) _) rfl rfl ⟨by decide, by decide, by show k + 0 + 0 ≤ 120; omega, by show n + 0 + 0 ≤ 720; omega⟩ (Nat.le_of_ble_eq_true rfl) rfl ?_
        show Z E G (HM D V P PH) sz k n (109, [some (.ref (D.1 0)), some (.ref (D.1 37)), some (.ref (D.1 38)), some (.ref (D.1 39)), some (.ref (D.1 52)), some (.int (nI mm)), some (.int (nI i)), some (.int (cellv D.2.2.1 D.2.2.2 (101 + i))), some (.int (nI (lwN (cellv D.2.2.1 D.2.2.2 (101 + i)) 2))), some (.int (nI 1)), some (.int (nI (lwN (cellv D.2.2.1 D.2.2.2 (101 + i) >>> (nI 1 &&& 31)) 36))), none, none], [.int (nI (lwN (cellv D.2.2.1 D.2.2.2 (101 + i) >>> (nI 12 &&& 31)) 3)), .int (cellv D.2.2.1 D.2.2.2 (101 + i) >>> (nI 7 &&& 31)), .int (nI 1)])
        have hlw12 := lwN_lt (cellv D.2.2.1 D.2.2.2 (101 + i) >>> (nI 12 &&& 31)) (show 0 < 3 by decide)
        refine Z_br C it_Lw_setUp rfl rfl (fun hc6 => ?_) (fun hc6 => ?_)
        · replace hc6 : ¬ _ := fun z9 => hc6 ((nI_e0 (a := lwN (cellv D.2.2.1 D.2.2.2 (101 + i) >>> (nI 12 &&& 31)) 3) (by omega)).mpr z9)
          refine Z_run C it_Lw_setUp 1 (f2 := (118, [some (.ref (D.1 0)), some (.ref (D.1 37)), some (.ref (D.1 38)), some (.ref (D.1 39)), some (.ref (D.1 52)), some (.int (nI mm)), some (.int (nI i)), some (.int (cellv D.2.2.1 D.2.2.2 (101 + i))), some (.int (nI (lwN (cellv D.2.2.1 D.2.2.2 (101 + i)) 2))), some (.int (nI 1)), some (.int (nI (lwN (cellv D.2.2.1 D.2.2.2 (101 + i) >>> (nI 1 &&& 31)) 36))), none, none], [.int (nI 3), .int (cellv D.2.2.1 D.2.2.2 (101 + i) >>> (nI 7 &&& 31)), .int (nI 1)])) rfl ?_
          refine Zr_callS C it_Lw_setUp rfl p_Lw_low ml_Lw_120 [.int (cellv D.2.2.1 D.2.2.2 (101 + i) >>> (nI 7 &&& 31)), .int (nI 3)] (ct_Lw_low C.ev C.l (cellv D.2.2.1 D.2.2.2 (101 + i) >>> (nI 7 &&& 31)) 3 (by decide) (by decide) (HM D V P PH) _) rfl rfl ⟨by decide, by decide, by show k + 0 + 0 ≤ 120; omega, by show n + 0 + 0 ≤ 720; omega⟩ (Nat.le_of_ble_eq_true rfl) rfl ?_
          show Z E G (HM D V P PH) sz k n (121, [some (.ref (D.1 0)), some (.ref (D.1 37)), some (.ref (D.1 38)), some (.ref (D.1 39)), some (.ref (D.1 52)), some (.int (nI mm)), some (.int (nI i)), some (.int (cellv D.2.2.1 D.2.2.2 (101 + i))), some (.int (nI (lwN (cellv D.2.2.1 D.2.2.2 (101 + i)) 2))), some (.int (nI 1)), some (.int (nI (lwN (cellv D.2.2.1 D.2.2.2 (101 + i) >>> (nI 1 &&& 31)) 36))), none, none], [.int (nI (lwN (cellv D.2.2.1 D.2.2.2 (101 + i) >>> (nI 7 &&& 31)) 3)), .int (nI 1)])
          have hlw13 := lwN_lt (cellv D.2.2.1 D.2.2.2 (101 + i) >>> (nI 7 &&& 31)) (show 0 < 3 by decide)
          refine Z_run C it_Lw_setUp 1 (f2 := (122, [some (.ref (D.1 0)), some (.ref (D.1 37)), some (.ref (D.1 38)), some (.ref (D.1 39)), some (.ref (D.1 52)), some (.int (nI mm)), some (.int (nI i)), some (.int (cellv D.2.2.1 D.2.2.2 (101 + i))), some (.int (nI (lwN (cellv D.2.2.1 D.2.2.2 (101 + i)) 2))), some (.int (nI 1)), some (.int (nI (lwN (cellv D.2.2.1 D.2.2.2 (101 + i) >>> (nI 1 &&& 31)) 36))), none, none], [.int (nI 1 + nI (lwN (cellv D.2.2.1 D.2.2.2 (101 + i) >>> (nI 7 &&& 31)) 3))])) rfl ?_
          rw [nI_add 1 (lwN (cellv D.2.2.1 D.2.2.2 (101 + i) >>> (nI 7 &&& 31)) 3)]
          refine Z_run C it_Lw_setUp 1 (f2 := (124, [some (.ref (D.1 0)), some (.ref (D.1 37)), some (.ref (D.1 38)), some (.ref (D.1 39)), some (.ref (D.1 52)), some (.int (nI mm)), some (.int (nI i)), some (.int (cellv D.2.2.1 D.2.2.2 (101 + i))), some (.int (nI (lwN (cellv D.2.2.1 D.2.2.2 (101 + i)) 2))), some (.int (nI 1)), some (.int (nI (lwN (cellv D.2.2.1 D.2.2.2 (101 + i) >>> (nI 1 &&& 31)) 36))), some (.int (nI (1 + lwN (cellv D.2.2.1 D.2.2.2 (101 + i) >>> (nI 7 &&& 31)) 3))), none], [])) rfl ?_
          have hs9 : (lwN (cellv D.2.2.1 D.2.2.2 (101 + i)) 2) < 2 := by first | omega | exact lwN_lt _ (by decide)
          have hb9 : (lwN (cellv D.2.2.1 D.2.2.2 (101 + i) >>> (nI 1 &&& 31)) 36) < 36 := lwN_lt _ (by decide)
          have hc9 : 1 + lwN (cellv D.2.2.1 D.2.2.2 (101 + i) >>> (nI 7 &&& 31)) 3 < 32 ∧ 1 ≤ 1 + lwN (cellv D.2.2.1 D.2.2.2 (101 + i) >>> (nI 7 &&& 31)) 3 := by omega
          refine su_124 hD hL C q hS hi31 (by omega) (by omega) hb9 (fun b hb hfree => ?_)
          exact su_149_l hD hL C q hS hi31 hk hn hs9 hb hc9.1 hc9.2 (fun z => by first | omega | exact ⟨rfl, rfl⟩) hfree kk
        · replace hc6 := Classical.not_not.mp hc6
          replace hc6 := (nI_e0 (a := lwN (cellv D.2.2.1 D.2.2.2 (101 + i) >>> (nI 12 &&& 31)) 3) (by omega)).mp hc6
          refine Z_run C it_Lw_setUp 2 (f2 := (118, [some (.ref (D.1 0)), some (.ref (D.1 37)), some (.ref (D.1 38)), some (.ref (D.1 39)), some (.ref (D.1 52)), some (.int (nI mm)), some (.int (nI i)), some (.int (cellv D.2.2.1 D.2.2.2 (101 + i))), some (.int (nI (lwN (cellv D.2.2.1 D.2.2.2 (101 + i)) 2))), some (.int (nI 1)), some (.int (nI (lwN (cellv D.2.2.1 D.2.2.2 (101 + i) >>> (nI 1 &&& 31)) 36))), none, none], [.int (nI 31), .int (cellv D.2.2.1 D.2.2.2 (101 + i) >>> (nI 7 &&& 31)), .int (nI 1)])) rfl ?_
          refine Zr_callS C it_Lw_setUp rfl p_Lw_low ml_Lw_120 [.int (cellv D.2.2.1 D.2.2.2 (101 + i) >>> (nI 7 &&& 31)), .int (nI 31)] (ct_Lw_low C.ev C.l (cellv D.2.2.1 D.2.2.2 (101 + i) >>> (nI 7 &&& 31)) 31 (by decide) (by decide) (HM D V P PH) _) rfl rfl ⟨by decide, by decide, by show k + 0 + 0 ≤ 120; omega, by show n + 0 + 0 ≤ 720; omega⟩ (Nat.le_of_ble_eq_true rfl) rfl ?_
          show Z E G (HM D V P PH) sz k n (121, [some (.ref (D.1 0)), some (.ref (D.1 37)), some (.ref (D.1 38)), some (.ref (D.1 39)), some (.ref (D.1 52)), some (.int (nI mm)), some (.int (nI i)), some (.int (cellv D.2.2.1 D.2.2.2 (101 + i))), some (.int (nI (lwN (cellv D.2.2.1 D.2.2.2 (101 + i)) 2))), some (.int (nI 1)), some (.int (nI (lwN (cellv D.2.2.1 D.2.2.2 (101 + i) >>> (nI 1 &&& 31)) 36))), none, none], [.int (nI (lwN (cellv D.2.2.1 D.2.2.2 (101 + i) >>> (nI 7 &&& 31)) 31)), .int (nI 1)])
          have hlw14 := lwN_lt (cellv D.2.2.1 D.2.2.2 (101 + i) >>> (nI 7 &&& 31)) (show 0 < 31 by decide)
          refine Z_run C it_Lw_setUp 1 (f2 := (122, [some (.ref (D.1 0)), some (.ref (D.1 37)), some (.ref (D.1 38)), some (.ref (D.1 39)), some (.ref (D.1 52)), some (.int (nI mm)), some (.int (nI i)), some (.int (cellv D.2.2.1 D.2.2.2 (101 + i))), some (.int (nI (lwN (cellv D.2.2.1 D.2.2.2 (101 + i)) 2))), some (.int (nI 1)), some (.int (nI (lwN (cellv D.2.2.1 D.2.2.2 (101 + i) >>> (nI 1 &&& 31)) 36))), none, none], [.int (nI 1 + nI (lwN (cellv D.2.2.1 D.2.2.2 (101 + i) >>> (nI 7 &&& 31)) 31))])) rfl ?_
          rw [nI_add 1 (lwN (cellv D.2.2.1 D.2.2.2 (101 + i) >>> (nI 7 &&& 31)) 31)]
          refine Z_run C it_Lw_setUp 1 (f2 := (124, [some (.ref (D.1 0)), some (.ref (D.1 37)), some (.ref (D.1 38)), some (.ref (D.1 39)), some (.ref (D.1 52)), some (.int (nI mm)), some (.int (nI i)), some (.int (cellv D.2.2.1 D.2.2.2 (101 + i))), some (.int (nI (lwN (cellv D.2.2.1 D.2.2.2 (101 + i)) 2))), some (.int (nI 1)), some (.int (nI (lwN (cellv D.2.2.1 D.2.2.2 (101 + i) >>> (nI 1 &&& 31)) 36))), some (.int (nI (1 + lwN (cellv D.2.2.1 D.2.2.2 (101 + i) >>> (nI 7 &&& 31)) 31))), none], [])) rfl ?_
          have hs9 : (lwN (cellv D.2.2.1 D.2.2.2 (101 + i)) 2) < 2 := by first | omega | exact lwN_lt _ (by decide)
          have hb9 : (lwN (cellv D.2.2.1 D.2.2.2 (101 + i) >>> (nI 1 &&& 31)) 36) < 36 := lwN_lt _ (by decide)
          have hc9 : 1 + lwN (cellv D.2.2.1 D.2.2.2 (101 + i) >>> (nI 7 &&& 31)) 31 < 32 ∧ 1 ≤ 1 + lwN (cellv D.2.2.1 D.2.2.2 (101 + i) >>> (nI 7 &&& 31)) 31 := by omega
          refine su_124 hD hL C q hS hi31 (by omega) (by omega) hb9 (fun b hb hfree => ?_)
          exact su_149_l hD hL C q hS hi31 hk hn hs9 hb hc9.1 hc9.2 (fun z => by first | omega | exact ⟨rfl, rfl⟩) hfree kk
  · replace hc1 : ¬ _ := fun z9 => hc1 ((nI_leI (a := 2) (b := i) (by omega) (by omega)).mpr z9)
    refine Z_run C it_Lw_setUp 5 (f2 := (60, [some (.ref (D.1 0)), some (.ref (D.1 37)), some (.ref (D.1 38)), some (.ref (D.1 39)), some (.ref (D.1 52)), some (.int (nI mm)), some (.int (nI i)), some (.int (cellv D.2.2.1 D.2.2.2 (101 + i))), some (.int (nI i)), none, none, none, none], [.int (nI 2), .int (nI i)])) rfl ?_
    refine Z_br C it_Lw_setUp rfl rfl (fun hc7 => ?_) (fun hc7 => ?_)
    · replace hc7 := (nI_ltI (a := i) (b := 2) (by omega) (by omega)).mp hc7
      refine Z_run C it_Lw_setUp 7 (f2 := (89, [some (.ref (D.1 0)), some (.ref (D.1 37)), some (.ref (D.1 38)), some (.ref (D.1 39)), some (.ref (D.1 52)), some (.int (nI mm)), some (.int (nI i)), some (.int (cellv D.2.2.1 D.2.2.2 (101 + i))), some (.int (nI i)), some (.int (nI 1)), none, none, none], [.int (nI 36), .int (cellv D.2.2.1 D.2.2.2 (101 + i) >>> (nI 1 &&& 31))])) rfl ?_
      refine Zr_callS C it_Lw_setUp rfl p_Lw_low ml_Lw_120 [.int (cellv D.2.2.1 D.2.2.2 (101 + i) >>> (nI 1 &&& 31)), .int (nI 36)] (ct_Lw_low C.ev C.l (cellv D.2.2.1 D.2.2.2 (101 + i) >>> (nI 1 &&& 31)) 36 (by decide) (by decide) (HM D V P PH) _) rfl rfl ⟨by decide, by decide, by show k + 0 + 0 ≤ 120; omega, by show n + 0 + 0 ≤ 720; omega⟩ (Nat.le_of_ble_eq_true rfl) rfl ?_
      show Z E G (HM D V P PH) sz k n (92, [some (.ref (D.1 0)), some (.ref (D.1 37)), some (.ref (D.1 38)), some (.ref (D.1 39)), some (.ref (D.1 52)), some (.int (nI mm)), some (.int (nI i)), some (.int (cellv D.2.2.1 D.2.2.2 (101 + i))), some (.int (nI i)), some (.int (nI 1)), none, none, none], [.int (nI (lwN (cellv D.2.2.1 D.2.2.2 (101 + i) >>> (nI 1 &&& 31)) 36))])
      have hlw15 := lwN_lt (cellv D.2.2.1 D.2.2.2 (101 + i) >>> (nI 1 &&& 31)) (show 0 < 36 by decide)
      refine Z_run C it_Lw_setUp 9 (f2 := (106, [some (.ref (D.1 0)), some (.ref (D.1 37)), some (.ref (D.1 38)), some (.ref (D.1 39)), some (.ref (D.1 52)), some (.int (nI mm)), some (.int (nI i)), some (.int (cellv D.2.2.1 D.2.2.2 (101 + i))), some (.int (nI i)), some (.int (nI 1)), some (.int (nI (lwN (cellv D.2.2.1 D.2.2.2 (101 + i) >>> (nI 1 &&& 31)) 36))), none, none], [.int (nI 3), .int (cellv D.2.2.1 D.2.2.2 (101 + i) >>> (nI 12 &&& 31)), .int (cellv D.2.2.1 D.2.2.2 (101 + i) >>> (nI 7 &&& 31)), .int (nI 1)])) rfl ?_
      refine Zr_callS C it_Lw_setUp rfl p_Lw_low ml_Lw_120 [.int (cellv D.2.2.1 D.2.2.2 (101 + i) >>> (nI 12 &&& 31)), .int (nI 3)] (ct_Lw_low C.ev C.l (cellv D.2.2.1 D.2.2.2 (101 + i) >>> (nI 12 &&& 31)) 3 (by decide) (by decide) (HM D V P PH) _) rfl rfl ⟨by decide, by decide, by show k + 0 + 0 ≤ 120; omega, by show n + 0 + 0 ≤ 720; omega⟩ (Nat.le_of_ble_eq_true rfl) rfl ?_
      show Z E G (HM D V P PH) sz k n (109, [some (.ref (D.1 0)), some (.ref (D.1 37)), some (.ref (D.1 38)), some (.ref (D.1 39)), some (.ref (D.1 52)), some (.int (nI mm)), some (.int (nI i)), some (.int (cellv D.2.2.1 D.2.2.2 (101 + i))), some (.int (nI i)), some (.int (nI 1)), some (.int (nI (lwN (cellv D.2.2.1 D.2.2.2 (101 + i) >>> (nI 1 &&& 31)) 36))), none, none], [.int (nI (lwN (cellv D.2.2.1 D.2.2.2 (101 + i) >>> (nI 12 &&& 31)) 3)), .int (cellv D.2.2.1 D.2.2.2 (101 + i) >>> (nI 7 &&& 31)), .int (nI 1)])
      have hlw16 := lwN_lt (cellv D.2.2.1 D.2.2.2 (101 + i) >>> (nI 12 &&& 31)) (show 0 < 3 by decide)
      refine Z_br C it_Lw_setUp rfl rfl (fun hc8 => ?_) (fun hc8 => ?_)
      · replace hc8 : ¬ _ := fun z9 => hc8 ((nI_e0 (a := lwN (cellv D.2.2.1 D.2.2.2 (101 + i) >>> (nI 12 &&& 31)) 3) (by omega)).mpr z9)
        refine Z_run C it_Lw_setUp 1 (f2 := (118, [some (.ref (D.1 0)), some (.ref (D.1 37)), some (.ref (D.1 38)), some (.ref (D.1 39)), some (.ref (D.1 52)), some (.int (nI mm)), some (.int (nI i)), some (.int (cellv D.2.2.1 D.2.2.2 (101 + i))), some (.int (nI i)), some (.int (nI 1)), some (.int (nI (lwN (cellv D.2.2.1 D.2.2.2 (101 + i) >>> (nI 1 &&& 31)) 36))), none, none], [.int (nI 3), .int (cellv D.2.2.1 D.2.2.2 (101 + i) >>> (nI 7 &&& 31)), .int (nI 1)])) rfl ?_
        refine Zr_callS C it_Lw_setUp rfl p_Lw_low ml_Lw_120 [.int (cellv D.2.2.1 D.2.2.2 (101 + i) >>> (nI 7 &&& 31)), .int (nI 3)] (ct_Lw_low C.ev C.l (cellv D.2.2.1 D.2.2.2 (101 + i) >>> (nI 7 &&& 31)) 3 (by decide) (by decide) (HM D V P PH) _) rfl rfl ⟨by decide, by decide, by show k + 0 + 0 ≤ 120; omega, by show n + 0 + 0 ≤ 720; omega⟩ (Nat.le_of_ble_eq_true rfl) rfl ?_
        show Z E G (HM D V P PH) sz k n (121, [some (.ref (D.1 0)), some (.ref (D.1 37)), some (.ref (D.1 38)), some (.ref (D.1 39)), some (.ref (D.1 52)), some (.int (nI mm)), some (.int (nI i)), some (.int (cellv D.2.2.1 D.2.2.2 (101 + i))), some (.int (nI i)), some (.int (nI 1)), some (.int (nI (lwN (cellv D.2.2.1 D.2.2.2 (101 + i) >>> (nI 1 &&& 31)) 36))), none, none], [.int (nI (lwN (cellv D.2.2.1 D.2.2.2 (101 + i) >>> (nI 7 &&& 31)) 3)), .int (nI 1)])
        have hlw17 := lwN_lt (cellv D.2.2.1 D.2.2.2 (101 + i) >>> (nI 7 &&& 31)) (show 0 < 3 by decide)
        refine Z_run C it_Lw_setUp 1 (f2 := (122, [some (.ref (D.1 0)), some (.ref (D.1 37)), some (.ref (D.1 38)), some (.ref (D.1 39)), some (.ref (D.1 52)), some (.int (nI mm)), some (.int (nI i)), some (.int (cellv D.2.2.1 D.2.2.2 (101 + i))), some (.int (nI i)), some (.int (nI 1)), some (.int (nI (lwN (cellv D.2.2.1 D.2.2.2 (101 + i) >>> (nI 1 &&& 31)) 36))), none, none], [.int (nI 1 + nI (lwN (cellv D.2.2.1 D.2.2.2 (101 + i) >>> (nI 7 &&& 31)) 3))])) rfl ?_
        rw [nI_add 1 (lwN (cellv D.2.2.1 D.2.2.2 (101 + i) >>> (nI 7 &&& 31)) 3)]
        refine Z_run C it_Lw_setUp 1 (f2 := (124, [some (.ref (D.1 0)), some (.ref (D.1 37)), some (.ref (D.1 38)), some (.ref (D.1 39)), some (.ref (D.1 52)), some (.int (nI mm)), some (.int (nI i)), some (.int (cellv D.2.2.1 D.2.2.2 (101 + i))), some (.int (nI i)), some (.int (nI 1)), some (.int (nI (lwN (cellv D.2.2.1 D.2.2.2 (101 + i) >>> (nI 1 &&& 31)) 36))), some (.int (nI (1 + lwN (cellv D.2.2.1 D.2.2.2 (101 + i) >>> (nI 7 &&& 31)) 3))), none], [])) rfl ?_
        have hs9 : i < 2 := by first | omega | exact lwN_lt _ (by decide)
        have hb9 : (lwN (cellv D.2.2.1 D.2.2.2 (101 + i) >>> (nI 1 &&& 31)) 36) < 36 := lwN_lt _ (by decide)
        have hc9 : 1 + lwN (cellv D.2.2.1 D.2.2.2 (101 + i) >>> (nI 7 &&& 31)) 3 < 32 ∧ 1 ≤ 1 + lwN (cellv D.2.2.1 D.2.2.2 (101 + i) >>> (nI 7 &&& 31)) 3 := by omega
        refine su_124 hD hL C q hS hi31 (by omega) (by omega) hb9 (fun b hb hfree => ?_)
        exact su_149_l hD hL C q hS hi31 hk hn hs9 hb hc9.1 hc9.2 (fun z => by first | omega | exact ⟨rfl, rfl⟩) hfree kk
      · replace hc8 := Classical.not_not.mp hc8
        replace hc8 := (nI_e0 (a := lwN (cellv D.2.2.1 D.2.2.2 (101 + i) >>> (nI 12 &&& 31)) 3) (by omega)).mp hc8
        refine Z_run C it_Lw_setUp 2 (f2 := (118, [some (.ref (D.1 0)), some (.ref (D.1 37)), some (.ref (D.1 38)), some (.ref (D.1 39)), some (.ref (D.1 52)), some (.int (nI mm)), some (.int (nI i)), some (.int (cellv D.2.2.1 D.2.2.2 (101 + i))), some (.int (nI i)), some (.int (nI 1)), some (.int (nI (lwN (cellv D.2.2.1 D.2.2.2 (101 + i) >>> (nI 1 &&& 31)) 36))), none, none], [.int (nI 31), .int (cellv D.2.2.1 D.2.2.2 (101 + i) >>> (nI 7 &&& 31)), .int (nI 1)])) rfl ?_
        refine Zr_callS C it_Lw_setUp rfl p_Lw_low ml_Lw_120 [.int (cellv D.2.2.1 D.2.2.2 (101 + i) >>> (nI 7 &&& 31)), .int (nI 31)] (ct_Lw_low C.ev C.l (cellv D.2.2.1 D.2.2.2 (101 + i) >>> (nI 7 &&& 31)) 31 (by decide) (by decide) (HM D V P PH) _) rfl rfl ⟨by decide, by decide, by show k + 0 + 0 ≤ 120; omega, by show n + 0 + 0 ≤ 720; omega⟩ (Nat.le_of_ble_eq_true rfl) rfl ?_
        show Z E G (HM D V P PH) sz k n (121, [some (.ref (D.1 0)), some (.ref (D.1 37)), some (.ref (D.1 38)), some (.ref (D.1 39)), some (.ref (D.1 52)), some (.int (nI mm)), some (.int (nI i)), some (.int (cellv D.2.2.1 D.2.2.2 (101 + i))), some (.int (nI i)), some (.int (nI 1)), some (.int (nI (lwN (cellv D.2.2.1 D.2.2.2 (101 + i) >>> (nI 1 &&& 31)) 36))), none, none], [.int (nI (lwN (cellv D.2.2.1 D.2.2.2 (101 + i) >>> (nI 7 &&& 31)) 31)), .int (nI 1)])
        have hlw18 := lwN_lt (cellv D.2.2.1 D.2.2.2 (101 + i) >>> (nI 7 &&& 31)) (show 0 < 31 by decide)
        refine Z_run C it_Lw_setUp 1 (f2 := (122, [some (.ref (D.1 0)), some (.ref (D.1 37)), some (.ref (D.1 38)), some (.ref (D.1 39)), some (.ref (D.1 52)), some (.int (nI mm)), some (.int (nI i)), some (.int (cellv D.2.2.1 D.2.2.2 (101 + i))), some (.int (nI i)), some (.int (nI 1)), some (.int (nI (lwN (cellv D.2.2.1 D.2.2.2 (101 + i) >>> (nI 1 &&& 31)) 36))), none, none], [.int (nI 1 + nI (lwN (cellv D.2.2.1 D.2.2.2 (101 + i) >>> (nI 7 &&& 31)) 31))])) rfl ?_
        rw [nI_add 1 (lwN (cellv D.2.2.1 D.2.2.2 (101 + i) >>> (nI 7 &&& 31)) 31)]
        refine Z_run C it_Lw_setUp 1 (f2 := (124, [some (.ref (D.1 0)), some (.ref (D.1 37)), some (.ref (D.1 38)), some (.ref (D.1 39)), some (.ref (D.1 52)), some (.int (nI mm)), some (.int (nI i)), some (.int (cellv D.2.2.1 D.2.2.2 (101 + i))), some (.int (nI i)), some (.int (nI 1)), some (.int (nI (lwN (cellv D.2.2.1 D.2.2.2 (101 + i) >>> (nI 1 &&& 31)) 36))), some (.int (nI (1 + lwN (cellv D.2.2.1 D.2.2.2 (101 + i) >>> (nI 7 &&& 31)) 31))), none], [])) rfl ?_
        have hs9 : i < 2 := by first | omega | exact lwN_lt _ (by decide)
        have hb9 : (lwN (cellv D.2.2.1 D.2.2.2 (101 + i) >>> (nI 1 &&& 31)) 36) < 36 := lwN_lt _ (by decide)
        have hc9 : 1 + lwN (cellv D.2.2.1 D.2.2.2 (101 + i) >>> (nI 7 &&& 31)) 31 < 32 ∧ 1 ≤ 1 + lwN (cellv D.2.2.1 D.2.2.2 (101 + i) >>> (nI 7 &&& 31)) 31 := by omega
        refine su_124 hD hL C q hS hi31 (by omega) (by omega) hb9 (fun b hb hfree => ?_)
        exact su_149_l hD hL C q hS hi31 hk hn hs9 hb hc9.1 hc9.2 (fun z => by first | omega | exact ⟨rfl, rfl⟩) hfree kk
    · replace hc7 : ¬ _ := fun z9 => hc7 ((nI_ltI (a := i) (b := 2) (by omega) (by omega)).mpr z9)
      refine Z_run C it_Lw_setUp 4 (f2 := (70, [some (.ref (D.1 0)), some (.ref (D.1 37)), some (.ref (D.1 38)), some (.ref (D.1 39)), some (.ref (D.1 52)), some (.int (nI mm)), some (.int (nI i)), some (.int (cellv D.2.2.1 D.2.2.2 (101 + i))), some (.int (nI i)), none, none, none, none], [.int (nI 9), .int (cellv D.2.2.1 D.2.2.2 (101 + i) >>> (nI 11 &&& 31))])) rfl ?_
      refine Zr_callS C it_Lw_setUp rfl p_Lw_low ml_Lw_120 [.int (cellv D.2.2.1 D.2.2.2 (101 + i) >>> (nI 11 &&& 31)), .int (nI 9)] (ct_Lw_low C.ev C.l (cellv D.2.2.1 D.2.2.2 (101 + i) >>> (nI 11 &&& 31)) 9 (by decide) (by decide) (HM D V P PH) _) rfl rfl ⟨by decide, by decide, by show k + 0 + 0 ≤ 120; omega, by show n + 0 + 0 ≤ 720; omega⟩ (Nat.le_of_ble_eq_true rfl) rfl ?_
      show Z E G (HM D V P PH) sz k n (73, [some (.ref (D.1 0)), some (.ref (D.1 37)), some (.ref (D.1 38)), some (.ref (D.1 39)), some (.ref (D.1 52)), some (.int (nI mm)), some (.int (nI i)), some (.int (cellv D.2.2.1 D.2.2.2 (101 + i))), some (.int (nI i)), none, none, none, none], [.int (nI (lwN (cellv D.2.2.1 D.2.2.2 (101 + i) >>> (nI 11 &&& 31)) 9))])
      have hlw19 := lwN_lt (cellv D.2.2.1 D.2.2.2 (101 + i) >>> (nI 11 &&& 31)) (show 0 < 9 by decide)
      refine Z_br C it_Lw_setUp rfl rfl (fun hc9 => ?_) (fun hc9 => ?_)
      · replace hc9 : ¬ _ := fun z9 => hc9 ((nI_e0 (a := lwN (cellv D.2.2.1 D.2.2.2 (101 + i) >>> (nI 11 &&& 31)) 9) (by omega)).mpr z9)
        refine Z_run C it_Lw_setUp 6 (f2 := (89, [some (.ref (D.1 0)), some (.ref (D.1 37)), some (.ref (D.1 38)), some (.ref (D.1 39)), some (.ref (D.1 52)), some (.int (nI mm)), some (.int (nI i)), some (.int (cellv D.2.2.1 D.2.2.2 (101 + i))), some (.int (nI i)), some (.int (nI 0)), none, none, none], [.int (nI 36), .int (cellv D.2.2.1 D.2.2.2 (101 + i) >>> (nI 1 &&& 31))])) rfl ?_
        refine Zr_callS C it_Lw_setUp rfl p_Lw_low ml_Lw_120 [.int (cellv D.2.2.1 D.2.2.2 (101 + i) >>> (nI 1 &&& 31)), .int (nI 36)] (ct_Lw_low C.ev C.l (cellv D.2.2.1 D.2.2.2 (101 + i) >>> (nI 1 &&& 31)) 36 (by decide) (by decide) (HM D V P PH) _) rfl rfl ⟨by decide, by decide, by show k + 0 + 0 ≤ 120; omega, by show n + 0 + 0 ≤ 720; omega⟩ (Nat.le_of_ble_eq_true rfl) rfl ?_
        show Z E G (HM D V P PH) sz k n (92, [some (.ref (D.1 0)), some (.ref (D.1 37)), some (.ref (D.1 38)), some (.ref (D.1 39)), some (.ref (D.1 52)), some (.int (nI mm)), some (.int (nI i)), some (.int (cellv D.2.2.1 D.2.2.2 (101 + i))), some (.int (nI i)), some (.int (nI 0)), none, none, none], [.int (nI (lwN (cellv D.2.2.1 D.2.2.2 (101 + i) >>> (nI 1 &&& 31)) 36))])
        have hlw20 := lwN_lt (cellv D.2.2.1 D.2.2.2 (101 + i) >>> (nI 1 &&& 31)) (show 0 < 36 by decide)
        refine Z_run C it_Lw_setUp 9 (f2 := (106, [some (.ref (D.1 0)), some (.ref (D.1 37)), some (.ref (D.1 38)), some (.ref (D.1 39)), some (.ref (D.1 52)), some (.int (nI mm)), some (.int (nI i)), some (.int (cellv D.2.2.1 D.2.2.2 (101 + i))), some (.int (nI i)), some (.int (nI 0)), some (.int (nI (lwN (cellv D.2.2.1 D.2.2.2 (101 + i) >>> (nI 1 &&& 31)) 36))), none, none], [.int (nI 3), .int (cellv D.2.2.1 D.2.2.2 (101 + i) >>> (nI 12 &&& 31)), .int (cellv D.2.2.1 D.2.2.2 (101 + i) >>> (nI 7 &&& 31)), .int (nI 1)])) rfl ?_
        refine Zr_callS C it_Lw_setUp rfl p_Lw_low ml_Lw_120 [.int (cellv D.2.2.1 D.2.2.2 (101 + i) >>> (nI 12 &&& 31)), .int (nI 3)] (ct_Lw_low C.ev C.l (cellv D.2.2.1 D.2.2.2 (101 + i) >>> (nI 12 &&& 31)) 3 (by decide) (by decide) (HM D V P PH) _) rfl rfl ⟨by decide, by decide, by show k + 0 + 0 ≤ 120; omega, by show n + 0 + 0 ≤ 720; omega⟩ (Nat.le_of_ble_eq_true rfl) rfl ?_
        show Z E G (HM D V P PH) sz k n (109, [some (.ref (D.1 0)), some (.ref (D.1 37)), some (.ref (D.1 38)), some (.ref (D.1 39)), some (.ref (D.1 52)), some (.int (nI mm)), some (.int (nI i)), some (.int (cellv D.2.2.1 D.2.2.2 (101 + i))), some (.int (nI i)), some (.int (nI 0)), some (.int (nI (lwN (cellv D.2.2.1 D.2.2.2 (101 + i) >>> (nI 1 &&& 31)) 36))), none, none], [.int (nI (lwN (cellv D.2.2.1 D.2.2.2 (101 + i) >>> (nI 12 &&& 31)) 3)), .int (cellv D.2.2.1 D.2.2.2 (101 + i) >>> (nI 7 &&& 31)), .int (nI 1)])
        have hlw21 := lwN_lt (cellv D.2.2.1 D.2.2.2 (101 + i) >>> (nI 12 &&& 31)) (show 0 < 3 by decide)
        refine Z_br C it_Lw_setUp rfl rfl (fun hc10 => ?_) (fun hc10 => ?_)
        · replace hc10 : ¬ _ := fun z9 => hc10 ((nI_e0 (a := lwN (cellv D.2.2.1 D.2.2.2 (101 + i) >>> (nI 12 &&& 31)) 3) (by omega)).mpr z9)
          refine Z_run C it_Lw_setUp 1 (f2 := (118, [some (.ref (D.1 0)), some (.ref (D.1 37)), some (.ref (D.1 38)), some (.ref (D.1 39)), some (.ref (D.1 52)), some (.int (nI mm)), some (.int (nI i)), some (.int (cellv D.2.2.1 D.2.2.2 (101 + i))), some (.int (nI i)), some (.int (nI 0)), some (.int (nI (lwN (cellv D.2.2.1 D.2.2.2 (101 + i) >>> (nI 1 &&& 31)) 36))), none, none], [.int (nI 3), .int (cellv D.2.2.1 D.2.2.2 (101 + i) >>> (nI 7 &&& 31)), .int (nI 1)])) rfl ?_
          refine Zr_callS C it_Lw_setUp rfl p_Lw_low ml_Lw_120 [.int (cellv D.2.2.1 D.2.2.2 (101 + i) >>> (nI 7 &&& 31)), .int (nI 3)] (ct_Lw_low C.ev C.l (cellv D.2.2.1 D.2.2.2 (101 + i) >>> (nI 7 &&& 31)) 3 (by decide) (by decide) (HM D V P PH) _) rfl rfl ⟨by decide, by decide, by show k + 0 + 0 ≤ 120; omega, by show n + 0 + 0 ≤ 720; omega⟩ (Nat.le_of_ble_eq_true rfl) rfl ?_
          show Z E G (HM D V P PH) sz k n (121, [some (.ref (D.1 0)), some (.ref (D.1 37)), some (.ref (D.1 38)), some (.ref (D.1 39)), some (.ref (D.1 52)), some (.int (nI mm)), some (.int (nI i)), some (.int (cellv D.2.2.1 D.2.2.2 (101 + i))), some (.int (nI i)), some (.int (nI 0)), some (.int (nI (lwN (cellv D.2.2.1 D.2.2.2 (101 + i) >>> (nI 1 &&& 31)) 36))), none, none], [.int (nI (lwN (cellv D.2.2.1 D.2.2.2 (101 + i) >>> (nI 7 &&& 31)) 3)), .int (nI 1)])
          have hlw22 := lwN_lt (cellv D.2.2.1 D.2.2.2 (101 + i) >>> (nI 7 &&& 31)) (show 0 < 3 by decide)
          refine Z_run C it_Lw_setUp 1 (f2 := (122, [some (.ref (D.1 0)), some (.ref (D.1 37)), some (.ref (D.1 38)), some (.ref (D.1 39)), some (.ref (D.1 52)), some (.int (nI mm)), some (.int (nI i)), some (.int (cellv D.2.2.1 D.2.2.2 (101 + i))), some (.int (nI i)), some (.int (nI 0)), some (.int (nI (lwN (cellv D.2.2.1 D.2.2.2 (101 + i) >>> (nI 1 &&& 31)) 36))), none, none], [.int (nI 1 + nI (lwN (cellv D.2.2.1 D.2.2.2 (101 + i) >>> (nI 7 &&& 31)) 3))])) rfl ?_
          rw [nI_add 1 (lwN (cellv D.2.2.1 D.2.2.2 (101 + i) >>> (nI 7 &&& 31)) 3)]
          refine Z_run C it_Lw_setUp 1 (f2 := (124, [some (.ref (D.1 0)), some (.ref (D.1 37)), some (.ref (D.1 38)), some (.ref (D.1 39)), some (.ref (D.1 52)), some (.int (nI mm)), some (.int (nI i)), some (.int (cellv D.2.2.1 D.2.2.2 (101 + i))), some (.int (nI i)), some (.int (nI 0)), some (.int (nI (lwN (cellv D.2.2.1 D.2.2.2 (101 + i) >>> (nI 1 &&& 31)) 36))), some (.int (nI (1 + lwN (cellv D.2.2.1 D.2.2.2 (101 + i) >>> (nI 7 &&& 31)) 3))), none], [])) rfl ?_
          have hs9 : i < 2 := by first | omega | exact lwN_lt _ (by decide)
          have hb9 : (lwN (cellv D.2.2.1 D.2.2.2 (101 + i) >>> (nI 1 &&& 31)) 36) < 36 := lwN_lt _ (by decide)
          have hc9 : 1 + lwN (cellv D.2.2.1 D.2.2.2 (101 + i) >>> (nI 7 &&& 31)) 3 < 32 ∧ 1 ≤ 1 + lwN (cellv D.2.2.1 D.2.2.2 (101 + i) >>> (nI 7 &&& 31)) 3 := by omega
          refine su_124 hD hL C q hS hi31 (by omega) (by omega) hb9 (fun b hb hfree => ?_)
          exact su_149_p hD hL C q hS hi31 hk hn hs9 hb hc9.1 hc9.2 (fun z => by first | omega | exact ⟨rfl, rfl⟩) hfree kk
        · replace hc10 := Classical.not_not.mp hc10
          replace hc10 := (nI_e0 (a := lwN (cellv D.2.2.1 D.2.2.2 (101 + i) >>> (nI 12 &&& 31)) 3) (by omega)).mp hc10
          refine Z_run C it_Lw_setUp 2 (f2 := (118, [some (.ref (D.1 0)), some (.ref (D.1 37)), some (.ref (D.1 38)), some (.ref (D.1 39)), some (.ref (D.1 52)), some (.int (nI mm)), some (.int (nI i)), some (.int (cellv D.2.2.1 D.2.2.2 (101 + i))), some (.int (nI i)), some (.int (nI 0)), some (.int (nI (lwN (cellv D.2.2.1 D.2.2.2 (101 + i) >>> (nI 1 &&& 31)) 36))), none, none], [.int (nI 31), .int (cellv D.2.2.1 D.2.2.2 (101 + i) >>> (nI 7 &&& 31)), .int (nI 1)])) rfl ?_
          refine Zr_callS C it_Lw_setUp rfl p_Lw_low ml_Lw_120 [.int (cellv D.2.2.1 D.2.2.2 (101 + i) >>> (nI 7 &&& 31)), .int (nI 31)] (ct_Lw_low C.ev C.l (cellv D.2.2.1 D.2.2.2 (101 + i) >>> (nI 7 &&& 31)) 31 (by decide) (by decide) (HM D V P PH) _) rfl rfl ⟨by decide, by decide, by show k + 0 + 0 ≤ 120; omega, by show n + 0 + 0 ≤ 720; omega⟩ (Nat.le_of_ble_eq_true rfl) rfl ?_
          show Z E G (HM D V P PH) sz k n (121, [some (.ref (D.1 0)), some (.ref (D.1 37)), some (.ref (D.1 38)), some (.ref (D.1 39)), some (.ref (D.1 52)), some (.int (nI mm)), some (.int (nI i)), some (.int (cellv D.2.2.1 D.2.2.2 (101 + i))), some (.int (nI i)), some (.int (nI 0)), some (.int (nI (lwN (cellv D.2.2.1 D.2.2.2 (101 + i) >>> (nI 1 &&& 31)) 36))), none, none], [.int (nI (lwN (cellv D.2.2.1 D.2.2.2 (101 + i) >>> (nI 7 &&& 31)) 31)), .int (nI 1)])
          have hlw23 := lwN_lt (cellv D.2.2.1 D.2.2.2 (101 + i) >>> (nI 7 &&& 31)) (show 0 < 31 by decide)
          refine Z_run C it_Lw_setUp 1 (f2 := (122, [some (.ref (D.1 0)), some (.ref (D.1 37)), some (.ref (D.1 38)), some (.ref (D.1 39)), some (.ref (D.1 52)), some (.int (nI mm)), some (.int (nI i)), some (.int (cellv D.2.2.1 D.2.2.2 (101 + i))), some (.int (nI i)), some (.int (nI 0)), some (.int (nI (lwN (cellv D.2.2.1 D.2.2.2 (101 + i) >>> (nI 1 &&& 31)) 36))), none, none], [.int (nI 1 + nI (lwN (cellv D.2.2.1 D.2.2.2 (101 + i) >>> (nI 7 &&& 31)) 31))])) rfl ?_
          rw [nI_add 1 (lwN (cellv D.2.2.1 D.2.2.2 (101 + i) >>> (nI 7 &&& 31)) 31)]
          refine Z_run C it_Lw_setUp 1 (f2 := (124, [some (.ref (D.1 0)), some (.ref (D.1 37)), some (.ref (D.1 38)), some (.ref (D.1 39)), some (.ref (D.1 52)), some (.int (nI mm)), some (.int (nI i)), some (.int (cellv D.2.2.1 D.2.2.2 (101 + i))), some (.int (nI i)), some (.int (nI 0)), some (.int (nI (lwN (cellv D.2.2.1 D.2.2.2 (101 + i) >>> (nI 1 &&& 31)) 36))), some (.int (nI (1 + lwN (cellv D.2.2.1 D.2.2.2 (101 + i) >>> (nI 7 &&& 31)) 31))), none], [])) rfl ?_
          have hs9 : i < 2 := by first | omega | exact lwN_lt _ (by decide)
          have hb9 : (lwN (cellv D.2.2.1 D.2.2.2 (101 + i) >>> (nI 1 &&& 31)) 36) < 36 := lwN_lt _ (by decide)
          have hc9 : 1 + lwN (cellv D.2.2.1 D.2.2.2 (101 + i) >>> (nI 7 &&& 31)) 31 < 32 ∧ 1 ≤ 1 + lwN (cellv D.2.2.1 D.2.2.2 (101 + i) >>> (nI 7 &&& 31)) 31 := by omega
          refine su_124 hD hL C q hS hi31 (by omega) (by omega) hb9 (fun b hb hfree => ?_)
          exact su_149_p hD hL C q hS hi31 hk hn hs9 hb hc9.1 hc9.2 (fun z => by first | omega | exact ⟨rfl, rfl⟩) hfree kk
      · replace hc9 := Classical.not_not.mp hc9
        replace hc9 := (nI_e0 (a := lwN (cellv D.2.2.1 D.2.2.2 (101 + i) >>> (nI 11 &&& 31)) 9) (by omega)).mp hc9
        refine Z_run C it_Lw_setUp 7 (f2 := (89, [some (.ref (D.1 0)), some (.ref (D.1 37)), some (.ref (D.1 38)), some (.ref (D.1 39)), some (.ref (D.1 52)), some (.int (nI mm)), some (.int (nI i)), some (.int (cellv D.2.2.1 D.2.2.2 (101 + i))), some (.int (nI i)), some (.int (nI 1)), none, none, none], [.int (nI 36), .int (cellv D.2.2.1 D.2.2.2 (101 + i) >>> (nI 1 &&& 31))])) rfl ?_
        refine Zr_callS C it_Lw_setUp rfl p_Lw_low ml_Lw_120 [.int (cellv D.2.2.1 D.2.2.2 (101 + i) >>> (nI 1 &&& 31)), .int (nI 36)] (ct_Lw_low C.ev C.l (cellv D.2.2.1 D.2.2.2 (101 + i) >>> (nI 1 &&& 31)) 36 (by decide) (by decide) (HM D V P PH) _) rfl rfl ⟨by decide, by decide, by show k + 0 + 0 ≤ 120; omega, by show n + 0 + 0 ≤ 720; omega⟩ (Nat.le_of_ble_eq_true rfl) rfl ?_
        show Z E G (HM D V P PH) sz k n (92, [some (.ref (D.1 0)), some (.ref (D.1 37)), some (.ref (D.1 38)), some (.ref (D.1 39)), some (.ref (D.1 52)), some (.int (nI mm)), some (.int (nI i)), some (.int (cellv D.2.2.1 D.2.2.2 (101 + i))), some (.int (nI i)), some (.int (nI 1)), none, none, none], [.int (nI (lwN (cellv D.2.2.1 D.2.2.2 (101 + i) >>> (nI 1 &&& 31)) 36))])
        have hlw24 := lwN_lt (cellv D.2.2.1 D.2.2.2 (101 + i) >>> (nI 1 &&& 31)) (show 0 < 36 by decide)
        refine Z_run C it_Lw_setUp 9 (f2 := (106, [some (.ref (D.1 0)), some (.ref (D.1 37)), some (.ref (D.1 38)), some (.ref (D.1 39)), some (.ref (D.1 52)), some (.int (nI mm)), some (.int (nI i)), some (.int (cellv D.2.2.1 D.2.2.2 (101 + i))), some (.int (nI i)), some (.int (nI 1)), some (.int (nI (lwN (cellv D.2.2.1 D.2.2.2 (101 + i) >>> (nI 1 &&& 31)) 36))), none, none], [.int (nI 3), .int (cellv D.2.2.1 D.2.2.2 (101 + i) >>> (nI 12 &&& 31)), .int (cellv D.2.2.1 D.2.2.2 (101 + i) >>> (nI 7 &&& 31)), .int (nI 1)])) rfl ?_
        refine Zr_callS C it_Lw_setUp rfl p_Lw_low ml_Lw_120 [.int (cellv D.2.2.1 D.2.2.2 (101 + i) >>> (nI 12 &&& 31)), .int (nI 3)] (ct_Lw_low C.ev C.l (cellv D.2.2.1 D.2.2.2 (101 + i) >>> (nI 12 &&& 31)) 3 (by decide) (by decide) (HM D V P PH) _) rfl rfl ⟨by decide, by decide, by show k + 0 + 0 ≤ 120; omega, by show n + 0 + 0 ≤ 720; omega⟩ (Nat.le_of_ble_eq_true rfl) rfl ?_
        show Z E G (HM D V P PH) sz k n (109, [some (.ref (D.1 0)), some (.ref (D.1 37)), some (.ref (D.1 38)), some (.ref (D.1 39)), some (.ref (D.1 52)), some (.int (nI mm)), some (.int (nI i)), some (.int (cellv D.2.2.1 D.2.2.2 (101 + i))), some (.int (nI i)), some (.int (nI 1)), some (.int (nI (lwN (cellv D.2.2.1 D.2.2.2 (101 + i) >>> (nI 1 &&& 31)) 36))), none, none], [.int (nI (lwN (cellv D.2.2.1 D.2.2.2 (101 + i) >>> (nI 12 &&& 31)) 3)), .int (cellv D.2.2.1 D.2.2.2 (101 + i) >>> (nI 7 &&& 31)), .int (nI 1)])
        have hlw25 := lwN_lt (cellv D.2.2.1 D.2.2.2 (101 + i) >>> (nI 12 &&& 31)) (show 0 < 3 by decide)
        refine Z_br C it_Lw_setUp rfl rfl (fun hc11 => ?_) (fun hc11 => ?_)
        · replace hc11 : ¬ _ := fun z9 => hc11 ((nI_e0 (a := lwN (cellv D.2.2.1 D.2.2.2 (101 + i) >>> (nI 12 &&& 31)) 3) (by omega)).mpr z9)
          refine Z_run C it_Lw_setUp 1 (f2 := (118, [some (.ref (D.1 0)), some (.ref (D.1 37)), some (.ref (D.1 38)), some (.ref (D.1 39)), some (.ref (D.1 52)), some (.int (nI mm)), some (.int (nI i)), some (.int (cellv D.2.2.1 D.2.2.2 (101 + i))), some (.int (nI i)), some (.int (nI 1)), some (.int (nI (lwN (cellv D.2.2.1 D.2.2.2 (101 + i) >>> (nI 1 &&& 31)) 36))), none, none], [.int (nI 3), .int (cellv D.2.2.1 D.2.2.2 (101 + i) >>> (nI 7 &&& 31)), .int (nI 1)])) rfl ?_
          refine Zr_callS C it_Lw_setUp rfl p_Lw_low ml_Lw_120 [.int (cellv D.2.2.1 D.2.2.2 (101 + i) >>> (nI 7 &&& 31)), .int (nI 3)] (ct_Lw_low C.ev C.l (cellv D.2.2.1 D.2.2.2 (101 + i) >>> (nI 7 &&& 31)) 3 (by decide) (by decide) (HM D V P PH) _) rfl rfl ⟨by decide, by decide, by show k + 0 + 0 ≤ 120; omega, by show n + 0 + 0 ≤ 720; omega⟩ (Nat.le_of_ble_eq_true rfl) rfl ?_
          show Z E G (HM D V P PH) sz k n (121, [some (.ref (D.1 0)), some (.ref (D.1 37)), some (.ref (D.1 38)), some (.ref (D.1 39)), some (.ref (D.1 52)), some (.int (nI mm)), some (.int (nI i)), some (.int (cellv D.2.2.1 D.2.2.2 (101 + i))), some (.int (nI i)), some (.int (nI 1)), some (.int (nI (lwN (cellv D.2.2.1 D.2.2.2 (101 + i) >>> (nI 1 &&& 31)) 36))), none, none], [.int (nI (lwN (cellv D.2.2.1 D.2.2.2 (101 + i) >>> (nI 7 &&& 31)) 3)), .int (nI 1)])
          have hlw26 := lwN_lt (cellv D.2.2.1 D.2.2.2 (101 + i) >>> (nI 7 &&& 31)) (show 0 < 3 by decide)
          refine Z_run C it_Lw_setUp 1 (f2 := (122, [some (.ref (D.1 0)), some (.ref (D.1 37)), some (.ref (D.1 38)), some (.ref (D.1 39)), some (.ref (D.1 52)), some (.int (nI mm)), some (.int (nI i)), some (.int (cellv D.2.2.1 D.2.2.2 (101 + i))), some (.int (nI i)), some (.int (nI 1)), some (.int (nI (lwN (cellv D.2.2.1 D.2.2.2 (101 + i) >>> (nI 1 &&& 31)) 36))), none, none], [.int (nI 1 + nI (lwN (cellv D.2.2.1 D.2.2.2 (101 + i) >>> (nI 7 &&& 31)) 3))])) rfl ?_
          rw [nI_add 1 (lwN (cellv D.2.2.1 D.2.2.2 (101 + i) >>> (nI 7 &&& 31)) 3)]
          refine Z_run C it_Lw_setUp 1 (f2 := (124, [some (.ref (D.1 0)), some (.ref (D.1 37)), some (.ref (D.1 38)), some (.ref (D.1 39)), some (.ref (D.1 52)), some (.int (nI mm)), some (.int (nI i)), some (.int (cellv D.2.2.1 D.2.2.2 (101 + i))), some (.int (nI i)), some (.int (nI 1)), some (.int (nI (lwN (cellv D.2.2.1 D.2.2.2 (101 + i) >>> (nI 1 &&& 31)) 36))), some (.int (nI (1 + lwN (cellv D.2.2.1 D.2.2.2 (101 + i) >>> (nI 7 &&& 31)) 3))), none], [])) rfl ?_
          have hs9 : i < 2 := by first | omega | exact lwN_lt _ (by decide)
          have hb9 : (lwN (cellv D.2.2.1 D.2.2.2 (101 + i) >>> (nI 1 &&& 31)) 36) < 36 := lwN_lt _ (by decide)
          have hc9 : 1 + lwN (cellv D.2.2.1 D.2.2.2 (101 + i) >>> (nI 7 &&& 31)) 3 < 32 ∧ 1 ≤ 1 + lwN (cellv D.2.2.1 D.2.2.2 (101 + i) >>> (nI 7 &&& 31)) 3 := by omega
          refine su_124 hD hL C q hS hi31 (by omega) (by omega) hb9 (fun b hb hfree => ?_)
          exact su_149_l hD hL C q hS hi31 hk hn hs9 hb hc9.1 hc9.2 (fun z => by first | omega | exact ⟨rfl, rfl⟩) hfree kk
        · replace hc11 := Classical.not_not.mp hc11
          replace hc11 := (nI_e0 (a := lwN (cellv D.2.2.1 D.2.2.2 (101 + i) >>> (nI 12 &&& 31)) 3) (by omega)).mp hc11
          refine Z_run C it_Lw_setUp 2 (f2 := (118, [some (.ref (D.1 0)), some (.ref (D.1 37)), some (.ref (D.1 38)), some (.ref (D.1 39)), some (.ref (D.1 52)), some (.int (nI mm)), some (.int (nI i)), some (.int (cellv D.2.2.1 D.2.2.2 (101 + i))), some (.int (nI i)), some (.int (nI 1)), some (.int (nI (lwN (cellv D.2.2.1 D.2.2.2 (101 + i) >>> (nI 1 &&& 31)) 36))), none, none], [.int (nI 31), .int (cellv D.2.2.1 D.2.2.2 (101 + i) >>> (nI 7 &&& 31)), .int (nI 1)])) rfl ?_
          refine Zr_callS C it_Lw_setUp rfl p_Lw_low ml_Lw_120 [.int (cellv D.2.2.1 D.2.2.2 (101 + i) >>> (nI 7 &&& 31)), .int (nI 31)] (ct_Lw_low C.ev C.l (cellv D.2.2.1 D.2.2.2 (101 + i) >>> (nI 7 &&& 31)) 31 (by decide) (by decide) (HM D V P PH) _) rfl rfl ⟨by decide, by decide, by show k + 0 + 0 ≤ 120; omega, by show n + 0 + 0 ≤ 720; omega⟩ (Nat.le_of_ble_eq_true rfl) rfl ?_
          show Z E G (HM D V P PH) sz k n (121, [some (.ref (D.1 0)), some (.ref (D.1 37)), some (.ref (D.1 38)), some (.ref (D.1 39)), some (.ref (D.1 52)), some (.int (nI mm)), some (.int (nI i)), some (.int (cellv D.2.2.1 D.2.2.2 (101 + i))), some (.int (nI i)), some (.int (nI 1)), some (.int (nI (lwN (cellv D.2.2.1 D.2.2.2 (101 + i) >>> (nI 1 &&& 31)) 36))), none, none], [.int (nI (lwN (cellv D.2.2.1 D.2.2.2 (101 + i) >>> (nI 7 &&& 31)) 31)), .int (nI 1)])
          have hlw27 := lwN_lt (cellv D.2.2.1 D.2.2.2 (101 + i) >>> (nI 7 &&& 31)) (show 0 < 31 by decide)
          refine Z_run C it_Lw_setUp 1 (f2 := (122, [some (.ref (D.1 0)), some (.ref (D.1 37)), some (.ref (D.1 38)), some (.ref (D.1 39)), some (.ref (D.1 52)), some (.int (nI mm)), some (.int (nI i)), some (.int (cellv D.2.2.1 D.2.2.2 (101 + i))), some (.int (nI i)), some (.int (nI 1)), some (.int (nI (lwN (cellv D.2.2.1 D.2.2.2 (101 + i) >>> (nI 1 &&& 31)) 36))), none, none], [.int (nI 1 + nI (lwN (cellv D.2.2.1 D.2.2.2 (101 + i) >>> (nI 7 &&& 31)) 31))])) rfl ?_
          rw [nI_add 1 (lwN (cellv D.2.2.1 D.2.2.2 (101 + i) >>> (nI 7 &&& 31)) 31)]
          refine Z_run C it_Lw_setUp 1 (f2 := (124, [some (.ref (D.1 0)), some (.ref (D.1 37)), some (.ref (D.1 38)), some (.ref (D.1 39)), some (.ref (D.1 52)), some (.int (nI mm)), some (.int (nI i)), some (.int (cellv D.2.2.1 D.2.2.2 (101 + i))), some (.int (nI i)), some (.int (nI 1)), some (.int (nI (lwN (cellv D.2.2.1 D.2.2.2 (101 + i) >>> (nI 1 &&& 31)) 36))), some (.int (nI (1 + lwN (cellv D.2.2.1 D.2.2.2 (101 + i) >>> (nI 7 &&& 31)) 31))), none], [])) rfl ?_
          have hs9 : i < 2 := by first | omega | exact lwN_lt _ (by decide)
          have hb9 : (lwN (cellv D.2.2.1 D.2.2.2 (101 + i) >>> (nI 1 &&& 31)) 36) < 36 := lwN_lt _ (by decide)
          have hc9 : 1 + lwN (cellv D.2.2.1 D.2.2.2 (101 + i) >>> (nI 7 &&& 31)) 31 < 32 ∧ 1 ≤ 1 + lwN (cellv D.2.2.1 D.2.2.2 (101 + i) >>> (nI 7 &&& 31)) 31 := by omega
          refine su_124 hD hL C q hS hi31 (by omega) (by omega) hb9 (fun b hb hfree => ?_)
          exact su_149_l hD hL C q hS hi31 hk hn hs9 hb hc9.1 hc9.2 (fun z => by first | omega | exact ⟨rfl, rfl⟩) hfree kk
set_option maxRecDepth 20000 in
theorem su_19 {E : zE} {G : zG} {D : zD} (hD : zDok E D) (hL : D.2.2.1 ≤ 260) {PH : aH} {sz : Nat} (C : zCx E G c_Lw_setUp 13 y_Lw_setUp.cls y_Lw_setUp.name (some .boolean) rm_Lw_setUp) (q : zEndX E G (zSU D PH sz) rm_Lw_setUp.cells rm_Lw_setUp.slots) {mm : Nat} (hm4 : 4 ≤ mm) (hm : mm ≤ 16) : ∀ (y i : Nat) (V : Nat → Nat → Int32) (P : Nat → Nat → Value) (F : Nat → Nat), mm - i < y → i ≤ mm → SU D V P PH sz F i → Z E G (HM D V P PH) sz (i * 6) (i * 36) (19, [some (.ref (D.1 0)), some (.ref (D.1 37)), some (.ref (D.1 38)), some (.ref (D.1 39)), some (.ref (D.1 52)), some (.int (nI mm)), some (.int (nI i)), none, none, none, none, none, none], []) := by
  intro y
  induction y with
  | zero =>
    intro i V P F h1 h2
    omega
  | succ y ih =>
    intro i V P F h1 h2 hS
    refine Z_run C it_Lw_setUp 2 (f2 := (23, [some (.ref (D.1 0)), some (.ref (D.1 37)), some (.ref (D.1 38)), some (.ref (D.1 39)), some (.ref (D.1 52)), some (.int (nI mm)), some (.int (nI i)), none, none, none, none, none, none], [.int (nI mm), .int (nI i)])) rfl ?_
    refine Z_br C it_Lw_setUp rfl rfl (fun hc1 => ?_) (fun hc1 => ?_)
    · replace hc1 := (nI_leI (a := mm) (b := i) (by omega) (by omega)).mp hc1
      refine Z_run C it_Lw_setUp 1 (f2 := (275, [some (.ref (D.1 0)), some (.ref (D.1 37)), some (.ref (D.1 38)), some (.ref (D.1 39)), some (.ref (D.1 52)), some (.int (nI mm)), some (.int (nI i)), none, none, none, none, none, none], [.int (nI 1)])) rfl ?_
      exact Z_zret C q.e it_Lw_setUp rfl (Or.inr rfl) (⟨rfl, rfl, V, P, F, rfl, hS.1, hS.2.1, hS.2.2.1, fun z => by omega, fun s hs _ => hS.2.2.2.2 s hs (by omega)⟩) (by show i * 6 ≤ 120; omega) (by show i * 36 ≤ 720; omega)
    · replace hc1 : ¬ _ := fun z9 => hc1 ((nI_leI (a := mm) (b := i) (by omega) (by omega)).mpr z9)
      refine su_26 hD hL C q hS (by omega) (by omega) (by omega) (fun V2 P2 F2 hS2 => ?_)
      refine Z_run C it_Lw_setUp 1 (f2 := (271, [some (.ref (D.1 0)), some (.ref (D.1 37)), some (.ref (D.1 38)), some (.ref (D.1 39)), some (.ref (D.1 52)), some (.int (nI mm)), some (.int (nI i + nI 1)), none, none, none, none, none, none], [])) rfl ?_
      rw [nI_add i 1]
      refine Z_run C it_Lw_setUp 1 (f2 := (19, [some (.ref (D.1 0)), some (.ref (D.1 37)), some (.ref (D.1 38)), some (.ref (D.1 39)), some (.ref (D.1 52)), some (.int (nI mm)), some (.int (nI (i + 1))), none, none, none, none, none, none], [])) rfl ?_
      rw [show i * 6 + 6 = (i + 1) * 6 by omega, show i * 36 + 36 = (i + 1) * 36 by omega]
      exact ih (i + 1) V2 P2 F2 (by omega) (by omega) hS2
set_option maxRecDepth 20000 in
theorem ct_Lw_setUp {E : zE} (hE : zEv E) {l : Launch} (hl : l.stackTraces = false) {D : zD} (hD : zDok E D) (hL : D.2.2.1 ≤ 260) {V : Nat → Nat → Int32} {P : Nat → Nat → Value} {PH : aH} {sz : Nat} {F : Nat → Nat} (hS : SU D V P PH sz F 0) : zM E l y_Lw_setUp [.code y_Lw_setUp c_Lw_setUp 13 (some .boolean)] rm_Lw_setUp [.ref (D.1 0), .ref (D.1 37), .ref (D.1 38), .ref (D.1 39), .ref (D.1 52)] (HM D V P PH) sz (zSU D PH sz) := by
  refine zM_of hE hl (by decide +kernel) [some (.ref (D.1 0)), some (.ref (D.1 37)), some (.ref (D.1 38)), some (.ref (D.1 39)), some (.ref (D.1 52)), none, none, none, none, none, none, none, none] ⟨rfl, rfl, Nat.le_of_ble_eq_true rfl⟩ ?_
  intro G C q htb
  refine Z_run C it_Lw_setUp 3 (f2 := (5, [some (.ref (D.1 0)), some (.ref (D.1 37)), some (.ref (D.1 38)), some (.ref (D.1 39)), some (.ref (D.1 52)), none, none, none, none, none, none, none, none], [.int (nI 100), .ref (D.1 52), .int (nI 4)])) rfl ?_
  refine Zr_callS C it_Lw_setUp rfl p_Lw_cell ml_Lw_116 [.ref (D.1 52), .int (nI 100)] (ct_Lw_cell C.ev C.l D.2.2.1 hL D.2.2.2 (HM D V P PH) _ (HM_52 hD) 100 (by omega) _) rfl rfl ⟨by decide, by decide, by show 0 + 0 + 0 ≤ 120; omega, by show 0 + 0 + 0 ≤ 720; omega⟩ (Nat.le_of_ble_eq_true rfl) rfl ?_
  show Z E G (HM D V P PH) sz 0 0 (8, [some (.ref (D.1 0)), some (.ref (D.1 37)), some (.ref (D.1 38)), some (.ref (D.1 39)), some (.ref (D.1 52)), none, none, none, none, none, none, none, none], [.int (cellv D.2.2.1 D.2.2.2 100), .int (nI 4)])
  refine Z_run C it_Lw_setUp 1 (f2 := (10, [some (.ref (D.1 0)), some (.ref (D.1 37)), some (.ref (D.1 38)), some (.ref (D.1 39)), some (.ref (D.1 52)), none, none, none, none, none, none, none, none], [.int (nI 13), .int (cellv D.2.2.1 D.2.2.2 100), .int (nI 4)])) rfl ?_
  refine Zr_callS C it_Lw_setUp rfl p_Lw_low ml_Lw_120 [.int (cellv D.2.2.1 D.2.2.2 100), .int (nI 13)] (ct_Lw_low C.ev C.l (cellv D.2.2.1 D.2.2.2 100) 13 (by decide) (by decide) (HM D V P PH) _) rfl rfl ⟨by decide, by decide, by show 0 + 0 + 0 ≤ 120; omega, by show 0 + 0 + 0 ≤ 720; omega⟩ (Nat.le_of_ble_eq_true rfl) rfl ?_
  show Z E G (HM D V P PH) sz 0 0 (13, [some (.ref (D.1 0)), some (.ref (D.1 37)), some (.ref (D.1 38)), some (.ref (D.1 39)), some (.ref (D.1 52)), none, none, none, none, none, none, none, none], [.int (nI (lwN (cellv D.2.2.1 D.2.2.2 100) 13)), .int (nI 4)])
  have hlw1 := lwN_lt (cellv D.2.2.1 D.2.2.2 100) (show 0 < 13 by decide)
  refine Z_run C it_Lw_setUp 1 (f2 := (14, [some (.ref (D.1 0)), some (.ref (D.1 37)), some (.ref (D.1 38)), some (.ref (D.1 39)), some (.ref (D.1 52)), none, none, none, none, none, none, none, none], [.int (nI 4 + nI (lwN (cellv D.2.2.1 D.2.2.2 100) 13))])) rfl ?_
  rw [nI_add 4 (lwN (cellv D.2.2.1 D.2.2.2 100) 13)]
  refine Z_run C it_Lw_setUp 3 (f2 := (19, [some (.ref (D.1 0)), some (.ref (D.1 37)), some (.ref (D.1 38)), some (.ref (D.1 39)), some (.ref (D.1 52)), some (.int (nI (4 + lwN (cellv D.2.2.1 D.2.2.2 100) 13))), some (.int (nI 0)), none, none, none, none, none, none], [])) rfl ?_
  have hlt := lwN_lt (cellv D.2.2.1 D.2.2.2 100) (show 0 < 13 by decide)
  exact su_19 hD hL C q (by omega) (by omega) 20 0 V P F (by omega) (by omega) hS
