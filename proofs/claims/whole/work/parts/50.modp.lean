/-! ===== the model: play ===== -/
theorem mo_ge {x : Nat} (h : x < 2 ^ 31) {k : Nat} (hk : k ≤ x) : nI x - nI k = nI (x - k) := nI_sub hk
theorem whm_0 {st ov : Bool} {F : Nat → Nat} {t a b : Nat} (h : whm st ov F t a b = 0) : F a ≠ 0 ∧ a ≠ b := by
  unfold whm at h
  split at h
  · split at h
    · cases h
    · split at h
      · next h1 =>
        refine ⟨hld_ne h1, fun e => ?_⟩
        subst e
        rw [if_pos h1] at h
        cases h
      · cases h
  · cases h
theorem whm_le {st ov : Bool} {F : Nat → Nat} {t a b : Nat} : whm st ov F t a b ≤ 4 := by
  unfold whm
  split
  · split
    · omega
    · split
      · split
        · omega
        · split <;> omega
      · omega
  · omega
set_option maxRecDepth 20000 in
theorem ct_Mm_written {E : zE} (hE : zEv E) {l : Launch} (hl : l.stackTraces = false) {D : zD} (hD : zDok E D) (V : Nat → Nat → Int32) (P : Nat → Nat → Value) (PH : aH) (T : Nat → Nat) (hT : okU V T) (i : Nat) (hi : i < 59) (h1 : 49 ≤ T (i + 1)) (h2 : 97 ≤ T i) (sz : Nat) : zM E l y_Mm_written [.code y_Mm_written c_Mm_written 2 (some .int)] rm_Mm_written [.ref (D.1 37), .int (nI i)] (HM D V P PH) sz (zRet (some (.int (nI (sqa T i)))) (HM D V P PH) sz) := by
  refine zM_of hE hl (by decide +kernel) [some (.ref (D.1 37)), some (.int (nI i))] ⟨rfl, rfl, Nat.le_of_ble_eq_true rfl⟩ ?_
  intro G C q htb
  refine Z_run C it_Mm_written 2 (f2 := (3, [some (.ref (D.1 37)), some (.int (nI i))], [.ref (D.1 37), .int (nI 6)])) rfl ?_
  refine Zm_get C it_Mm_written hD rfl 37 wi_Mm (by decide) rfl rfl (j := 6) (by decide) fl_Mm_25 (v := .ref (D.1 43)) rfl ?_
  refine Z_run C it_Mm_written 3 (f2 := (9, [some (.ref (D.1 37)), some (.int (nI i))], [.int (nI i + nI 1), .ref (D.1 43), .int (nI 6)])) rfl ?_
  rw [nI_add i 1]
  refine Zm_ald C it_Mm_written hD 43 13 rfl (by decide) rfl (by decide) (by decide) rfl (j := i + 1) (by omega) (v := .int (nI (T (i + 1)))) (congrArg Value.int (hT (i + 1) (by omega)).1) ?_
  refine Z_run C it_Mm_written 2 (f2 := (13, [some (.ref (D.1 37)), some (.int (nI i))], [.int (nI (T (i + 1)) - nI 49), .int (nI 6)])) rfl ?_
  have e1 : nI (T (i + 1)) - nI 49 = nI (T (i + 1) - 49) := nI_sub h1
  rw [e1]
  refine Z_run C it_Mm_written 1 (f2 := (14, [some (.ref (D.1 37)), some (.int (nI i))], [.int (nI 6 * nI (T (i + 1) - 49))])) rfl ?_
  rw [nI_mul 6 (T (i + 1) - 49)]
  refine Z_run C it_Mm_written 1 (f2 := (15, [some (.ref (D.1 37)), some (.int (nI i))], [.ref (D.1 37), .int (nI (6 * (T (i + 1) - 49)))])) rfl ?_
  refine Zm_get C it_Mm_written hD rfl 37 wi_Mm (by decide) rfl rfl (j := 6) (by decide) fl_Mm_25 (v := .ref (D.1 43)) rfl ?_
  refine Z_run C it_Mm_written 1 (f2 := (19, [some (.ref (D.1 37)), some (.int (nI i))], [.int (nI i), .ref (D.1 43), .int (nI (6 * (T (i + 1) - 49)))])) rfl ?_
  refine Zm_ald C it_Mm_written hD 43 13 rfl (by decide) rfl (by decide) (by decide) rfl (j := i) (by omega) (v := .int (nI (T i))) (congrArg Value.int (hT i (by omega)).1) ?_
  refine Z_run C it_Mm_written 1 (f2 := (21, [some (.ref (D.1 37)), some (.int (nI i))], [.int (nI (6 * (T (i + 1) - 49)) + nI (T i))])) rfl ?_
  rw [nI_add (6 * (T (i + 1) - 49)) (T i)]
  refine Z_run C it_Mm_written 2 (f2 := (24, [some (.ref (D.1 37)), some (.int (nI i))], [.int (nI (6 * (T (i + 1) - 49) + T i) - nI 97)])) rfl ?_
  have e2 : nI (6 * (T (i + 1) - 49) + T i) - nI 97 = nI (sqa T i) := by rw [nI_sub (by omega)]; unfold sqa; congr 1; omega
  rw [e2]
  exact Z_iret C q.e it_Mm_written rfl (zRet_i rfl) (by decide) (by decide)
set_option maxRecDepth 20000 in
set_option maxHeartbeats 1000000 in
theorem lp_Mm_play {E : zE} {G : zG} {O : zO} (C : zCx E G c_Mm_play 4 y_Mm_play.cls y_Mm_play.name (some .int) rm_Mm_play) (q : zEndX E G O rm_Mm_play.cells rm_Mm_play.slots)  {D : zD} (hD : zDok E D) {V0 : Nat → Nat → Int32} {P : Nat → Nat → Value} {PH : aH} {T : Nat → Nat} {n9 sz : Nat} {z ms : Nat → Nat → Int32} {Fs mvs : Nat → Nat → Nat} {tns mds bss : Nat → Nat} {sts ovs : Nat → Bool} {aa bb : Nat → Nat} {N M : Nat} (hS : ∀ k, k ≤ N → okF (Fs k) ∧ (∀ j, j < 36 → z k j = nI (mo (Fs k j))) ∧ tns k < 2 ∧ z k 36 = bI (sts k) ∧ z k 37 = bI (ovs k) ∧ z k 39 = nI (tns k) ∧ z k 40 = nI (mds k) ∧ z k 41 = nI (bss k) ∧ mds k + M ≤ 6299 + k ∧ bss k ≤ mds k ∧ (∀ j, j < mds k → mvs k j < 1296) ∧ (∀ j, j < mds k → ms k j = nI (mvs k j))) (hst : ∀ k, k < N → whm (sts k) (ovs k) (Fs k) (tns k) (aa k) (bb k) = 0 ∧ z (k + 1) = mvR (z k) (Fs k) (mvs k) (tns k) (mds k) (bss k) (aa k) (bb k) ∧ ms (k + 1) = upd (ms k) (mds k) (nI (36 * aa k + bb k))) (hen : N < M → whm (sts N) (ovs N) (Fs N) (tns N) (aa N) (bb N) ≠ 0) (hNM : N ≤ M) (hn9 : n9 + 1 = 5 * M) (hn6 : n9 ≤ 60) (htx : ∀ k, k < M → 49 ≤ T (5 * k + 1) ∧ 97 ≤ T (5 * k) ∧ 49 ≤ T (5 * k + 2 + 1) ∧ 97 ≤ T (5 * k + 2) ∧ sqa T (5 * k) = aa k ∧ sqa T (5 * k + 2) = bb k ∧ aa k < 36 ∧ bb k < 36) (hO : ∀ V2 : Nat → Nat → Int32, (∀ c, c ≠ 38 → c ≠ 40 → c ≠ 41 → c ≠ 42 → V2 c = V0 c) → V2 38 = z N → V2 40 = ms N → O (.inl (some (.int (nI N)))) (HM D V2 P PH) sz) : ∀ (j i : Nat) (V : Nat → Nat → Int32), N - i < j → i ≤ N → (∀ c, c ≠ 38 → c ≠ 40 → c ≠ 41 → c ≠ 42 → V c = V0 c) → V 38 = z i → V 40 = ms i → okU V T → V 37 7 = nI n9 → Z E G (HM D V P PH) sz 0 0 (32, [some (.ref (D.1 37)), some (.int (nI i)), some (.int (nI 1)), some (.int (nI (5 * i)))], []) := by
  intro j
  induction j with
  | zero => intro i V h1 h2; omega
  | succ j ih =>
    intro i V h1 h2 hV h38 h40 hT h37
    obtain ⟨hF, hz0, htn, s36, s37, s39, s40, s41, hmd9, hbm, hml, hmv⟩ := hS i h2
    rw [← h38] at hz0 s36 s37 s39 s40 s41
    rw [← h40] at hmv
    obtain ⟨Fq, eF⟩ : ∃ f, f = Fs i := ⟨_, rfl⟩
    rw [← eF] at hF hz0
    have hz := hz0
    refine Z_run C it_Mm_play 2 (f2 := (34, [some (.ref (D.1 37)), some (.int (nI i)), some (.int (nI 1)), some (.int (nI (5 * i)))], [.ref (D.1 37), .int (nI (5 * i))])) rfl ?_
    refine Zm_get C it_Mm_play hD rfl 37 wi_Mm (by decide) rfl rfl (j := 7) (by decide) fl_Mm_127 (v := .int (nI n9)) (congrArg Value.int h37) ?_
    refine Z_br C it_Mm_play rfl rfl (fun hc1 => ?_) (fun hc1 => ?_)
    · have hge : n9 ≤ 5 * i := (nI_leI (a := n9) (b := 5 * i) (by omega) (by omega)).mp hc1
      refine Z_run C it_Mm_play 1 (f2 := (100, [some (.ref (D.1 37)), some (.int (nI i)), some (.int (nI 1)), some (.int (nI (5 * i)))], [.int (nI i)])) rfl ?_
      exact Z_iret C q.e it_Mm_play rfl ((show i = N by omega) ▸ hO V hV ((show i = N by omega) ▸ h38) ((show i = N by omega) ▸ h40)) (by decide) (by decide)
    · have hge : ¬ n9 ≤ 5 * i := fun z9 => hc1 ((nI_leI (a := n9) (b := 5 * i) (by omega) (by omega)).mpr z9)
      have hiM : i < M := by omega
      obtain ⟨x1, x2, x3, x4, e1, e2, ha, hb⟩ := htx i hiM
      refine Z_run C it_Mm_play 1 (f2 := (41, [some (.ref (D.1 37)), some (.int (nI i)), some (.int (nI 1)), some (.int (nI (5 * i)))], [.int (nI 1)])) rfl ?_
      refine Z_br C it_Mm_play rfl rfl (fun hc2 => absurd hc2 (by decide)) (fun hc2 => ?_)
      refine Z_run C it_Mm_play 3 (f2 := (47, [some (.ref (D.1 37)), some (.int (nI i)), some (.int (nI 1)), some (.int (nI (5 * i)))], [.int (nI (5 * i)), .ref (D.1 37), .ref (D.1 37)])) rfl ?_
      refine Zr_callV C it_Mm_play hD rfl p_Mm_written ml_Mm_133 37 (by decide) rfl rfl [.int (nI (5 * i))] (ct_Mm_written C.ev C.l hD V P _ T hT (5 * i) (by omega) x1 x2 _) rfl rfl ⟨by decide, by decide, by decide, by decide⟩ (Nat.le_of_ble_eq_true rfl) rfl ?_
      rw [e1]
      show Z E G (HM D V P PH) sz 0 0 (50, [some (.ref (D.1 37)), some (.int (nI i)), some (.int (nI 1)), some (.int (nI (5 * i)))], [.int (nI (aa i)), .ref (D.1 37)])
      refine Z_run C it_Mm_play 4 (f2 := (54, [some (.ref (D.1 37)), some (.int (nI i)), some (.int (nI 1)), some (.int (nI (5 * i)))], [.int (nI (5 * i) + nI 2), .ref (D.1 37), .int (nI (aa i)), .ref (D.1 37)])) rfl ?_
      rw [nI_add (5 * i) 2]
      refine Zr_callV C it_Mm_play hD rfl p_Mm_written ml_Mm_133 37 (by decide) rfl rfl [.int (nI (5 * i + 2))] (ct_Mm_written C.ev C.l hD V P _ T hT (5 * i + 2) (by omega) x3 x4 _) rfl rfl ⟨by decide, by decide, by decide, by decide⟩ (Nat.le_of_ble_eq_true rfl) rfl ?_
      rw [e2]
      show Z E G (HM D V P PH) sz 0 0 (57, [some (.ref (D.1 37)), some (.int (nI i)), some (.int (nI 1)), some (.int (nI (5 * i)))], [.int (nI (bb i)), .int (nI (aa i)), .ref (D.1 37)])
      refine Zr_callV C it_Mm_play hD rfl p_Mm_why ml_Mm_122 37 (by decide) rfl rfl [.int (nI (aa i)), .int (nI (bb i))] (ct_Mm_why_z C.ev C.l hD V P _ Fq hF hz (sts i) s36 (ovs i) s37 (tns i) htn s39 (aa i) ha (bb i) hb _) rfl rfl ⟨by decide, by decide, by decide, by decide⟩ (Nat.le_of_ble_eq_true rfl) rfl ?_
      show Z E G (HM D V P PH) sz 0 0 (60, [some (.ref (D.1 37)), some (.int (nI i)), some (.int (nI 1)), some (.int (nI (5 * i)))], [.int (nI (whm (sts i) (ovs i) Fq (tns i) (aa i) (bb i)))])
      have hwl := whm_le (st := sts i) (ov := ovs i) (F := Fq) (t := tns i) (a := aa i) (b := bb i)
      refine Z_br C it_Mm_play rfl rfl (fun hc3 => ?_) (fun hc3 => ?_)
      · have hw0 : ¬ whm (sts i) (ovs i) Fq (tns i) (aa i) (bb i) = 0 := fun z9 => hc3 ((nI_e0 (by omega)).mpr z9)
        have hiN : i = N := by
          by_cases g : i < N
          · exact absurd (by rw [eF]; exact (hst i g).1) hw0
          · omega
        refine Z_run C it_Mm_play 3 (f2 := (70, [some (.ref (D.1 37)), some (.int (nI i)), some (.int (nI 0)), some (.int (nI (5 * i)))], [.int (nI 0)])) rfl ?_
        refine Z_br C it_Mm_play rfl rfl (fun hc4 => ?_) (fun hc4 => absurd (by decide) hc4)
        refine Z_run C it_Mm_play 1 (f2 := (96, [some (.ref (D.1 37)), some (.int (nI i)), some (.int (nI 0)), some (.int (nI (5 * i) + nI 5))], [])) rfl ?_
        rw [nI_add (5 * i) 5]
        refine Z_run C it_Mm_play 1 (f2 := (32, [some (.ref (D.1 37)), some (.int (nI i)), some (.int (nI 0)), some (.int (nI (5 * i + 5)))], [])) rfl ?_
        refine Z_run C it_Mm_play 2 (f2 := (34, [some (.ref (D.1 37)), some (.int (nI i)), some (.int (nI 0)), some (.int (nI (5 * i + 5)))], [.ref (D.1 37), .int (nI (5 * i + 5))])) rfl ?_
        refine Zm_get C it_Mm_play hD rfl 37 wi_Mm (by decide) rfl rfl (j := 7) (by decide) fl_Mm_127 (v := .int (nI n9)) (congrArg Value.int h37) ?_
        refine Z_br C it_Mm_play rfl rfl (fun hc5 => ?_) (fun hc5 => ?_)
        · refine Z_run C it_Mm_play 1 (f2 := (100, [some (.ref (D.1 37)), some (.int (nI i)), some (.int (nI 0)), some (.int (nI (5 * i + 5)))], [.int (nI i)])) rfl ?_
          exact Z_iret C q.e it_Mm_play rfl ((show i = N by omega) ▸ hO V hV ((show i = N by omega) ▸ h38) ((show i = N by omega) ▸ h40)) (by decide) (by decide)
        · refine Z_run C it_Mm_play 1 (f2 := (41, [some (.ref (D.1 37)), some (.int (nI i)), some (.int (nI 0)), some (.int (nI (5 * i + 5)))], [.int (nI 0)])) rfl ?_
          refine Z_br C it_Mm_play rfl rfl (fun hc6 => ?_) (fun hc6 => absurd (by decide) hc6)
          refine Z_run C it_Mm_play 1 (f2 := (100, [some (.ref (D.1 37)), some (.int (nI i)), some (.int (nI 0)), some (.int (nI (5 * i + 5)))], [.int (nI i)])) rfl ?_
          exact Z_iret C q.e it_Mm_play rfl ((show i = N by omega) ▸ hO V hV ((show i = N by omega) ▸ h38) ((show i = N by omega) ▸ h40)) (by decide) (by decide)
      · have hw0 : whm (sts i) (ovs i) Fq (tns i) (aa i) (bb i) = 0 := (nI_e0 (by omega)).mp (Classical.not_not.mp hc3)
        have hiN : i < N := by
          by_cases g : i = N
          · exact absurd (by rw [eF] at hw0; rw [← g]; exact hw0) (hen (by omega))
          · omega
        refine Z_run C it_Mm_play 4 (f2 := (70, [some (.ref (D.1 37)), some (.int (nI i)), some (.int (nI 1)), some (.int (nI (5 * i)))], [.int (nI 1)])) rfl ?_
        refine Z_br C it_Mm_play rfl rfl (fun hc7 => absurd hc7 (by decide)) (fun hc7 => ?_)
        refine Z_run C it_Mm_play 3 (f2 := (76, [some (.ref (D.1 37)), some (.int (nI i)), some (.int (nI 1)), some (.int (nI (5 * i)))], [.int (nI (5 * i)), .ref (D.1 37), .ref (D.1 37)])) rfl ?_
        refine Zr_callV C it_Mm_play hD rfl p_Mm_written ml_Mm_133 37 (by decide) rfl rfl [.int (nI (5 * i))] (ct_Mm_written C.ev C.l hD V P _ T hT (5 * i) (by omega) x1 x2 _) rfl rfl ⟨by decide, by decide, by decide, by decide⟩ (Nat.le_of_ble_eq_true rfl) rfl ?_
        rw [e1]
        show Z E G (HM D V P PH) sz 0 0 (79, [some (.ref (D.1 37)), some (.int (nI i)), some (.int (nI 1)), some (.int (nI (5 * i)))], [.int (nI (aa i)), .ref (D.1 37)])
        refine Z_run C it_Mm_play 4 (f2 := (83, [some (.ref (D.1 37)), some (.int (nI i)), some (.int (nI 1)), some (.int (nI (5 * i)))], [.int (nI (5 * i) + nI 2), .ref (D.1 37), .int (nI (aa i)), .ref (D.1 37)])) rfl ?_
        rw [nI_add (5 * i) 2]
        refine Zr_callV C it_Mm_play hD rfl p_Mm_written ml_Mm_133 37 (by decide) rfl rfl [.int (nI (5 * i + 2))] (ct_Mm_written C.ev C.l hD V P _ T hT (5 * i + 2) (by omega) x3 x4 _) rfl rfl ⟨by decide, by decide, by decide, by decide⟩ (Nat.le_of_ble_eq_true rfl) rfl ?_
        rw [e2]
        show Z E G (HM D V P PH) sz 0 0 (86, [some (.ref (D.1 37)), some (.int (nI i)), some (.int (nI 1)), some (.int (nI (5 * i)))], [.int (nI (bb i)), .int (nI (aa i)), .ref (D.1 37)])
        obtain ⟨ha0, hab⟩ := whm_0 hw0
        refine Zr_emV C it_Mm_play hD rfl p_Mm_moves ml_Mm_125 37 (by decide) rfl rfl [.int (nI (aa i)), .int (nI (bb i))] (ct_Mm_moves C.ev C.l hD V P _ Fq hF hz (mvs i) (tns i) (mds i) (bss i) htn (by omega) hbm hml s39 s40 s41 hmv (aa i) ha ha0 (bb i) hb hab _) rfl rfl ⟨by decide, by decide, by decide, by decide⟩ (Nat.le_of_ble_eq_true rfl) rfl (fun V2 hV2 k38 k40 => ?_)
        show Z E G (HM D V2 P PH) sz 0 0 (89, [some (.ref (D.1 37)), some (.int (nI i)), some (.int (nI 1)), some (.int (nI (5 * i)))], [.int (nI (wr (Fq (bb i))))])
        have h37b : V2 37 7 = nI n9 := by rw [hV2 37 (by decide) (by decide) (by decide) (by decide)]; exact h37
        refine Z_run C it_Mm_play 2 (f2 := (93, [some (.ref (D.1 37)), some (.int (nI i + nI 1)), some (.int (nI 1)), some (.int (nI (5 * i)))], [])) rfl ?_
        rw [nI_add i 1]
        refine Z_run C it_Mm_play 1 (f2 := (96, [some (.ref (D.1 37)), some (.int (nI (i + 1))), some (.int (nI 1)), some (.int (nI (5 * i) + nI 5))], [])) rfl ?_
        rw [nI_add (5 * i) 5]
        refine Z_run C it_Mm_play 1 (f2 := (32, [some (.ref (D.1 37)), some (.int (nI (i + 1))), some (.int (nI 1)), some (.int (nI (5 * i + 5)))], [])) rfl ?_
        have e1 : nI (5 * i + 5) = nI (5 * (i + 1)) := by rw [Nat.mul_succ]
        rw [e1]
        exact ih (i + 1) V2 (by omega) (by omega) (fun c h1 h2 h3 h4 => by rw [hV2 c h1 h2 h3 h4]; exact hV c h1 h2 h3 h4) (by rw [k38, h38, (hst i hiN).2.1, eF]) (by rw [k40, h40, (hst i hiN).2.2]) (fun k hk => by rw [hV2 43 (by decide) (by decide) (by decide) (by decide)]; exact hT k hk) h37b
theorem recM_7 (V : Nat → Nat → Int32) (n : Nat) : recM (vset V 37 8 (nI 0)) n 37 7 = V 37 7 := by
  unfold recM
  split
  · rfl
  · rfl
set_option maxRecDepth 20000 in
theorem ct_Mm_play {E : zE} (hE : zEv E) {l : Launch} (hl : l.stackTraces = false) {D : zD} (hD : zDok E D) (V : Nat → Nat → Int32) (P : Nat → Nat → Value) (PH : aH) (n : Nat) (hp : V 37 2 = nI n) (hn5 : n ≤ 5) (T : Nat → Nat) (hT : okU V T) (n9 : Nat) (hn7 : V 37 7 = nI n9) (hfl : flt T n9 = none) (z ms : Nat → Nat → Int32) (Fs mvs : Nat → Nat → Nat) (tns mds bss : Nat → Nat) (sts ovs : Nat → Bool) (aa bb : Nat → Nat) (N M : Nat) (hS : ∀ k, k ≤ N → okF (Fs k) ∧ (∀ j, j < 36 → z k j = nI (mo (Fs k j))) ∧ tns k < 2 ∧ z k 36 = bI (sts k) ∧ z k 37 = bI (ovs k) ∧ z k 39 = nI (tns k) ∧ z k 40 = nI (mds k) ∧ z k 41 = nI (bss k) ∧ mds k + M ≤ 6299 + k ∧ bss k ≤ mds k ∧ (∀ j, j < mds k → mvs k j < 1296) ∧ (∀ j, j < mds k → ms k j = nI (mvs k j))) (hst : ∀ k, k < N → whm (sts k) (ovs k) (Fs k) (tns k) (aa k) (bb k) = 0 ∧ z (k + 1) = mvR (z k) (Fs k) (mvs k) (tns k) (mds k) (bss k) (aa k) (bb k) ∧ ms (k + 1) = upd (ms k) (mds k) (nI (36 * aa k + bb k))) (hen : N < M → whm (sts N) (ovs N) (Fs N) (tns N) (aa N) (bb N) ≠ 0) (hNM : N ≤ M) (hn9 : n9 + 1 = 5 * M) (hn6 : n9 ≤ 60) (htx : ∀ k, k < M → 49 ≤ T (5 * k + 1) ∧ 97 ≤ T (5 * k) ∧ 49 ≤ T (5 * k + 2 + 1) ∧ 97 ≤ T (5 * k + 2) ∧ sqa T (5 * k) = aa k ∧ sqa T (5 * k + 2) = bb k ∧ aa k < 36 ∧ bb k < 36) (h38 : V 38 = z 0) (h40 : V 40 = ms 0) (sz : Nat) : zM E l y_Mm_play [.code y_Mm_play c_Mm_play 4 (some .int)] rm_Mm_play [.ref (D.1 37)] (HM D V P PH) sz (zEmv D (recM (vset V 37 8 (nI 0)) n) P PH sz (nI N) (z N) (ms N)) := by
  refine zM_of hE hl (by decide +kernel) [some (.ref (D.1 37)), none, none, none] ⟨rfl, rfl, Nat.le_of_ble_eq_true rfl⟩ ?_
  intro G C q htb
  refine Z_run C it_Mm_play 2 (f2 := (2, [some (.ref (D.1 37)), none, none, none], [.ref (D.1 37), .ref (D.1 37)])) rfl ?_
  refine Zr_callV C it_Mm_play hD rfl p_Mm_fault ml_Mm_130 37 (by decide) rfl rfl [] (ct_Mm_fault C.ev C.l hD V P _ T hT n9 hn7 hn6 _) rfl rfl ⟨by decide, by decide, by decide, by decide⟩ (Nat.le_of_ble_eq_true rfl) rfl ?_
  show Z E G (HM D V P PH) sz 0 0 (5, [some (.ref (D.1 37)), none, none, none], [.int (oI (flt T n9)), .ref (D.1 37)])
  have e1 : oI (flt T n9) = (-1) := by rw [hfl]; rfl
  rw [e1]
  refine Z_run C it_Mm_play 1 (f2 := (6, [some (.ref (D.1 37)), none, none, none], [.int ((-1)), .int ((-1)), .ref (D.1 37)])) rfl ?_
  refine Z_br C it_Mm_play rfl rfl (fun hc1 => absurd hc1 (by decide)) (fun hc1 => ?_)
  refine Z_run C it_Mm_play 2 (f2 := (14, [some (.ref (D.1 37)), none, none, none], [.int (nI 1), .ref (D.1 37)])) rfl ?_
  refine Zr_callV C it_Mm_play hD rfl p_Mm_asks ml_Mm_40 37 (by decide) rfl rfl [.int (nI 1)] (ct_Mm_asks_t C.ev C.l hD V P _ _) rfl rfl ⟨by decide, by decide, by decide, by decide⟩ (Nat.le_of_ble_eq_true rfl) rfl ?_
  show Z E G (HM D (vset V 37 8 (nI 0)) P PH) sz 0 0 (17, [some (.ref (D.1 37)), none, none, none], [.int (nI 1)])
  refine Z_br C it_Mm_play rfl rfl (fun hc2 => ?_) (fun hc2 => absurd (by decide) hc2)
  refine Z_run C it_Mm_play 1 (f2 := (23, [some (.ref (D.1 37)), none, none, none], [.ref (D.1 37)])) rfl ?_
  refine Zr_callV C it_Mm_play hD rfl p_Mm_record ml_Mm_85 37 (by decide) rfl rfl [] (ct_Mm_record C.ev C.l hD (vset V 37 8 (nI 0)) P _ n hp hn5 _) rfl rfl ⟨by decide, by decide, by decide, by decide⟩ (Nat.le_of_ble_eq_true rfl) rfl ?_
  show Z E G (HM D (recM (vset V 37 8 (nI 0)) n) P PH) sz 0 0 (26, [some (.ref (D.1 37)), none, none, none], [])
  refine Z_run C it_Mm_play 6 (f2 := (32, [some (.ref (D.1 37)), some (.int (nI 0)), some (.int (nI 1)), some (.int (nI 0))], [])) rfl ?_
  refine lp_Mm_play C q hD (V0 := (recM (vset V 37 8 (nI 0)) n)) hS hst hen hNM hn9 hn6 htx (fun V2 hV2 k38 k40 => ⟨rfl, rfl, V2, rfl, hV2, k38, k40⟩) (N + 1) 0 (recM (vset V 37 8 (nI 0)) n) (by omega) (by omega) (fun c h1 h2 h3 h4 => rfl) (by rw [recM_o (by decide) (by decide)]; exact h38) (by rw [recM_o (by decide) (by decide)]; exact h40) (fun k hk => by rw [recM_o (by decide) (by decide)]; exact hT k hk) (by rw [show (recM (vset V 37 8 (nI 0)) n) 37 7 = V 37 7 from recM_7 _ _]; exact hn7)
set_option maxRecDepth 20000 in
theorem ct_Mm_play_x {E : zE} (hE : zEv E) {l : Launch} (hl : l.stackTraces = false) {D : zD} (hD : zDok E D) (V : Nat → Nat → Int32) (P : Nat → Nat → Value) (PH : aH) (T : Nat → Nat) (hT : okU V T) (n9 : Nat) (hn7 : V 37 7 = nI n9) (hn6 : n9 ≤ 60) (k : Nat) (hfl : flt T n9 = some k) (sz : Nat) : zM E l y_Mm_play [.code y_Mm_play c_Mm_play 4 (some .int)] rm_Mm_play [.ref (D.1 37)] (HM D V P PH) sz (zRet (some (.int (nI 0))) (HM D (vset V 37 8 (nI 1)) P PH) sz) := by
  refine zM_of hE hl (by decide +kernel) [some (.ref (D.1 37)), none, none, none] ⟨rfl, rfl, Nat.le_of_ble_eq_true rfl⟩ ?_
  intro G C q htb
  refine Z_run C it_Mm_play 2 (f2 := (2, [some (.ref (D.1 37)), none, none, none], [.ref (D.1 37), .ref (D.1 37)])) rfl ?_
  refine Zr_callV C it_Mm_play hD rfl p_Mm_fault ml_Mm_130 37 (by decide) rfl rfl [] (ct_Mm_fault C.ev C.l hD V P _ T hT n9 hn7 hn6 _) rfl rfl ⟨by decide, by decide, by decide, by decide⟩ (Nat.le_of_ble_eq_true rfl) rfl ?_
  show Z E G (HM D V P PH) sz 0 0 (5, [some (.ref (D.1 37)), none, none, none], [.int (oI (flt T n9)), .ref (D.1 37)])
  refine Z_run C it_Mm_play 1 (f2 := (6, [some (.ref (D.1 37)), none, none, none], [.int ((-1)), .int (oI (flt T n9)), .ref (D.1 37)])) rfl ?_
  refine Z_br C it_Mm_play rfl rfl (fun hc1 => ?_) (fun hc1 => ?_)
  · skip
    refine Z_run C it_Mm_play 1 (f2 := (14, [some (.ref (D.1 37)), none, none, none], [.int (nI 0), .ref (D.1 37)])) rfl ?_
    refine Zr_callV C it_Mm_play hD rfl p_Mm_asks ml_Mm_40 37 (by decide) rfl rfl [.int (nI 0)] (ct_Mm_asks_f C.ev C.l hD V P _ _) rfl rfl ⟨by decide, by decide, by decide, by decide⟩ (Nat.le_of_ble_eq_true rfl) rfl ?_
    show Z E G (HM D (vset V 37 8 (nI 1)) P PH) sz 0 0 (17, [some (.ref (D.1 37)), none, none, none], [.int (nI 0)])
    refine Z_br C it_Mm_play rfl rfl (fun hc2 => absurd hc2 (by decide)) (fun hc2 => ?_)
    refine Z_run C it_Mm_play 1 (f2 := (21, [some (.ref (D.1 37)), none, none, none], [.int (nI 0)])) rfl ?_
    exact Z_iret C q.e it_Mm_play rfl (zRet_iH rfl (by first | rfl | (simp only [vset_2]))) (by decide) (by decide)
  · exact absurd ((oI_flt hn6).mp (Classical.not_not.mp hc1)) (by rw [hfl]; exact fun z => by cases z)
