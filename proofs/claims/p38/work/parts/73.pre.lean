/-! ===== the law: from its entry to its set up ===== -/
set_option maxRecDepth 20000 in
theorem law_pre {E : zE} {G : zG} {nm : String} (C : zCx E G code 19 R_Lw nm (some .boolean) room_1) (hov : va_AO R_Gm E.1) {st : Nat → Nat} {L : Nat} {xs : Nat → Int32} (hL : L ≤ 260) (hlt : ∀ i, i < 7 → st i < zB E) (hinj : ∀ i j, i < 7 → j < 7 → st i = st j → i = j)
    (z0s : zSt E R_Pc "KIND_WORTH" "[I" (.ref (st 0))) (z1s : zSt E R_Bd "UP" "[I" (.ref (st 1))) (z2s : zSt E R_Bd "RIGHT" "[I" (.ref (st 2))) (z3s : zSt E R_Bd "FIRST_DIRECTION" "[I" (.ref (st 3))) (z4s : zSt E R_Bd "LAST_DIRECTION" "[I" (.ref (st 4))) (z5s : zSt E R_Bd "FARTHEST" "[I" (.ref (st 5)))
    (hend : ∀ (h : aH) (sz k n : Nat) (ls : zL), k ≤ 600130 → n ≤ 7301080 → Z E G h sz k n (1011, ls, [.int (nI 1)])) : Z E G (hS0 st L xs) (zB E) 0 0 (0, [some (.ref (st 6)), none, none, none, none, none, none, none, none, none, none, none, none, none, none, none, none, none, none], []) := by
  refine Z_new C it_La rfl wi_Xx t_Xx t_Xx_ok (ci := 5) rfl (List.mem_filter.mp kl_Lw_41).1 (zgw_good (List.mem_filter.mp kl_Lw_41).2) kI_Xx kN_Xx (by decide) (by decide) (fun x hx hxb => ?_)
  refine Z_run C it_La 1 (f2 := (4, [some (.ref (st 6)), none, none, none, none, none, none, none, none, none, none, none, none, none, none, none, none, none, none], [.ref x, .ref x])) rfl ?_
  refine Z_callK C it_La rfl p_Xx_init (host := R_Xx) (Or.inl ml_Lw_129) [] (ct_Xx_init C.ev C.l hov _ x (x + 1) hset_s (by omega) hxb) rfl rfl ⟨by decide, by decide, by decide, by decide⟩ (Nat.le_of_ble_eq_true rfl) rfl (fun w h3 sz3 hO => ?_)
  obtain ⟨e, H1, H2, H3, H4, S1, S2, S3, g, hb, qa, gs, bd, tt, tc, tb, tq, ⟨nG, a1, k1⟩, ⟨y1, i1, i2, i3, i4, i5, i6, i7, fs, i8, i9⟩, ⟨v1, v2, v3, v4, v5, v7⟩, ⟨w1, w2, w3, w4, w5, w6, w7⟩, e9⟩ := hO
  cases e
  subst e9
  have eA : ∀ y, y < S2 → y ≠ x → h3 y = H2 y := fun y hy hyx => by
    rw [w7 y (by omega) hyx, v7 y hy hyx, hset_n hyx]
  have eB : ∀ y, y < hb → y ≠ x → h3 y = H1 y := fun y hy hyx => by
    rw [eA y (by omega) hyx, i6 y (by omega) (by omega), hset_n (by omega)]
  obtain ⟨b0, s0, c0, t0, r1, r2, r3, r4, r5, r6, m1, m2, m3, m4, m5⟩ := nGm_k (H2 := h3) nG (fun y h1 h2 => eB y (by omega) (by omega))
  obtain ⟨u1a, u1b, u1c, u1d⟩ := (show bd 0 ≤ bd 1 ∧ bd 1 ≤ S2 ∧ qa < bd 0 ∧ nGm H2 (bd 0) (gs 0) (bd 1) from i4 0 (by decide))
  obtain ⟨b1, s1, c1, t1, r11, r12, r13, r14, r15, r16, m11, m12, m13, m14, m15⟩ := nGm_k (H2 := h3) u1d (fun y h1 h2 => eA y (by omega) (by omega))
  obtain ⟨u2a, u2b, u2c, u2d⟩ := (show bd 1 ≤ bd 2 ∧ bd 2 ≤ S2 ∧ qa < bd 1 ∧ nGm H2 (bd 1) (gs 1) (bd 2) from i4 1 (by decide))
  obtain ⟨b2, s2, c2, t2, r21, r22, r23, r24, r25, r26, m21, m22, m23, m24, m25⟩ := nGm_k (H2 := h3) u2d (fun y h1 h2 => eA y (by omega) (by omega))
  obtain ⟨u3a, u3b, u3c, u3d⟩ := (show bd 2 ≤ bd 3 ∧ bd 3 ≤ S2 ∧ qa < bd 2 ∧ nGm H2 (bd 2) (gs 2) (bd 3) from i4 2 (by decide))
  obtain ⟨b3, s3, c3, t3, r31, r32, r33, r34, r35, r36, m31, m32, m33, m34, m35⟩ := nGm_k (H2 := h3) u3d (fun y h1 h2 => eA y (by omega) (by omega))
  obtain ⟨u4a, u4b, u4c, u4d⟩ := (show bd 3 ≤ bd 4 ∧ bd 4 ≤ S2 ∧ qa < bd 3 ∧ nGm H2 (bd 3) (gs 3) (bd 4) from i4 3 (by decide))
  obtain ⟨b4, s4, c4, t4, r41, r42, r43, r44, r45, r46, m41, m42, m43, m44, m45⟩ := nGm_k (H2 := h3) u4d (fun y h1 h2 => eA y (by omega) (by omega))
  obtain ⟨u5a, u5b, u5c, u5d⟩ := (show bd 4 ≤ bd 5 ∧ bd 5 ≤ S2 ∧ qa < bd 4 ∧ nGm H2 (bd 4) (gs 4) (bd 5) from i4 4 (by decide))
  obtain ⟨b5, s5, c5, t5, r51, r52, r53, r54, r55, r56, m51, m52, m53, m54, m55⟩ := nGm_k (H2 := h3) u5d (fun y h1 h2 => eA y (by omega) (by omega))
  have eH1 : h3 hb = some (2, 0, updV (updV (z0 t_Hs) 0 (.ref qa)) 1 (.int (nI 0))) := by rw [eA hb (by omega) (by omega)]; exact i7
  have eH2 : h3 qa = some (14, 5, fs) := by rw [eA qa (by omega) (by omega)]; exact i8
  have eT1 : h3 tt = some (3, 0, updV (updV (z0 t_Tx) 0 (.ref tc)) 1 (.int (nI 0))) := by rw [w7 tt (by omega) (by omega)]; exact v4
  have eT2 : h3 tc = some (13, 60, fun _ => .int 0) := by rw [w7 tc (by omega) (by omega)]; exact v5
  have eK : ∀ y, y < x → h3 y = hS0 st L xs y := fun y hy => by
    rw [eB y (by omega) (by omega), k1 y (by omega) (by omega), hset_n (by omega)]
  show Z E G h3 sz3 (0 + 1 + 36) (0 + 4 + 400) (7, [some (.ref (st 6)), none, none, none, none, none, none, none, none, none, none, none, none, none, none, none, none, none, none], [.ref x])
  refine Z_run C it_La 2 (f2 := (10, [some (.ref (st 6)), some (.ref x), none, none, none, none, none, none, none, none, none, none, none, none, none, none, none, none, none], [.int (nI 36)])) rfl ?_
  refine Z_newa C it_La (at9 := .int) rfl (tg := 10) (N := 36) (by decide) rfl wR_int rfl (by decide) (by decide) (by decide) (fun o37 p37 p37b => ?_)
  refine Z_run C it_La 2 (f2 := (15, [some (.ref (st 6)), some (.ref x), some (.ref o37), none, none, none, none, none, none, none, none, none, none, none, none, none, none, none, none], [.int (nI 36)])) rfl ?_
  refine Z_newa C it_La (at9 := .int) rfl (tg := 10) (N := 36) (by decide) rfl wR_int rfl (by decide) (by decide) (by decide) (fun o38 p38 p38b => ?_)
  refine Z_run C it_La 2 (f2 := (20, [some (.ref (st 6)), some (.ref x), some (.ref o37), some (.ref o38), none, none, none, none, none, none, none, none, none, none, none, none, none, none, none], [.int (nI 11)])) rfl ?_
  refine Z_newa C it_La (at9 := .int) rfl (tg := 10) (N := 11) (by decide) rfl wR_int rfl (by decide) (by decide) (by decide) (fun o39 p39 p39b => ?_)
  refine Z_run C it_La 2 (f2 := (26, [some (.ref (st 6)), some (.ref x), some (.ref o37), some (.ref o38), some (.ref o39), none, none, none, none, none, none, none, none, none, none, none, none, none, none], [.int (nI 64)])) rfl ?_
  refine Z_newa C it_La (at9 := .long) rfl (tg := 11) (N := 64) (by decide) rfl wR_long rfl (by decide) (by decide) (by decide) (fun o40 p40 p40b => ?_)
  refine Z_run C it_La 2 (f2 := (32, [some (.ref (st 6)), some (.ref x), some (.ref o37), some (.ref o38), some (.ref o39), some (.ref o40), none, none, none, none, none, none, none, none, none, none, none, none, none], [.int (nI 64)])) rfl ?_
  refine Z_newa C it_La (at9 := .long) rfl (tg := 11) (N := 64) (by decide) rfl wR_long rfl (by decide) (by decide) (by decide) (fun o41 p41 p41b => ?_)
  refine Z_run C it_La 2 (f2 := (38, [some (.ref (st 6)), some (.ref x), some (.ref o37), some (.ref o38), some (.ref o39), some (.ref o40), some (.ref o41), none, none, none, none, none, none, none, none, none, none, none, none], [.int (nI 64)])) rfl ?_
  refine Z_newa C it_La (at9 := .long) rfl (tg := 11) (N := 64) (by decide) rfl wR_long rfl (by decide) (by decide) (by decide) (fun o42 p42 p42b => ?_)
  refine Z_run C it_La 2 (f2 := (44, [some (.ref (st 6)), some (.ref x), some (.ref o37), some (.ref o38), some (.ref o39), some (.ref o40), some (.ref o41), some (.ref o42), none, none, none, none, none, none, none, none, none, none, none], [.int (nI 64)])) rfl ?_
  refine Z_newa C it_La (at9 := .long) rfl (tg := 11) (N := 64) (by decide) rfl wR_long rfl (by decide) (by decide) (by decide) (fun o43 p43 p43b => ?_)
  refine Z_run C it_La 1 (f2 := (48, [some (.ref (st 6)), some (.ref x), some (.ref o37), some (.ref o38), some (.ref o39), some (.ref o40), some (.ref o41), some (.ref o42), some (.ref o43), none, none, none, none, none, none, none, none, none, none], [])) rfl ?_
  obtain ⟨F, eF⟩ : ∃ F : aH, hset (hset (hset (hset (hset (hset (hset (h3) o37 (10, 36, fun _ => defaultValue (zty 10))) o38 (10, 36, fun _ => defaultValue (zty 10))) o39 (10, 11, fun _ => defaultValue (zty 10))) o40 (11, 64, fun _ => defaultValue (zty 11))) o41 (11, 64, fun _ => defaultValue (zty 11))) o42 (11, 64, fun _ => defaultValue (zty 11))) o43 (11, 64, fun _ => defaultValue (zty 11)) = F := ⟨_, rfl⟩
  rw [eF]
  have eN : ∀ y, y < o37 → F y = h3 y := fun y hy => by rw [← eF, hset_n (by omega), hset_n (by omega), hset_n (by omega), hset_n (by omega), hset_n (by omega), hset_n (by omega), hset_n (by omega)]
  have f37 : F o37 = some (10, 36, fun _ => .int 0) := by rw [← eF, hset_n (by omega), hset_n (by omega), hset_n (by omega), hset_n (by omega), hset_n (by omega), hset_n (by omega), hset_s]; rfl
  have f38 : F o38 = some (10, 36, fun _ => .int 0) := by rw [← eF, hset_n (by omega), hset_n (by omega), hset_n (by omega), hset_n (by omega), hset_n (by omega), hset_s]; rfl
  have f39 : F o39 = some (10, 11, fun _ => .int 0) := by rw [← eF, hset_n (by omega), hset_n (by omega), hset_n (by omega), hset_n (by omega), hset_s]; rfl
  have f40 : F o40 = some (11, 64, fun _ => .long 0) := by rw [← eF, hset_n (by omega), hset_n (by omega), hset_n (by omega), hset_s]; rfl
  have f41 : F o41 = some (11, 64, fun _ => .long 0) := by rw [← eF, hset_n (by omega), hset_n (by omega), hset_s]; rfl
  have f42 : F o42 = some (11, 64, fun _ => .long 0) := by rw [← eF, hset_n (by omega), hset_s]; rfl
  have f43 : F o43 = some (11, 64, fun _ => .long 0) := by rw [← eF, hset_s]; rfl
  clear eF
  have l0 := hlt 0 (by decide)
  have l1 := hlt 1 (by decide)
  have l2 := hlt 2 (by decide)
  have l3 := hlt 3 (by decide)
  have l4 := hlt 4 (by decide)
  have l5 := hlt 5 (by decide)
  have l6 := hlt 6 (by decide)
  have eS : ∀ i, i < 7 → F (st i) = some (stc L xs i) := fun i hi => by
    have := hlt i hi
    rw [eN _ (by omega), eK _ (by omega)]
    exact hS0_at hinj hi
  obtain ⟨l, el⟩ : ∃ l : List Nat, [x, g, b0, s0, c0, t0, hb, qa, gs 0, b1, s1, c1, t1, gs 1, b2, s2, c2, t2, gs 2, b3, s3, c3, t3, gs 3, b4, s4, c4, t4, gs 4, b5, s5, c5, t5, tt, tc, tb, tq, o37, o38, o39, o40, o41, o42, o43, x, x, st 0, st 1, st 2, st 3, st 4, st 5, st 6] = l := ⟨_, rfl⟩
  have up : ∀ i, i < 43 → adr l i < adr l (i + 1) := by
    subst el
    intro i hi
    match i, hi with
    | 0, _ => show x < g; omega
    | 1, _ => show g < b0; omega
    | 2, _ => show b0 < s0; omega
    | 3, _ => show s0 < c0; omega
    | 4, _ => show c0 < t0; omega
    | 5, _ => show t0 < hb; omega
    | 6, _ => show hb < qa; omega
    | 7, _ => show qa < gs 0; omega
    | 8, _ => show gs 0 < b1; omega
    | 9, _ => show b1 < s1; omega
    | 10, _ => show s1 < c1; omega
    | 11, _ => show c1 < t1; omega
    | 12, _ => show t1 < gs 1; omega
    | 13, _ => show gs 1 < b2; omega
    | 14, _ => show b2 < s2; omega
    | 15, _ => show s2 < c2; omega
    | 16, _ => show c2 < t2; omega
    | 17, _ => show t2 < gs 2; omega
    | 18, _ => show gs 2 < b3; omega
    | 19, _ => show b3 < s3; omega
    | 20, _ => show s3 < c3; omega
    | 21, _ => show c3 < t3; omega
    | 22, _ => show t3 < gs 3; omega
    | 23, _ => show gs 3 < b4; omega
    | 24, _ => show b4 < s4; omega
    | 25, _ => show s4 < c4; omega
    | 26, _ => show c4 < t4; omega
    | 27, _ => show t4 < gs 4; omega
    | 28, _ => show gs 4 < b5; omega
    | 29, _ => show b5 < s5; omega
    | 30, _ => show s5 < c5; omega
    | 31, _ => show c5 < t5; omega
    | 32, _ => show t5 < tt; omega
    | 33, _ => show tt < tc; omega
    | 34, _ => show tc < tb; omega
    | 35, _ => show tb < tq; omega
    | 36, _ => show tq < o37; omega
    | 37, _ => show o37 < o38; omega
    | 38, _ => show o38 < o39; omega
    | 39, _ => show o39 < o40; omega
    | 40, _ => show o40 < o41; omega
    | 41, _ => show o41 < o42; omega
    | 42, _ => show o42 < o43; omega
    | i + 43, hi => exact absurd hi (by omega)
  have up2 : ∀ j i, i < j → j < 44 → adr l i < adr l j := by
    intro j
    induction j with
    | zero => intro i h; omega
    | succ j ih =>
      intro i h h2
      by_cases e : i = j
      · subst e; exact up i (by omega)
      · exact Nat.lt_trans (ih i (by omega) (by omega)) (up j (by omega))
  have lo : ∀ i, i < 44 → zB E ≤ adr l i := by
    have e0 : adr l 0 = x := by subst el; rfl
    intro i hi
    by_cases e : i = 0
    · rw [e, e0]; exact hxb
    · have := up2 i 0 (by omega) hi
      rw [e0] at this
      exact Nat.le_of_lt (Nat.lt_of_le_of_lt hxb this)
  have ss : ∀ i, i < 7 → adr l (46 + i) = st i := by
    subst el
    intro i hi
    match i, hi with
    | 0, _ => rfl
    | 1, _ => rfl
    | 2, _ => rfl
    | 3, _ => rfl
    | 4, _ => rfl
    | 5, _ => rfl
    | 6, _ => rfl
    | i + 7, hi => exact absurd hi (by omega)
  have inj : ∀ i j, zin i → zin j → adr l i = adr l j → i = j := by
    intro i j ⟨hi, hi2, hi3⟩ ⟨hj, hj2, hj3⟩ e
    by_cases h1 : i < 44
    · by_cases h2 : j < 44
      · by_cases h4 : i < j
        · have := up2 j i h4 h2; omega
        · by_cases h5 : j < i
          · have := up2 i j h5 h1; omega
          · omega
      · have e1 := ss (j - 46) (by omega)
        have e2 := hlt (j - 46) (by omega)
        have e3 := lo i h1
        rw [show 46 + (j - 46) = j by omega] at e1
        omega
    · have e1 := ss (i - 46) (by omega)
      rw [show 46 + (i - 46) = i by omega] at e1
      by_cases h2 : j < 44
      · have e2 := hlt (i - 46) (by omega)
        have e3 := lo j h2
        omega
      · have e2 := ss (j - 46) (by omega)
        rw [show 46 + (j - 46) = j by omega] at e2
        have := hinj (i - 46) (j - 46) (by omega) (by omega) (by rw [← e1, ← e2, e])
        omega
  have hD : zDok E (mkD l L xs) := by
    refine ⟨mkD_ok inj, lo, ?_⟩
    subst el
    exact ⟨z0s, z1s, z2s, z3s, z4s, z5s⟩
  have hF : ∀ i, zin i → (mkD l L xs).1 i < o43 + 1 ∧ ∃ c, F ((mkD l L xs).1 i) = some c ∧ (c = mk (mkD l L xs) i (V0 i) (P0 l i) ∨ cAl c (mk (mkD l L xs) i (V0 i) (P0 l i))) := by
    subst el
    intro i hz
    have hi := hz.1
    match i, hi, hz with
    | 0, _, _ => exact ⟨by show x < o43 + 1; omega, _, ((eN (x) (by omega)).trans (w6)), Or.inr ⟨rfl, rfl, (by decide : 5 < 15), fun k hk => (match k, (show k < 4 from hk) with | 0, _ => rfl | 1, _ => rfl | 2, _ => rfl | 3, _ => rfl)⟩⟩
    | 1, _, _ => exact ⟨by show g < o43 + 1; omega, _, ((eN (g) (by omega)).trans (m1)), Or.inr (cl_gm rfl rfl rfl rfl rfl)⟩
    | 2, _, _ => exact ⟨by show b0 < o43 + 1; omega, _, ((eN (b0) (by omega)).trans (m2)), Or.inr (cl_bd rfl)⟩
    | 3, _, _ => exact ⟨by show s0 < o43 + 1; omega, _, ((eN (s0) (by omega)).trans (m3)), Or.inr (cl_i rfl)⟩
    | 4, _, _ => exact ⟨by show c0 < o43 + 1; omega, _, ((eN (c0) (by omega)).trans (m4)), Or.inr (cl_i rfl)⟩
    | 5, _, _ => exact ⟨by show t0 < o43 + 1; omega, _, ((eN (t0) (by omega)).trans (m5)), Or.inr (cl_i rfl)⟩
    | 6, _, _ => exact ⟨by show hb < o43 + 1; omega, _, ((eN (hb) (by omega)).trans (eH1)), Or.inr ⟨rfl, rfl, (by decide : 2 < 15), fun k hk => (match k, (show k < 2 from hk) with | 0, _ => rfl | 1, _ => rfl)⟩⟩
    | 7, _, _ => exact ⟨by show qa < o43 + 1; omega, _, ((eN (qa) (by omega)).trans (eH2)), Or.inr ⟨rfl, rfl, (by decide : 14 < 15), fun k hk => (match k, (show k < 5 from hk) with | 0, _ => i9 0 (by decide) | 1, _ => i9 1 (by decide) | 2, _ => i9 2 (by decide) | 3, _ => i9 3 (by decide) | 4, _ => i9 4 (by decide))⟩⟩
    | 8, _, _ => exact ⟨by show gs 0 < o43 + 1; omega, _, ((eN (gs 0) (by omega)).trans (m11)), Or.inr (cl_gm rfl rfl rfl rfl rfl)⟩
    | 9, _, _ => exact ⟨by show b1 < o43 + 1; omega, _, ((eN (b1) (by omega)).trans (m12)), Or.inr (cl_bd rfl)⟩
    | 10, _, _ => exact ⟨by show s1 < o43 + 1; omega, _, ((eN (s1) (by omega)).trans (m13)), Or.inr (cl_i rfl)⟩
    | 11, _, _ => exact ⟨by show c1 < o43 + 1; omega, _, ((eN (c1) (by omega)).trans (m14)), Or.inr (cl_i rfl)⟩
    | 12, _, _ => exact ⟨by show t1 < o43 + 1; omega, _, ((eN (t1) (by omega)).trans (m15)), Or.inr (cl_i rfl)⟩
    | 13, _, _ => exact ⟨by show gs 1 < o43 + 1; omega, _, ((eN (gs 1) (by omega)).trans (m21)), Or.inr (cl_gm rfl rfl rfl rfl rfl)⟩
    | 14, _, _ => exact ⟨by show b2 < o43 + 1; omega, _, ((eN (b2) (by omega)).trans (m22)), Or.inr (cl_bd rfl)⟩
    | 15, _, _ => exact ⟨by show s2 < o43 + 1; omega, _, ((eN (s2) (by omega)).trans (m23)), Or.inr (cl_i rfl)⟩
    | 16, _, _ => exact ⟨by show c2 < o43 + 1; omega, _, ((eN (c2) (by omega)).trans (m24)), Or.inr (cl_i rfl)⟩
    | 17, _, _ => exact ⟨by show t2 < o43 + 1; omega, _, ((eN (t2) (by omega)).trans (m25)), Or.inr (cl_i rfl)⟩
    | 18, _, _ => exact ⟨by show gs 2 < o43 + 1; omega, _, ((eN (gs 2) (by omega)).trans (m31)), Or.inr (cl_gm rfl rfl rfl rfl rfl)⟩
    | 19, _, _ => exact ⟨by show b3 < o43 + 1; omega, _, ((eN (b3) (by omega)).trans (m32)), Or.inr (cl_bd rfl)⟩
    | 20, _, _ => exact ⟨by show s3 < o43 + 1; omega, _, ((eN (s3) (by omega)).trans (m33)), Or.inr (cl_i rfl)⟩
    | 21, _, _ => exact ⟨by show c3 < o43 + 1; omega, _, ((eN (c3) (by omega)).trans (m34)), Or.inr (cl_i rfl)⟩
    | 22, _, _ => exact ⟨by show t3 < o43 + 1; omega, _, ((eN (t3) (by omega)).trans (m35)), Or.inr (cl_i rfl)⟩
    | 23, _, _ => exact ⟨by show gs 3 < o43 + 1; omega, _, ((eN (gs 3) (by omega)).trans (m41)), Or.inr (cl_gm rfl rfl rfl rfl rfl)⟩
    | 24, _, _ => exact ⟨by show b4 < o43 + 1; omega, _, ((eN (b4) (by omega)).trans (m42)), Or.inr (cl_bd rfl)⟩
    | 25, _, _ => exact ⟨by show s4 < o43 + 1; omega, _, ((eN (s4) (by omega)).trans (m43)), Or.inr (cl_i rfl)⟩
    | 26, _, _ => exact ⟨by show c4 < o43 + 1; omega, _, ((eN (c4) (by omega)).trans (m44)), Or.inr (cl_i rfl)⟩
    | 27, _, _ => exact ⟨by show t4 < o43 + 1; omega, _, ((eN (t4) (by omega)).trans (m45)), Or.inr (cl_i rfl)⟩
    | 28, _, _ => exact ⟨by show gs 4 < o43 + 1; omega, _, ((eN (gs 4) (by omega)).trans (m51)), Or.inr (cl_gm rfl rfl rfl rfl rfl)⟩
    | 29, _, _ => exact ⟨by show b5 < o43 + 1; omega, _, ((eN (b5) (by omega)).trans (m52)), Or.inr (cl_bd rfl)⟩
    | 30, _, _ => exact ⟨by show s5 < o43 + 1; omega, _, ((eN (s5) (by omega)).trans (m53)), Or.inr (cl_i rfl)⟩
    | 31, _, _ => exact ⟨by show c5 < o43 + 1; omega, _, ((eN (c5) (by omega)).trans (m54)), Or.inr (cl_i rfl)⟩
    | 32, _, _ => exact ⟨by show t5 < o43 + 1; omega, _, ((eN (t5) (by omega)).trans (m55)), Or.inr (cl_i rfl)⟩
    | 33, _, _ => exact ⟨by show tt < o43 + 1; omega, _, ((eN (tt) (by omega)).trans (eT1)), Or.inr ⟨rfl, rfl, (by decide : 3 < 15), fun k hk => (match k, (show k < 2 from hk) with | 0, _ => rfl | 1, _ => rfl)⟩⟩
    | 34, _, _ => exact ⟨by show tc < o43 + 1; omega, _, ((eN (tc) (by omega)).trans (eT2)), Or.inr ⟨rfl, rfl, (by decide : 13 < 15), fun k _ => rfl⟩⟩
    | 35, _, _ => exact ⟨by show tb < o43 + 1; omega, _, ((eN (tb) (by omega)).trans (w4)), Or.inr (cl_bd rfl)⟩
    | 36, _, _ => exact ⟨by show tq < o43 + 1; omega, _, ((eN (tq) (by omega)).trans (w5)), Or.inr (cl_i rfl)⟩
    | 37, _, _ => exact ⟨by show o37 < o43 + 1; omega, _, f37, Or.inr (cl_i rfl)⟩
    | 38, _, _ => exact ⟨by show o38 < o43 + 1; omega, _, f38, Or.inr (cl_i rfl)⟩
    | 39, _, _ => exact ⟨by show o39 < o43 + 1; omega, _, f39, Or.inr (cl_i rfl)⟩
    | 40, _, _ => exact ⟨by show o40 < o43 + 1; omega, _, f40, Or.inr ⟨rfl, rfl, (by decide : 11 < 15), fun k _ => rfl⟩⟩
    | 41, _, _ => exact ⟨by show o41 < o43 + 1; omega, _, f41, Or.inr ⟨rfl, rfl, (by decide : 11 < 15), fun k _ => rfl⟩⟩
    | 42, _, _ => exact ⟨by show o42 < o43 + 1; omega, _, f42, Or.inr ⟨rfl, rfl, (by decide : 11 < 15), fun k _ => rfl⟩⟩
    | 43, _, _ => exact ⟨by show o43 < o43 + 1; omega, _, f43, Or.inr ⟨rfl, rfl, (by decide : 11 < 15), fun k _ => rfl⟩⟩
    | 44, _, hz => exact absurd rfl hz.2.1
    | 45, _, hz => exact absurd rfl hz.2.2
    | 46, _, _ => exact ⟨by show st 0 < o43 + 1; omega, _, (eS 0 (by decide)), Or.inl rfl⟩
    | 47, _, _ => exact ⟨by show st 1 < o43 + 1; omega, _, (eS 1 (by decide)), Or.inl rfl⟩
    | 48, _, _ => exact ⟨by show st 2 < o43 + 1; omega, _, (eS 2 (by decide)), Or.inl rfl⟩
    | 49, _, _ => exact ⟨by show st 3 < o43 + 1; omega, _, (eS 3 (by decide)), Or.inl rfl⟩
    | 50, _, _ => exact ⟨by show st 4 < o43 + 1; omega, _, (eS 4 (by decide)), Or.inl rfl⟩
    | 51, _, _ => exact ⟨by show st 5 < o43 + 1; omega, _, (eS 5 (by decide)), Or.inl rfl⟩
    | 52, _, _ => exact ⟨by show st 6 < o43 + 1; omega, _, (eS 6 (by decide)), Or.inl rfl⟩
    | i + 53, hi, _ => exact absurd hi (by omega)
  have x0 : (mkD l L xs).1 0 = x := by subst el; rfl
  have x37 : (mkD l L xs).1 37 = o37 := by subst el; rfl
  have x38 : (mkD l L xs).1 38 = o38 := by subst el; rfl
  have x39 : (mkD l L xs).1 39 = o39 := by subst el; rfl
  have x40 : (mkD l L xs).1 40 = o40 := by subst el; rfl
  have x41 : (mkD l L xs).1 41 = o41 := by subst el; rfl
  have x42 : (mkD l L xs).1 42 = o42 := by subst el; rfl
  have x43 : (mkD l L xs).1 43 = o43 := by subst el; rfl
  have x52 : (mkD l L xs).1 52 = st 6 := by subst el; rfl
  refine Z_HM (D := mkD l L xs) (V := V0) (P := P0 l) hF ?_
  have hS := SU_0 (l := l) (L := L) (xs := xs) (sz := o43 + 1) (fun i hi => (hF i hi).1)
  have K : Z E G (HM (mkD l L xs) V0 (P0 l) (fun _ => none)) (o43 + 1) (0 + 1 + 36 + 1 + 1 + 1 + 1 + 1 + 1 + 1) (0 + 4 + 400 + 36 + 36 + 11 + 64 + 64 + 64 + 64) (48, [some (.ref ((mkD l L xs).1 52)), some (.ref ((mkD l L xs).1 0)), some (.ref ((mkD l L xs).1 37)), some (.ref ((mkD l L xs).1 38)), some (.ref ((mkD l L xs).1 39)), some (.ref ((mkD l L xs).1 40)), some (.ref ((mkD l L xs).1 41)), some (.ref ((mkD l L xs).1 42)), some (.ref ((mkD l L xs).1 43)), none, none, none, none, none, none, none, none, none, none], []) := by
    refine Z_run C it_La 3 (f2 := (53, [some (.ref ((mkD l L xs).1 52)), some (.ref ((mkD l L xs).1 0)), some (.ref ((mkD l L xs).1 37)), some (.ref ((mkD l L xs).1 38)), some (.ref ((mkD l L xs).1 39)), some (.ref ((mkD l L xs).1 40)), some (.ref ((mkD l L xs).1 41)), some (.ref ((mkD l L xs).1 42)), some (.ref ((mkD l L xs).1 43)), none, none, none, none, none, none, none, none, none, none], [.int (-101), .int (nI 2), .ref ((mkD l L xs).1 39)])) rfl ?_
    refine Zm_ast C it_La hD 39 10 rfl (by decide) rfl (by decide) rfl (j := 2) (by omega) trivial rfl ?_
    exact gd_54 C hD hL hS hend (by decide) (by decide)
  rw [x0, x37, x38, x39, x40, x41, x42, x43, x52] at K
  exact K
