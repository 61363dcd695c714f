/-! ===== the law's sides: all answers of the class about sides ===== -/
theorem ct_Xx_wbaN {E : zE} (hE : zEv E) {l : Launch} (hl : l.stackTraces = false) {D : zD} (hD : zDok E D) (V : Nat → Nat → Int32) (P : Nat → Nat → Value) (PH : aH) (a : Nat) (ha : a < 2) (x : Nat) (hx : V 4 a = nI x) (sz : Nat) : zM E l y_Xx_worthByAccount [.code y_Xx_worthByAccount c_Xx_worthByAccount 2 (some .int)] rm_Xx_worthByAccount [.ref (D.1 0), .int (nI a)] (HM D V P PH) sz (zRet (some (.int (nI x))) (HM D V P PH) sz) := by
  rw [← hx]
  exact ct_Xx_worthByAccount hE hl hD V P PH a ha sz
theorem wkp_1 {F : Nat → Nat} {s : Nat} : ∀ {n : Nat}, n ≤ 36 → (wkp F s n).1 = (match (wkp F s n).2 with
    | none => 0
    | some j => exN 16 F j) ∧ ∀ j, (wkp F s n).2 = some j → j < n ∧ F j ≠ 0 := by
  intro n
  induction n with
  | zero => intro _; exact ⟨rfl, fun j h => by cases h⟩
  | succ n ih =>
    intro hn
    obtain ⟨h1, h2⟩ := ih (by omega)
    cases hh : hld F n s with
    | false =>
      rw [wkp_f hh]
      exact ⟨h1, fun j h => ⟨by have := (h2 j h).1; omega, (h2 j h).2⟩⟩
    | true =>
      by_cases h3 : exN 16 F n ≤ (wkp F s n).1
      · rw [wkp_n hh h3]
        exact ⟨h1, fun j h => ⟨by have := (h2 j h).1; omega, (h2 j h).2⟩⟩
      · rw [wkp_t hh h3]
        refine ⟨rfl, fun j h => ?_⟩
        cases h
        exact ⟨by omega, (hld_sd hh).1⟩
theorem wos_s {F : Nat → Nat} {s n : Nat} : wos F s (n + 1) = wos F s n + (if hld F n s then wr (F n) else 0) := rfl
theorem gby_s {F : Nat → Nat} {s n : Nat} : gby F s (n + 1) = gby F s n ||| (if hld F n s then gfr F n else 0) := rfl
theorem cnt_s {b : Nat → Bool} {n : Nat} : cnt b (n + 1) = cnt b n + (if b n then 1 else 0) := rfl
theorem cga_s {F : Nat → Nat} {s t n : Nat} : cga F s t (n + 1) = cga F s t n + (if (hld F n s && (gfr F n).testBit t) then 1 else 0) := rfl
theorem cga_le {F : Nat → Nat} {s t n : Nat} : cga F s t n ≤ n := cnt_le
theorem exM_lt (d : Nat) (F : Nat → Nat) (q : Nat) : exM d F q ≤ 35 := exM_le d F q
set_option maxRecDepth 20000 in
theorem sd_157 {E : zE} {G : zG} {D : zD} (hD : zDok E D) {V : Nat → Nat → Int32} {P : Nat → Nat → Value} {PH : aH} {F : Nat → Nat} {pr qr : Nat → Int32} (hLB : LB V F pr qr) (hpq : okpq F pr qr) (hpc : pcs_ F ≤ 16) {sz : Nat} {s : Nat} (hs : s < 2) (C : zCx E G c_Lw_sides 13 y_Lw_sides.cls y_Lw_sides.name (some .boolean) rm_Lw_sides) (q : zEndX E G (zEo D V P PH sz (nI 1)) rm_Lw_sides.cells rm_Lw_sides.slots) {V2 : Nat → Nat → Int32} (hV : ∀ c, c ≠ 36 → V2 c = V c) {k n : Nat} (hk : k ≤ 760) (hn : n ≤ 15300) {xa xb xc : Int32} {xg : Int64} {i : Nat} (hi : i < 36) (kk : Z E G (HM D V2 P PH) sz k n (211, [some (.ref (D.1 0)), some (.ref (D.1 37)), some (.ref (D.1 38)), some (.int (nI s)), some (.int xa), some (.int xb), some (.int xc), some (.long xg), none, some (.int (nI i)), none, some (.int (nI (cga F s i 36))), some (.int (nI 36))], [])) : ∀ (y m : Nat), 36 - m < y → m ≤ 36 → Z E G (HM D V2 P PH) sz k n (157, [some (.ref (D.1 0)), some (.ref (D.1 37)), some (.ref (D.1 38)), some (.int (nI s)), some (.int xa), some (.int xb), some (.int xc), some (.long xg), none, some (.int (nI i)), none, some (.int (nI (cga F s i m))), some (.int (nI m))], []) := by
  intro y
  induction y with
  | zero =>
    intro m h1 h2
    omega
  | succ y ih =>
    intro m h1 h2
    have hF := hpq.1
    have hLB2 := LB_fr hLB hV
    have hst := stp_lt (F m)
    have hgl := gfr_lt F m
    refine Z_run C it_Lw_sides 2 (f2 := (161, [some (.ref (D.1 0)), some (.ref (D.1 37)), some (.ref (D.1 38)), some (.int (nI s)), some (.int xa), some (.int xb), some (.int xc), some (.long xg), none, some (.int (nI i)), none, some (.int (nI (cga F s i m))), some (.int (nI m))], [.int (nI 36), .int (nI m)])) rfl ?_
    refine Z_br C it_Lw_sides rfl rfl (fun hc1 => ?_) (fun hc1 => ?_)
    · exact (show m = 36 by have := (nI_leI (a := 36) (b := m) (by omega) (by omega)).mp hc1; omega) ▸ kk
    · have hm36 : m < 36 := by have z : ¬ 36 ≤ m := fun z9 => hc1 ((nI_leI (a := 36) (b := m) (by omega) (by omega)).mpr z9); omega
      refine Z_run C it_Lw_sides 4 (f2 := (170, [some (.ref (D.1 0)), some (.ref (D.1 37)), some (.ref (D.1 38)), some (.int (nI s)), some (.int xa), some (.int xb), some (.int xc), some (.long xg), none, some (.int (nI i)), none, some (.int (nI (cga F s i m))), some (.int (nI m))], [.int (nI m), .ref (D.1 38), .ref (D.1 37), .int (nI (cga F s i m))])) rfl ?_
      refine Zr_callS C it_Lw_sides rfl p_Lw_side ml_Lw_20 [.ref (D.1 37), .ref (D.1 38), .int (nI m)] (ct_Lw_side C.ev C.l F _ _ hpq (HM D V2 P PH) _ _ (LB_p hD hLB2) (LB_q hD hLB2) m (by omega) _) rfl rfl ⟨by decide, by decide, by show k + 0 + 0 ≤ 760; omega, by show n + 0 + 0 ≤ 15300; omega⟩ (Nat.le_of_ble_eq_true rfl) rfl ?_
      show Z E G (HM D V2 P PH) sz k n (173, [some (.ref (D.1 0)), some (.ref (D.1 37)), some (.ref (D.1 38)), some (.int (nI s)), some (.int xa), some (.int xb), some (.int xc), some (.long xg), none, some (.int (nI i)), none, some (.int (nI (cga F s i m))), some (.int (nI m))], [.int (sdI F m), .int (nI (cga F s i m))])
      refine Z_run C it_Lw_sides 1 (f2 := (174, [some (.ref (D.1 0)), some (.ref (D.1 37)), some (.ref (D.1 38)), some (.int (nI s)), some (.int xa), some (.int xb), some (.int xc), some (.long xg), none, some (.int (nI i)), none, some (.int (nI (cga F s i m))), some (.int (nI m))], [.int (nI s), .int (sdI F m), .int (nI (cga F s i m))])) rfl ?_
      refine Z_br C it_Lw_sides rfl rfl (fun hc2 => ?_) (fun hc2 => ?_)
      · have hh : hld F m s = false := (sdI_n (by omega)).mp hc2
        refine Z_run C it_Lw_sides 2 (f2 := (203, [some (.ref (D.1 0)), some (.ref (D.1 37)), some (.ref (D.1 38)), some (.int (nI s)), some (.int xa), some (.int xb), some (.int xc), some (.long xg), none, some (.int (nI i)), none, some (.int (nI (cga F s i m))), some (.int (nI m))], [.int (nI (cga F s i m) + nI 0)])) rfl ?_
        rw [nI_add (cga F s i m) 0]
        refine Z_run C it_Lw_sides 2 (f2 := (208, [some (.ref (D.1 0)), some (.ref (D.1 37)), some (.ref (D.1 38)), some (.int (nI s)), some (.int xa), some (.int xb), some (.int xc), some (.long xg), none, some (.int (nI i)), none, some (.int (nI (cga F s i m + 0))), some (.int (nI m + nI 1))], [])) rfl ?_
        rw [nI_add m 1]
        refine Z_run C it_Lw_sides 1 (f2 := (157, [some (.ref (D.1 0)), some (.ref (D.1 37)), some (.ref (D.1 38)), some (.int (nI s)), some (.int xa), some (.int xb), some (.int xc), some (.long xg), none, some (.int (nI i)), none, some (.int (nI (cga F s i m + 0))), some (.int (nI (m + 1)))], [])) rfl ?_
        have e9 : nI (cga F s i m + 0) = nI (cga F s i (m + 1)) := by rw [cga_s]; first | (rw [hh, hbt]; rfl) | (rw [hh]; rfl)
        rw [e9]
        exact ih (m + 1) (by omega) (by omega)
      · have hh : hld F m s = true := (sdI_s (by omega)).mp (Classical.not_not.mp hc2)
        have hne : F m ≠ 0 := (hld_sd hh).1
        refine Z_run C it_Lw_sides 3 (f2 := (181, [some (.ref (D.1 0)), some (.ref (D.1 37)), some (.ref (D.1 38)), some (.int (nI s)), some (.int xa), some (.int xb), some (.int xc), some (.long xg), none, some (.int (nI i)), none, some (.int (nI (cga F s i m))), some (.int (nI m))], [.int (nI m), .ref (D.1 37), .ref (D.1 37), .int (nI (cga F s i m))])) rfl ?_
        refine Z_ald C it_Lw_sides (tg := 10) rfl (LB_p hD hLB2) (by decide) rfl (j := m) (by omega) (by decide) (v := .int (nI (stp (F m)))) (congrArg Value.int (hpq.2 m (by omega)).1) ?_
        refine Z_run C it_Lw_sides 1 (f2 := (184, [some (.ref (D.1 0)), some (.ref (D.1 37)), some (.ref (D.1 38)), some (.int (nI s)), some (.int xa), some (.int xb), some (.int xc), some (.long xg), none, some (.int (nI i)), none, some (.int (nI (cga F s i m))), some (.int (nI m))], [.int (nI m), .int (nI (stp (F m))), .ref (D.1 37), .int (nI (cga F s i m))])) rfl ?_
        refine Zr_callS C it_Lw_sides rfl p_Lw_covers ml_Lw_16 [.ref (D.1 37), .int (nI (stp (F m))), .int (nI m)] (ct_Lw_covers C.ev C.l F hF _ (fun k hk => (hpq.2 k hk).1) (fun k hk => (hpq.2 k hk).2.1) (HM D V2 P PH) _ (LB_p hD hLB2) (stp (F m)) (stp_lt _) m (by omega) _) rfl rfl ⟨by decide, by decide, by show k + 0 + 0 ≤ 760; omega, by show n + 0 + 0 ≤ 15300; omega⟩ (Nat.le_of_ble_eq_true rfl) rfl ?_
        show Z E G (HM D V2 P PH) sz k n (187, [some (.ref (D.1 0)), some (.ref (D.1 37)), some (.ref (D.1 38)), some (.int (nI s)), some (.int xa), some (.int xb), some (.int xc), some (.long xg), none, some (.int (nI i)), none, some (.int (nI (cga F s i m))), some (.int (nI m))], [.long (lN (cvo F (stp (F m)) m 5)), .int (nI (cga F s i m))])
        have e1 : lN (cvo F (stp (F m)) m 5) = lN (gfr F m) := by rw [cvo_gfr (by omega)]
        rw [e1]
        refine Z_run C it_Lw_sides 6 (f2 := (194, [some (.ref (D.1 0)), some (.ref (D.1 37)), some (.ref (D.1 38)), some (.int (nI s)), some (.int xa), some (.int xb), some (.int xc), some (.long xg), none, some (.int (nI i)), none, some (.int (nI (cga F s i m))), some (.int (nI m))], [.int (lg_cmp ((lN (gfr F m) >>> ((nI i).toInt64 &&& 63)) &&& lN 1) (lN 1)), .int (nI (cga F s i m))])) rfl ?_
        refine Z_br C it_Lw_sides rfl rfl (fun hc3 => ?_) (fun hc3 => ?_)
        · have hbt : (gfr F m).testBit i = false := by rw [← Bool.not_eq_true]; exact fun z => hc3 ((bit_1 (by omega) (by omega)).mpr z)
          refine Z_run C it_Lw_sides 2 (f2 := (203, [some (.ref (D.1 0)), some (.ref (D.1 37)), some (.ref (D.1 38)), some (.int (nI s)), some (.int xa), some (.int xb), some (.int xc), some (.long xg), none, some (.int (nI i)), none, some (.int (nI (cga F s i m))), some (.int (nI m))], [.int (nI (cga F s i m) + nI 0)])) rfl ?_
          rw [nI_add (cga F s i m) 0]
          refine Z_run C it_Lw_sides 2 (f2 := (208, [some (.ref (D.1 0)), some (.ref (D.1 37)), some (.ref (D.1 38)), some (.int (nI s)), some (.int xa), some (.int xb), some (.int xc), some (.long xg), none, some (.int (nI i)), none, some (.int (nI (cga F s i m + 0))), some (.int (nI m + nI 1))], [])) rfl ?_
          rw [nI_add m 1]
          refine Z_run C it_Lw_sides 1 (f2 := (157, [some (.ref (D.1 0)), some (.ref (D.1 37)), some (.ref (D.1 38)), some (.int (nI s)), some (.int xa), some (.int xb), some (.int xc), some (.long xg), none, some (.int (nI i)), none, some (.int (nI (cga F s i m + 0))), some (.int (nI (m + 1)))], [])) rfl ?_
          have e9 : nI (cga F s i m + 0) = nI (cga F s i (m + 1)) := by rw [cga_s]; first | (rw [hh, hbt]; rfl) | (rw [hh]; rfl)
          rw [e9]
          exact ih (m + 1) (by omega) (by omega)
        · have hbt : (gfr F m).testBit i = true := (bit_1 (by omega) (by omega)).mp (Classical.not_not.mp hc3)
          refine Z_run C it_Lw_sides 3 (f2 := (203, [some (.ref (D.1 0)), some (.ref (D.1 37)), some (.ref (D.1 38)), some (.int (nI s)), some (.int xa), some (.int xb), some (.int xc), some (.long xg), none, some (.int (nI i)), none, some (.int (nI (cga F s i m))), some (.int (nI m))], [.int (nI (cga F s i m) + nI 1)])) rfl ?_
          rw [nI_add (cga F s i m) 1]
          refine Z_run C it_Lw_sides 2 (f2 := (208, [some (.ref (D.1 0)), some (.ref (D.1 37)), some (.ref (D.1 38)), some (.int (nI s)), some (.int xa), some (.int xb), some (.int xc), some (.long xg), none, some (.int (nI i)), none, some (.int (nI (cga F s i m + 1))), some (.int (nI m + nI 1))], [])) rfl ?_
          rw [nI_add m 1]
          refine Z_run C it_Lw_sides 1 (f2 := (157, [some (.ref (D.1 0)), some (.ref (D.1 37)), some (.ref (D.1 38)), some (.int (nI s)), some (.int xa), some (.int xb), some (.int xc), some (.long xg), none, some (.int (nI i)), none, some (.int (nI (cga F s i m + 1))), some (.int (nI (m + 1)))], [])) rfl ?_
          have e9 : nI (cga F s i m + 1) = nI (cga F s i (m + 1)) := by rw [cga_s]; first | (rw [hh, hbt]; rfl) | (rw [hh]; rfl)
          rw [e9]
          exact ih (m + 1) (by omega) (by omega)
set_option maxRecDepth 20000 in
theorem sd_151 {E : zE} {G : zG} {D : zD} (hD : zDok E D) {V : Nat → Nat → Int32} {P : Nat → Nat → Value} {PH : aH} {F : Nat → Nat} {pr qr : Nat → Int32} (hLB : LB V F pr qr) (hpq : okpq F pr qr) (hpc : pcs_ F ≤ 16) {sz : Nat} {s : Nat} (hs : s < 2) (C : zCx E G c_Lw_sides 13 y_Lw_sides.cls y_Lw_sides.name (some .boolean) rm_Lw_sides) (q : zEndX E G (zEo D V P PH sz (nI 1)) rm_Lw_sides.cells rm_Lw_sides.slots) {V2 : Nat → Nat → Int32} (hV : ∀ c, c ≠ 36 → V2 c = V c) {k n : Nat} (hk : k + 4 ≤ 760) (hn : n + 24 ≤ 15300) {xa xb xc : Int32} {xg : Int64} {i : Nat} (hi : i < 36) (kk : Z E G (HM D V2 P PH) sz (k + 4) (n + 24) (237, [some (.ref (D.1 0)), some (.ref (D.1 37)), some (.ref (D.1 38)), some (.int (nI s)), some (.int xa), some (.int xb), some (.int xc), some (.long xg), none, some (.int (nI i)), none, none, none], [])) : Z E G (HM D V2 P PH) sz k n (151, [some (.ref (D.1 0)), some (.ref (D.1 37)), some (.ref (D.1 38)), some (.int (nI s)), some (.int xa), some (.int xb), some (.int xc), some (.long xg), none, some (.int (nI i)), none, none, none], []) := by
  have hF := hpq.1
  have hLB2 := LB_fr hLB hV
  refine Z_run C it_Lw_sides 4 (f2 := (157, [some (.ref (D.1 0)), some (.ref (D.1 37)), some (.ref (D.1 38)), some (.int (nI s)), some (.int xa), some (.int xb), some (.int xc), some (.long xg), none, some (.int (nI i)), none, some (.int (nI 0)), some (.int (nI 0))], [])) rfl ?_
  have e0 : nI 0 = nI (cga F s i 0) := rfl
  rw [e0]
  refine sd_157 hD hLB hpq hpc hs C q hV (by omega) (by omega) hi ?_ 37 0 (by omega) (by omega)
  refine Z_run C it_Lw_sides 3 (f2 := (215, [some (.ref (D.1 0)), some (.ref (D.1 37)), some (.ref (D.1 38)), some (.int (nI s)), some (.int xa), some (.int xb), some (.int xc), some (.long xg), none, some (.int (nI i)), none, some (.int (nI (cga F s i 36))), some (.int (nI 36))], [.int (nI i), .int (nI s), .ref (D.1 0)])) rfl ?_
  refine Zr_callV C it_Lw_sides hD rfl p_Xx_guards ml_Lw_60 0 (by decide) rfl rfl [.int (nI s), .int (nI i)] (cx_Xx_guards C.ev C.l hD _ _ _ F hLB2.1 hF s (by omega) i (by omega) _) rfl rfl ⟨by decide, by decide, by show k + 0 + 2 ≤ 760; omega, by show n + 0 + 12 ≤ 15300; omega⟩ (Nat.le_of_ble_eq_true rfl) rfl ?_
  show Z E G (HM D V2 P PH) sz (k + 2) (n + 12) (218, [some (.ref (D.1 0)), some (.ref (D.1 37)), some (.ref (D.1 38)), some (.int (nI s)), some (.int xa), some (.int xb), some (.int xc), some (.long xg), none, some (.int (nI i)), none, some (.int (nI (cga F s i 36))), some (.int (nI 36))], [.int (nI (cga F s i 36))])
  refine Z_run C it_Lw_sides 1 (f2 := (220, [some (.ref (D.1 0)), some (.ref (D.1 37)), some (.ref (D.1 38)), some (.int (nI s)), some (.int xa), some (.int xb), some (.int xc), some (.long xg), none, some (.int (nI i)), none, some (.int (nI (cga F s i 36))), some (.int (nI 36))], [.int (nI (cga F s i 36)), .int (nI (cga F s i 36))])) rfl ?_
  refine Z_br C it_Lw_sides rfl rfl (fun hc1 => ?_) (fun hc1 => ?_)
  · exact absurd (rfl) hc1
  · skip
    refine Z_run C it_Lw_sides 3 (f2 := (227, [some (.ref (D.1 0)), some (.ref (D.1 37)), some (.ref (D.1 38)), some (.int (nI s)), some (.int xa), some (.int xb), some (.int xc), some (.long xg), none, some (.int (nI i)), none, some (.int (nI (cga F s i 36))), some (.int (nI 36))], [.int (nI i), .int (nI s), .ref (D.1 0)])) rfl ?_
    refine Zr_callV C it_Lw_sides hD rfl p_Xx_guardsByLooking ml_Lw_63 0 (by decide) rfl rfl [.int (nI s), .int (nI i)] (cx_Xx_guardsByLooking C.ev C.l hD _ _ _ F hLB2.1 hF s (by omega) i (by omega) _) rfl rfl ⟨by decide, by decide, by show k + 2 + 2 ≤ 760; omega, by show n + 12 + 12 ≤ 15300; omega⟩ (Nat.le_of_ble_eq_true rfl) rfl ?_
    show Z E G (HM D V2 P PH) sz (k + 4) (n + 24) (230, [some (.ref (D.1 0)), some (.ref (D.1 37)), some (.ref (D.1 38)), some (.int (nI s)), some (.int xa), some (.int xb), some (.int xc), some (.long xg), none, some (.int (nI i)), none, some (.int (nI (cga F s i 36))), some (.int (nI 36))], [.int (nI (popc (gsf F s i)))])
    refine Z_run C it_Lw_sides 1 (f2 := (232, [some (.ref (D.1 0)), some (.ref (D.1 37)), some (.ref (D.1 38)), some (.int (nI s)), some (.int xa), some (.int xb), some (.int xc), some (.long xg), none, some (.int (nI i)), none, some (.int (nI (cga F s i 36))), some (.int (nI 36))], [.int (nI (cga F s i 36)), .int (nI (popc (gsf F s i)))])) rfl ?_
    refine Z_br C it_Lw_sides rfl rfl (fun hc2 => ?_) (fun hc2 => ?_)
    · skip
      refine Z_sub (ls2 := [some (.ref (D.1 0)), some (.ref (D.1 37)), some (.ref (D.1 38)), some (.int (nI s)), some (.int xa), some (.int xb), some (.int xc), some (.long xg), none, some (.int (nI i)), none, none, none]) ⟨rfl, rfl, rfl, rfl, rfl, rfl, rfl, rfl, rfl, trivial⟩ ?_
      exact kk
    · exact absurd (congrArg nI (by rw [gsf_cnt hF s hi, ← cga_cnt hF s hi])) hc2
set_option maxRecDepth 20000 in
theorem sd_22 {E : zE} {G : zG} {D : zD} (hD : zDok E D) {V : Nat → Nat → Int32} {P : Nat → Nat → Value} {PH : aH} {F : Nat → Nat} {pr qr : Nat → Int32} (hLB : LB V F pr qr) (hpq : okpq F pr qr) (hpc : pcs_ F ≤ 16) {sz : Nat} {s : Nat} (hs : s < 2) (C : zCx E G c_Lw_sides 13 y_Lw_sides.cls y_Lw_sides.name (some .boolean) rm_Lw_sides) (q : zEndX E G (zEo D V P PH sz (nI 1)) rm_Lw_sides.cells rm_Lw_sides.slots) {V2 : Nat → Nat → Int32} (hV : ∀ c, c ≠ 36 → V2 c = V c) {k n : Nat} {K N : Nat} (hK : K + 360 ≤ 760) (hN : N + 7488 ≤ 15300) (kk : Z E G (HM D V2 P PH) sz (K + 36 * 10) (N + 36 * 208) (243, [some (.ref (D.1 0)), some (.ref (D.1 37)), some (.ref (D.1 38)), some (.int (nI s)), some (.int (nI (cnt (fun k => hld F k s) 36))), some (.int (nI (wos F s 36))), some (.int (oI (wkp F s 36).2)), some (.long (lN (gby F s 36))), none, some (.int (nI 36)), none, none, none], [])) : ∀ (y i : Nat), 36 - i < y → i ≤ 36 → Z E G (HM D V2 P PH) sz (K + i * 10) (N + i * 208) (22, [some (.ref (D.1 0)), some (.ref (D.1 37)), some (.ref (D.1 38)), some (.int (nI s)), some (.int (nI (cnt (fun k => hld F k s) i))), some (.int (nI (wos F s i))), some (.int (oI (wkp F s i).2)), some (.long (lN (gby F s i))), none, some (.int (nI i)), none, none, none], []) := by
  intro y
  induction y with
  | zero =>
    intro i h1 h2
    omega
  | succ y ih =>
    intro i h1 h2
    have hF := hpq.1
    have hLB2 := LB_fr hLB hV
    obtain ⟨hw1, hw2⟩ := wkp_1 (F := F) (s := s) h2
    have hxi := exM_lt 16 F i
    have hst := stp_lt (F i)
    refine Z_run C it_Lw_sides 2 (f2 := (26, [some (.ref (D.1 0)), some (.ref (D.1 37)), some (.ref (D.1 38)), some (.int (nI s)), some (.int (nI (cnt (fun k => hld F k s) i))), some (.int (nI (wos F s i))), some (.int (oI (wkp F s i).2)), some (.long (lN (gby F s i))), none, some (.int (nI i)), none, none, none], [.int (nI 36), .int (nI i)])) rfl ?_
    refine Z_br C it_Lw_sides rfl rfl (fun hc1 => ?_) (fun hc1 => ?_)
    · exact (show i = 36 by have := (nI_leI (a := 36) (b := i) (by omega) (by omega)).mp hc1; omega) ▸ kk
    · have hi36 : i < 36 := by have z : ¬ 36 ≤ i := fun z9 => hc1 ((nI_leI (a := 36) (b := i) (by omega) (by omega)).mpr z9); omega
      refine Z_run C it_Lw_sides 3 (f2 := (33, [some (.ref (D.1 0)), some (.ref (D.1 37)), some (.ref (D.1 38)), some (.int (nI s)), some (.int (nI (cnt (fun k => hld F k s) i))), some (.int (nI (wos F s i))), some (.int (oI (wkp F s i).2)), some (.long (lN (gby F s i))), none, some (.int (nI i)), none, none, none], [.int (nI i), .ref (D.1 38), .ref (D.1 37)])) rfl ?_
      refine Zr_callS C it_Lw_sides rfl p_Lw_side ml_Lw_20 [.ref (D.1 37), .ref (D.1 38), .int (nI i)] (ct_Lw_side C.ev C.l F _ _ hpq (HM D V2 P PH) _ _ (LB_p hD hLB2) (LB_q hD hLB2) i (by omega) _) rfl rfl ⟨by decide, by decide, by show K + i * 10 + 0 + 0 ≤ 760; omega, by show N + i * 208 + 0 + 0 ≤ 15300; omega⟩ (Nat.le_of_ble_eq_true rfl) rfl ?_
      show Z E G (HM D V2 P PH) sz (K + i * 10) (N + i * 208) (36, [some (.ref (D.1 0)), some (.ref (D.1 37)), some (.ref (D.1 38)), some (.int (nI s)), some (.int (nI (cnt (fun k => hld F k s) i))), some (.int (nI (wos F s i))), some (.int (oI (wkp F s i).2)), some (.long (lN (gby F s i))), none, some (.int (nI i)), none, none, none], [.int (sdI F i)])
      refine Z_run C it_Lw_sides 1 (f2 := (37, [some (.ref (D.1 0)), some (.ref (D.1 37)), some (.ref (D.1 38)), some (.int (nI s)), some (.int (nI (cnt (fun k => hld F k s) i))), some (.int (nI (wos F s i))), some (.int (oI (wkp F s i).2)), some (.long (lN (gby F s i))), none, some (.int (nI i)), none, none, none], [.int (nI s), .int (sdI F i)])) rfl ?_
      refine Z_br C it_Lw_sides rfl rfl (fun hc2 => ?_) (fun hc2 => ?_)
      · have hh : hld F i s = false := (sdI_n (by omega)).mp hc2
        refine Z_run C it_Lw_sides 4 (f2 := (51, [some (.ref (D.1 0)), some (.ref (D.1 37)), some (.ref (D.1 38)), some (.int (nI s)), some (.int (nI (cnt (fun k => hld F k s) i))), some (.int (nI (wos F s i))), some (.int (oI (wkp F s i).2)), some (.long (lN (gby F s i))), none, some (.int (nI i)), some (.int (nI 0)), none, none], [.int (nI 0), .int (nI (cnt (fun k => hld F k s) i))])) rfl ?_
        refine Z_br C it_Lw_sides rfl rfl (fun hc3 => ?_) (fun hc3 => ?_)
        · skip
          refine Z_run C it_Lw_sides 2 (f2 := (60, [some (.ref (D.1 0)), some (.ref (D.1 37)), some (.ref (D.1 38)), some (.int (nI s)), some (.int (nI (cnt (fun k => hld F k s) i))), some (.int (nI (wos F s i))), some (.int (oI (wkp F s i).2)), some (.long (lN (gby F s i))), none, some (.int (nI i)), some (.int (nI 0)), none, none], [.int (nI (cnt (fun k => hld F k s) i) + nI 0)])) rfl ?_
          rw [nI_add (cnt (fun k => hld F k s) i) 0]
          refine Z_run C it_Lw_sides 3 (f2 := (66, [some (.ref (D.1 0)), some (.ref (D.1 37)), some (.ref (D.1 38)), some (.int (nI s)), some (.int (nI (cnt (fun k => hld F k s) i + 0))), some (.int (nI (wos F s i))), some (.int (oI (wkp F s i).2)), some (.long (lN (gby F s i))), none, some (.int (nI i)), some (.int (nI 0)), none, none], [.int (nI 0), .int (nI (wos F s i))])) rfl ?_
          refine Z_br C it_Lw_sides rfl rfl (fun hc4 => ?_) (fun hc4 => ?_)
          · skip
            refine Z_run C it_Lw_sides 2 (f2 := (85, [some (.ref (D.1 0)), some (.ref (D.1 37)), some (.ref (D.1 38)), some (.int (nI s)), some (.int (nI (cnt (fun k => hld F k s) i + 0))), some (.int (nI (wos F s i))), some (.int (oI (wkp F s i).2)), some (.long (lN (gby F s i))), none, some (.int (nI i)), some (.int (nI 0)), none, none], [.int (nI (wos F s i) + nI 0)])) rfl ?_
            rw [nI_add (wos F s i) 0]
            refine Z_run C it_Lw_sides 2 (f2 := (89, [some (.ref (D.1 0)), some (.ref (D.1 37)), some (.ref (D.1 38)), some (.int (nI s)), some (.int (nI (cnt (fun k => hld F k s) i + 0))), some (.int (nI (wos F s i + 0))), some (.int (oI (wkp F s i).2)), some (.long (lN (gby F s i))), none, some (.int (nI i)), some (.int (nI 0)), none, none], [.int (nI 0)])) rfl ?_
            refine Z_br C it_Lw_sides rfl rfl (fun hc5 => ?_) (fun hc5 => ?_)
            · skip
              refine Z_run C it_Lw_sides 4 (f2 := (131, [some (.ref (D.1 0)), some (.ref (D.1 37)), some (.ref (D.1 38)), some (.int (nI s)), some (.int (nI (cnt (fun k => hld F k s) i + 0))), some (.int (nI (wos F s i + 0))), some (.int (oI (wkp F s i).2)), some (.long (lN (gby F s i))), none, some (.int (nI i)), some (.int (nI 0)), none, none], [.int (nI 0), .long (lN (gby F s i))])) rfl ?_
              refine Z_br C it_Lw_sides rfl rfl (fun hc6 => ?_) (fun hc6 => ?_)
              · skip
                refine Z_run C it_Lw_sides 3 (f2 := (151, [some (.ref (D.1 0)), some (.ref (D.1 37)), some (.ref (D.1 38)), some (.int (nI s)), some (.int (nI (cnt (fun k => hld F k s) i + 0))), some (.int (nI (wos F s i + 0))), some (.int (oI (wkp F s i).2)), some (.long (lN (gby F s i) ||| lN 0)), none, some (.int (nI i)), some (.int (nI 0)), none, none], [])) rfl ?_
                have e4 : nI (cnt (fun k => hld F k s) i + 0) = nI (cnt (fun k => hld F k s) (i + 1)) := by rw [cnt_s, hh]; rfl
                have e5 : nI (wos F s i + 0) = nI (wos F s (i + 1)) := by rw [wos_s, hh]; rfl
                have e6 : oI (wkp F s i).2 = oI (wkp F s (i + 1)).2 := by rw [wkp_f hh]
                have e7 : lN (gby F s i) ||| lN 0 = lN (gby F s (i + 1)) := by rw [gby_s, hh, lN_or (by have := gby_lt F s i; omega) (by first | decide | (have := gfr_lt F i; omega))]; rfl
                rw [e4, e5, e6, e7]
                refine Z_sub (ls2 := [some (.ref (D.1 0)), some (.ref (D.1 37)), some (.ref (D.1 38)), some (.int (nI s)), some (.int (nI (cnt (fun k => hld F k s) (i + 1)))), some (.int (nI (wos F s (i + 1)))), some (.int (oI (wkp F s (i + 1)).2)), some (.long (lN (gby F s (i + 1)))), none, some (.int (nI i)), none, none, none]) ⟨rfl, rfl, rfl, rfl, rfl, rfl, rfl, rfl, rfl, trivial⟩ ?_
                refine Z_widen (k2 := K + i * 10 + 6) (n2 := N + i * 208 + 184) (by omega) (by omega) ?_
                refine sd_151 hD hLB hpq hpc hs C q hV (by omega) (by omega) (by omega) ?_
                refine Z_run C it_Lw_sides 1 (f2 := (240, [some (.ref (D.1 0)), some (.ref (D.1 37)), some (.ref (D.1 38)), some (.int (nI s)), some (.int (nI (cnt (fun k => hld F k s) (i + 1)))), some (.int (nI (wos F s (i + 1)))), some (.int (oI (wkp F s (i + 1)).2)), some (.long (lN (gby F s (i + 1)))), none, some (.int (nI i + nI 1)), none, none, none], [])) rfl ?_
                rw [nI_add i 1]
                refine Z_run C it_Lw_sides 1 (f2 := (22, [some (.ref (D.1 0)), some (.ref (D.1 37)), some (.ref (D.1 38)), some (.int (nI s)), some (.int (nI (cnt (fun k => hld F k s) (i + 1)))), some (.int (nI (wos F s (i + 1)))), some (.int (oI (wkp F s (i + 1)).2)), some (.long (lN (gby F s (i + 1)))), none, some (.int (nI (i + 1))), none, none, none], [])) rfl ?_
                rw [show K + i * 10 + 6 + 4 = K + (i + 1) * 10 by omega, show N + i * 208 + 184 + 24 = N + (i + 1) * 208 by omega]
                exact ih (i + 1) (by omega) (by omega)
              · exact absurd rfl hc6
            · exact absurd rfl hc5
          · exact absurd rfl hc4
        · exact absurd rfl hc3
      · have hh : hld F i s = true := (sdI_s (by omega)).mp (Classical.not_not.mp hc2)
        have hne : F i ≠ 0 := (hld_sd hh).1
        refine Z_run C it_Lw_sides 5 (f2 := (51, [some (.ref (D.1 0)), some (.ref (D.1 37)), some (.ref (D.1 38)), some (.int (nI s)), some (.int (nI (cnt (fun k => hld F k s) i))), some (.int (nI (wos F s i))), some (.int (oI (wkp F s i).2)), some (.long (lN (gby F s i))), none, some (.int (nI i)), some (.int (nI 1)), none, none], [.int (nI 1), .int (nI (cnt (fun k => hld F k s) i))])) rfl ?_
        refine Z_br C it_Lw_sides rfl rfl (fun hc7 => ?_) (fun hc7 => ?_)
        · exact absurd hc7 (by decide)
        · skip
          refine Z_run C it_Lw_sides 3 (f2 := (60, [some (.ref (D.1 0)), some (.ref (D.1 37)), some (.ref (D.1 38)), some (.int (nI s)), some (.int (nI (cnt (fun k => hld F k s) i))), some (.int (nI (wos F s i))), some (.int (oI (wkp F s i).2)), some (.long (lN (gby F s i))), none, some (.int (nI i)), some (.int (nI 1)), none, none], [.int (nI (cnt (fun k => hld F k s) i) + nI 1)])) rfl ?_
          rw [nI_add (cnt (fun k => hld F k s) i) 1]
          refine Z_run C it_Lw_sides 3 (f2 := (66, [some (.ref (D.1 0)), some (.ref (D.1 37)), some (.ref (D.1 38)), some (.int (nI s)), some (.int (nI (cnt (fun k => hld F k s) i + 1))), some (.int (nI (wos F s i))), some (.int (oI (wkp F s i).2)), some (.long (lN (gby F s i))), none, some (.int (nI i)), some (.int (nI 1)), none, none], [.int (nI 1), .int (nI (wos F s i))])) rfl ?_
          refine Z_br C it_Lw_sides rfl rfl (fun hc8 => ?_) (fun hc8 => ?_)
          · exact absurd hc8 (by decide)
          · skip
            refine Z_run C it_Lw_sides 2 (f2 := (72, [some (.ref (D.1 0)), some (.ref (D.1 37)), some (.ref (D.1 38)), some (.int (nI s)), some (.int (nI (cnt (fun k => hld F k s) i + 1))), some (.int (nI (wos F s i))), some (.int (oI (wkp F s i).2)), some (.long (lN (gby F s i))), none, some (.int (nI i)), some (.int (nI 1)), none, none], [.int (nI i), .ref (D.1 37), .int (nI (wos F s i))])) rfl ?_
            refine Z_ald C it_Lw_sides (tg := 10) rfl (LB_p hD hLB2) (by decide) rfl (j := i) (by omega) (by decide) (v := .int (nI (stp (F i)))) (congrArg Value.int (hpq.2 i (by omega)).1) ?_
            refine Z_run C it_Lw_sides 2 (f2 := (76, [some (.ref (D.1 0)), some (.ref (D.1 37)), some (.ref (D.1 38)), some (.int (nI s)), some (.int (nI (cnt (fun k => hld F k s) i + 1))), some (.int (nI (wos F s i))), some (.int (oI (wkp F s i).2)), some (.long (lN (gby F s i))), none, some (.int (nI i)), some (.int (nI 1)), none, none], [.int (nI i), .ref (D.1 38), .int (nI (stp (F i))), .int (nI (wos F s i))])) rfl ?_
            refine Z_ald C it_Lw_sides (tg := 10) rfl (LB_q hD hLB2) (by decide) rfl (j := i) (by omega) (by decide) (v := .int (nI (F i / 32))) (congrArg Value.int ((hpq.2 i (by omega)).2.2 (by assumption))) ?_
            refine Zr_callS C it_Lw_sides rfl p_Lw_worth ml_Lw_34 [.int (nI (stp (F i))), .int (nI (F i / 32))] (ct_Lw_worthF C.ev C.l (F i) (hpq.1 _ (by omega)) (HM D V2 P PH) _) rfl rfl ⟨by decide, by decide, by show K + i * 10 + 0 + 0 ≤ 760; omega, by show N + i * 208 + 0 + 0 ≤ 15300; omega⟩ (Nat.le_of_ble_eq_true rfl) rfl ?_
            show Z E G (HM D V2 P PH) sz (K + i * 10) (N + i * 208) (80, [some (.ref (D.1 0)), some (.ref (D.1 37)), some (.ref (D.1 38)), some (.int (nI s)), some (.int (nI (cnt (fun k => hld F k s) i + 1))), some (.int (nI (wos F s i))), some (.int (oI (wkp F s i).2)), some (.long (lN (gby F s i))), none, some (.int (nI i)), some (.int (nI 1)), none, none], [.int (nI (wr (F i))), .int (nI (wos F s i))])
            refine Z_run C it_Lw_sides 2 (f2 := (85, [some (.ref (D.1 0)), some (.ref (D.1 37)), some (.ref (D.1 38)), some (.int (nI s)), some (.int (nI (cnt (fun k => hld F k s) i + 1))), some (.int (nI (wos F s i))), some (.int (oI (wkp F s i).2)), some (.long (lN (gby F s i))), none, some (.int (nI i)), some (.int (nI 1)), none, none], [.int (nI (wos F s i) + nI (wr (F i)))])) rfl ?_
            rw [nI_add (wos F s i) (wr (F i))]
            refine Z_run C it_Lw_sides 2 (f2 := (89, [some (.ref (D.1 0)), some (.ref (D.1 37)), some (.ref (D.1 38)), some (.int (nI s)), some (.int (nI (cnt (fun k => hld F k s) i + 1))), some (.int (nI (wos F s i + wr (F i)))), some (.int (oI (wkp F s i).2)), some (.long (lN (gby F s i))), none, some (.int (nI i)), some (.int (nI 1)), none, none], [.int (nI 1)])) rfl ?_
            refine Z_br C it_Lw_sides rfl rfl (fun hc9 => ?_) (fun hc9 => ?_)
            · exact absurd hc9 (by decide)
            · skip
              refine Z_run C it_Lw_sides 3 (f2 := (96, [some (.ref (D.1 0)), some (.ref (D.1 37)), some (.ref (D.1 38)), some (.int (nI s)), some (.int (nI (cnt (fun k => hld F k s) i + 1))), some (.int (nI (wos F s i + wr (F i)))), some (.int (oI (wkp F s i).2)), some (.long (lN (gby F s i))), none, some (.int (nI i)), some (.int (nI 1)), none, none], [.int (nI i), .ref (D.1 38), .ref (D.1 37)])) rfl ?_
              refine Zr_callS C it_Lw_sides rfl p_Lw_exchange ml_Lw_58 [.ref (D.1 37), .ref (D.1 38), .int (nI i)] (ct_Lw_exchange C.ev C.l F _ _ hpq (HM D V2 P PH) _ _ (LB_p hD hLB2) (LB_q hD hLB2) i (by omega) (by assumption) hpc _) rfl rfl ⟨by decide, by decide, by show K + i * 10 + 0 + 3 ≤ 760; omega, by show N + i * 208 + 0 + 92 ≤ 15300; omega⟩ (Nat.le_of_ble_eq_true rfl) rfl ?_
              show Z E G (HM D V2 P PH) sz (K + i * 10 + 3) (N + i * 208 + 92) (99, [some (.ref (D.1 0)), some (.ref (D.1 37)), some (.ref (D.1 38)), some (.int (nI s)), some (.int (nI (cnt (fun k => hld F k s) i + 1))), some (.int (nI (wos F s i + wr (F i)))), some (.int (oI (wkp F s i).2)), some (.long (lN (gby F s i))), none, some (.int (nI i)), some (.int (nI 1)), none, none], [.int (nI (exM 16 F i))])
              cases hw : (wkp F s i).2 with
              | none =>
                show Z E G (HM D V2 P PH) sz (K + i * 10 + 3) (N + i * 208 + 92) (99, [some (.ref (D.1 0)), some (.ref (D.1 37)), some (.ref (D.1 38)), some (.int (nI s)), some (.int (nI (cnt (fun k => hld F k s) i + 1))), some (.int (nI (wos F s i + wr (F i)))), some (.int ((-1))), some (.long (lN (gby F s i))), none, some (.int (nI i)), some (.int (nI 1)), none, none], [.int (nI (exM 16 F i))])
                rw [hw] at hw1
                refine Z_run C it_Lw_sides 1 (f2 := (101, [some (.ref (D.1 0)), some (.ref (D.1 37)), some (.ref (D.1 38)), some (.int (nI s)), some (.int (nI (cnt (fun k => hld F k s) i + 1))), some (.int (nI (wos F s i + wr (F i)))), some (.int ((-1))), some (.long (lN (gby F s i))), none, some (.int (nI i)), some (.int (nI 1)), none, none], [.int ((-1)), .int (nI (exM 16 F i))])) rfl ?_
                refine Z_br C it_Lw_sides rfl rfl (fun hc10 => ?_) (fun hc10 => ?_)
                · exact absurd hc10 (by decide)
                · skip
                  refine Z_run C it_Lw_sides 2 (f2 := (115, [some (.ref (D.1 0)), some (.ref (D.1 37)), some (.ref (D.1 38)), some (.int (nI s)), some (.int (nI (cnt (fun k => hld F k s) i + 1))), some (.int (nI (wos F s i + wr (F i)))), some (.int ((-1))), some (.long (lN (gby F s i))), none, some (.int (nI i)), some (.int (nI 1)), none, none], [.int (nI 0), .int (nI (exM 16 F i))])) rfl ?_
                  refine Z_br C it_Lw_sides rfl rfl (fun hc11 => ?_) (fun hc11 => ?_)
                  · have hle := (nI_leI (a := exM 16 F i) (b := 0) (by omega) (by omega)).mp hc11
                    have hwk : wkp F s (i + 1) = wkp F s i := wkp_n hh (by rw [hw1, exN_exM (by omega) hF]; exact hle)
                    refine Z_run C it_Lw_sides 4 (f2 := (131, [some (.ref (D.1 0)), some (.ref (D.1 37)), some (.ref (D.1 38)), some (.int (nI s)), some (.int (nI (cnt (fun k => hld F k s) i + 1))), some (.int (nI (wos F s i + wr (F i)))), some (.int ((-1))), some (.long (lN (gby F s i))), none, some (.int (nI i)), some (.int (nI 1)), none, none], [.int (nI 1), .long (lN (gby F s i))])) rfl ?_
                    refine Z_br C it_Lw_sides rfl rfl (fun hc12 => ?_) (fun hc12 => ?_)
                    · exact absurd hc12 (by decide)
                    · skip
                      refine Z_run C it_Lw_sides 3 (f2 := (138, [some (.ref (D.1 0)), some (.ref (D.1 37)), some (.ref (D.1 38)), some (.int (nI s)), some (.int (nI (cnt (fun k => hld F k s) i + 1))), some (.int (nI (wos F s i + wr (F i)))), some (.int ((-1))), some (.long (lN (gby F s i))), none, some (.int (nI i)), some (.int (nI 1)), none, none], [.int (nI i), .ref (D.1 37), .ref (D.1 37), .long (lN (gby F s i))])) rfl ?_
                      refine Z_ald C it_Lw_sides (tg := 10) rfl (LB_p hD hLB2) (by decide) rfl (j := i) (by omega) (by decide) (v := .int (nI (stp (F i)))) (congrArg Value.int (hpq.2 i (by omega)).1) ?_
                      refine Z_run C it_Lw_sides 1 (f2 := (141, [some (.ref (D.1 0)), some (.ref (D.1 37)), some (.ref (D.1 38)), some (.int (nI s)), some (.int (nI (cnt (fun k => hld F k s) i + 1))), some (.int (nI (wos F s i + wr (F i)))), some (.int ((-1))), some (.long (lN (gby F s i))), none, some (.int (nI i)), some (.int (nI 1)), none, none], [.int (nI i), .int (nI (stp (F i))), .ref (D.1 37), .long (lN (gby F s i))])) rfl ?_
                      refine Zr_callS C it_Lw_sides rfl p_Lw_covers ml_Lw_16 [.ref (D.1 37), .int (nI (stp (F i))), .int (nI i)] (ct_Lw_covers C.ev C.l F hF _ (fun k hk => (hpq.2 k hk).1) (fun k hk => (hpq.2 k hk).2.1) (HM D V2 P PH) _ (LB_p hD hLB2) (stp (F i)) (stp_lt _) i (by omega) _) rfl rfl ⟨by decide, by decide, by show K + i * 10 + 3 + 0 ≤ 760; omega, by show N + i * 208 + 92 + 0 ≤ 15300; omega⟩ (Nat.le_of_ble_eq_true rfl) rfl ?_
                      show Z E G (HM D V2 P PH) sz (K + i * 10 + 3) (N + i * 208 + 92) (144, [some (.ref (D.1 0)), some (.ref (D.1 37)), some (.ref (D.1 38)), some (.int (nI s)), some (.int (nI (cnt (fun k => hld F k s) i + 1))), some (.int (nI (wos F s i + wr (F i)))), some (.int ((-1))), some (.long (lN (gby F s i))), none, some (.int (nI i)), some (.int (nI 1)), none, none], [.long (lN (cvo F (stp (F i)) i 5)), .long (lN (gby F s i))])
                      have e1 : lN (cvo F (stp (F i)) i 5) = lN (gfr F i) := by rw [cvo_gfr (by omega)]
                      rw [e1]
                      refine Z_run C it_Lw_sides 3 (f2 := (151, [some (.ref (D.1 0)), some (.ref (D.1 37)), some (.ref (D.1 38)), some (.int (nI s)), some (.int (nI (cnt (fun k => hld F k s) i + 1))), some (.int (nI (wos F s i + wr (F i)))), some (.int ((-1))), some (.long (lN (gby F s i) ||| lN (gfr F i))), none, some (.int (nI i)), some (.int (nI 1)), none, none], [])) rfl ?_
                      have e4 : nI (cnt (fun k => hld F k s) i + 1) = nI (cnt (fun k => hld F k s) (i + 1)) := by rw [cnt_s, hh]; rfl
                      have e5 : nI (wos F s i + wr (F i)) = nI (wos F s (i + 1)) := by rw [wos_s, hh]; rfl
                      have e6 : (-1) = oI (wkp F s (i + 1)).2 := by rw [hwk, hw]; rfl
                      have e7 : lN (gby F s i) ||| lN (gfr F i) = lN (gby F s (i + 1)) := by rw [gby_s, hh, lN_or (by have := gby_lt F s i; omega) (by first | decide | (have := gfr_lt F i; omega))]; rfl
                      rw [e4, e5, e6, e7]
                      refine Z_sub (ls2 := [some (.ref (D.1 0)), some (.ref (D.1 37)), some (.ref (D.1 38)), some (.int (nI s)), some (.int (nI (cnt (fun k => hld F k s) (i + 1)))), some (.int (nI (wos F s (i + 1)))), some (.int (oI (wkp F s (i + 1)).2)), some (.long (lN (gby F s (i + 1)))), none, some (.int (nI i)), none, none, none]) ⟨rfl, rfl, rfl, rfl, rfl, rfl, rfl, rfl, rfl, trivial⟩ ?_
                      refine Z_widen (k2 := K + i * 10 + 6) (n2 := N + i * 208 + 184) (by omega) (by omega) ?_
                      refine sd_151 hD hLB hpq hpc hs C q hV (by omega) (by omega) (by omega) ?_
                      refine Z_run C it_Lw_sides 1 (f2 := (240, [some (.ref (D.1 0)), some (.ref (D.1 37)), some (.ref (D.1 38)), some (.int (nI s)), some (.int (nI (cnt (fun k => hld F k s) (i + 1)))), some (.int (nI (wos F s (i + 1)))), some (.int (oI (wkp F s (i + 1)).2)), some (.long (lN (gby F s (i + 1)))), none, some (.int (nI i + nI 1)), none, none, none], [])) rfl ?_
                      rw [nI_add i 1]
                      refine Z_run C it_Lw_sides 1 (f2 := (22, [some (.ref (D.1 0)), some (.ref (D.1 37)), some (.ref (D.1 38)), some (.int (nI s)), some (.int (nI (cnt (fun k => hld F k s) (i + 1)))), some (.int (nI (wos F s (i + 1)))), some (.int (oI (wkp F s (i + 1)).2)), some (.long (lN (gby F s (i + 1)))), none, some (.int (nI (i + 1))), none, none, none], [])) rfl ?_
                      rw [show K + i * 10 + 6 + 4 = K + (i + 1) * 10 by omega, show N + i * 208 + 184 + 24 = N + (i + 1) * 208 by omega]
                      exact ih (i + 1) (by omega) (by omega)
                  · have hle : ¬ exM 16 F i ≤ 0 := fun z => hc11 ((nI_leI (a := exM 16 F i) (b := 0) (by omega) (by omega)).mpr z)
                    have hwk : wkp F s (i + 1) = (exN 16 F i, some i) := wkp_t hh (by rw [hw1, exN_exM (by omega) hF]; exact hle)
                    refine Z_run C it_Lw_sides 5 (f2 := (131, [some (.ref (D.1 0)), some (.ref (D.1 37)), some (.ref (D.1 38)), some (.int (nI s)), some (.int (nI (cnt (fun k => hld F k s) i + 1))), some (.int (nI (wos F s i + wr (F i)))), some (.int (nI i)), some (.long (lN (gby F s i))), none, some (.int (nI i)), some (.int (nI 1)), none, none], [.int (nI 1), .long (lN (gby F s i))])) rfl ?_
                    refine Z_br C it_Lw_sides rfl rfl (fun hc13 => ?_) (fun hc13 => ?_)
                    · exact absurd hc13 (by decide)
                    · skip
                      refine Z_run C it_Lw_sides 3 (f2 := (138, [some (.ref (D.1 0)), some (.ref (D.1 37)), some (.ref (D.1 38)), some (.int (nI s)), some (.int (nI (cnt (fun k => hld F k s) i + 1))), some (.int (nI (wos F s i + wr (F i)))), some (.int (nI i)), some (.long (lN (gby F s i))), none, some (.int (nI i)), some (.int (nI 1)), none, none], [.int (nI i), .ref (D.1 37), .ref (D.1 37), .long (lN (gby F s i))])) rfl ?_
                      refine Z_ald C it_Lw_sides (tg := 10) rfl (LB_p hD hLB2) (by decide) rfl (j := i) (by omega) (by decide) (v := .int (nI (stp (F i)))) (congrArg Value.int (hpq.2 i (by omega)).1) ?_
                      refine Z_run C it_Lw_sides 1 (f2 := (141, [some (.ref (D.1 0)), some (.ref (D.1 37)), some (.ref (D.1 38)), some (.int (nI s)), some (.int (nI (cnt (fun k => hld F k s) i + 1))), some (.int (nI (wos F s i + wr (F i)))), some (.int (nI i)), some (.long (lN (gby F s i))), none, some (.int (nI i)), some (.int (nI 1)), none, none], [.int (nI i), .int (nI (stp (F i))), .ref (D.1 37), .long (lN (gby F s i))])) rfl ?_
                      refine Zr_callS C it_Lw_sides rfl p_Lw_covers ml_Lw_16 [.ref (D.1 37), .int (nI (stp (F i))), .int (nI i)] (ct_Lw_covers C.ev C.l F hF _ (fun k hk => (hpq.2 k hk).1) (fun k hk => (hpq.2 k hk).2.1) (HM D V2 P PH) _ (LB_p hD hLB2) (stp (F i)) (stp_lt _) i (by omega) _) rfl rfl ⟨by decide, by decide, by show K + i * 10 + 3 + 0 ≤ 760; omega, by show N + i * 208 + 92 + 0 ≤ 15300; omega⟩ (Nat.le_of_ble_eq_true rfl) rfl ?_
                      show Z E G (HM D V2 P PH) sz (K + i * 10 + 3) (N + i * 208 + 92) (144, [some (.ref (D.1 0)), some (.ref (D.1 37)), some (.ref (D.1 38)), some (.int (nI s)), some (.int (nI (cnt (fun k => hld F k s) i + 1))), some (.int (nI (wos F s i + wr (F i)))), some (.int (nI i)), some (.long (lN (gby F s i))), none, some (.int (nI i)), some (.int (nI 1)), none, none], [.long (lN (cvo F (stp (F i)) i 5)), .long (lN (gby F s i))])
                      have e2 : lN (cvo F (stp (F i)) i 5) = lN (gfr F i) := by rw [cvo_gfr (by omega)]
                      rw [e2]
                      refine Z_run C it_Lw_sides 3 (f2 := (151, [some (.ref (D.1 0)), some (.ref (D.1 37)), some (.ref (D.1 38)), some (.int (nI s)), some (.int (nI (cnt (fun k => hld F k s) i + 1))), some (.int (nI (wos F s i + wr (F i)))), some (.int (nI i)), some (.long (lN (gby F s i) ||| lN (gfr F i))), none, some (.int (nI i)), some (.int (nI 1)), none, none], [])) rfl ?_
                      have e4 : nI (cnt (fun k => hld F k s) i + 1) = nI (cnt (fun k => hld F k s) (i + 1)) := by rw [cnt_s, hh]; rfl
                      have e5 : nI (wos F s i + wr (F i)) = nI (wos F s (i + 1)) := by rw [wos_s, hh]; rfl
                      have e6 : nI i = oI (wkp F s (i + 1)).2 := by rw [hwk]; rfl
                      have e7 : lN (gby F s i) ||| lN (gfr F i) = lN (gby F s (i + 1)) := by rw [gby_s, hh, lN_or (by have := gby_lt F s i; omega) (by first | decide | (have := gfr_lt F i; omega))]; rfl
                      rw [e4, e5, e7]
                      rw [show ([some (.ref (D.1 0)), some (.ref (D.1 37)), some (.ref (D.1 38)), some (.int (nI s)), some (.int (nI (cnt (fun k => hld F k s) (i + 1)))), some (.int (nI (wos F s (i + 1)))), some (.int (nI i)), some (.long (lN (gby F s (i + 1)))), none, some (.int (nI i)), some (.int (nI 1)), none, none] : zL) = [some (.ref (D.1 0)), some (.ref (D.1 37)), some (.ref (D.1 38)), some (.int (nI s)), some (.int (nI (cnt (fun k => hld F k s) (i + 1)))), some (.int (nI (wos F s (i + 1)))), some (.int (oI (wkp F s (i + 1)).2)), some (.long (lN (gby F s (i + 1)))), none, some (.int (nI i)), some (.int (nI 1)), none, none] by rw [e6]]
                      refine Z_sub (ls2 := [some (.ref (D.1 0)), some (.ref (D.1 37)), some (.ref (D.1 38)), some (.int (nI s)), some (.int (nI (cnt (fun k => hld F k s) (i + 1)))), some (.int (nI (wos F s (i + 1)))), some (.int (oI (wkp F s (i + 1)).2)), some (.long (lN (gby F s (i + 1)))), none, some (.int (nI i)), none, none, none]) ⟨rfl, rfl, rfl, rfl, rfl, rfl, rfl, rfl, rfl, trivial⟩ ?_
                      refine Z_widen (k2 := K + i * 10 + 6) (n2 := N + i * 208 + 184) (by omega) (by omega) ?_
                      refine sd_151 hD hLB hpq hpc hs C q hV (by omega) (by omega) (by omega) ?_
                      refine Z_run C it_Lw_sides 1 (f2 := (240, [some (.ref (D.1 0)), some (.ref (D.1 37)), some (.ref (D.1 38)), some (.int (nI s)), some (.int (nI (cnt (fun k => hld F k s) (i + 1)))), some (.int (nI (wos F s (i + 1)))), some (.int (oI (wkp F s (i + 1)).2)), some (.long (lN (gby F s (i + 1)))), none, some (.int (nI i + nI 1)), none, none, none], [])) rfl ?_
                      rw [nI_add i 1]
                      refine Z_run C it_Lw_sides 1 (f2 := (22, [some (.ref (D.1 0)), some (.ref (D.1 37)), some (.ref (D.1 38)), some (.int (nI s)), some (.int (nI (cnt (fun k => hld F k s) (i + 1)))), some (.int (nI (wos F s (i + 1)))), some (.int (oI (wkp F s (i + 1)).2)), some (.long (lN (gby F s (i + 1)))), none, some (.int (nI (i + 1))), none, none, none], [])) rfl ?_
                      rw [show K + i * 10 + 6 + 4 = K + (i + 1) * 10 by omega, show N + i * 208 + 184 + 24 = N + (i + 1) * 208 by omega]
                      exact ih (i + 1) (by omega) (by omega)
              | some j =>
                show Z E G (HM D V2 P PH) sz (K + i * 10 + 3) (N + i * 208 + 92) (99, [some (.ref (D.1 0)), some (.ref (D.1 37)), some (.ref (D.1 38)), some (.int (nI s)), some (.int (nI (cnt (fun k => hld F k s) i + 1))), some (.int (nI (wos F s i + wr (F i)))), some (.int (nI j)), some (.long (lN (gby F s i))), none, some (.int (nI i)), some (.int (nI 1)), none, none], [.int (nI (exM 16 F i))])
                rw [hw] at hw1
                obtain ⟨hji, hj0⟩ := hw2 j hw
                have hxj := exM_lt 16 F j
                refine Z_run C it_Lw_sides 1 (f2 := (101, [some (.ref (D.1 0)), some (.ref (D.1 37)), some (.ref (D.1 38)), some (.int (nI s)), some (.int (nI (cnt (fun k => hld F k s) i + 1))), some (.int (nI (wos F s i + wr (F i)))), some (.int (nI j)), some (.long (lN (gby F s i))), none, some (.int (nI i)), some (.int (nI 1)), none, none], [.int (nI j), .int (nI (exM 16 F i))])) rfl ?_
                refine Z_br C it_Lw_sides rfl rfl (fun hc14 => ?_) (fun hc14 => ?_)
                · skip
                  refine Z_run C it_Lw_sides 3 (f2 := (112, [some (.ref (D.1 0)), some (.ref (D.1 37)), some (.ref (D.1 38)), some (.int (nI s)), some (.int (nI (cnt (fun k => hld F k s) i + 1))), some (.int (nI (wos F s i + wr (F i)))), some (.int (nI j)), some (.long (lN (gby F s i))), none, some (.int (nI i)), some (.int (nI 1)), none, none], [.int (nI j), .ref (D.1 38), .ref (D.1 37), .int (nI (exM 16 F i))])) rfl ?_
                  refine Zr_callS C it_Lw_sides rfl p_Lw_exchange ml_Lw_58 [.ref (D.1 37), .ref (D.1 38), .int (nI j)] (ct_Lw_exchange C.ev C.l F _ _ hpq (HM D V2 P PH) _ _ (LB_p hD hLB2) (LB_q hD hLB2) j (by omega) (by assumption) hpc _) rfl rfl ⟨by decide, by decide, by show K + i * 10 + 3 + 3 ≤ 760; omega, by show N + i * 208 + 92 + 92 ≤ 15300; omega⟩ (Nat.le_of_ble_eq_true rfl) rfl ?_
                  show Z E G (HM D V2 P PH) sz (K + i * 10 + 6) (N + i * 208 + 184) (115, [some (.ref (D.1 0)), some (.ref (D.1 37)), some (.ref (D.1 38)), some (.int (nI s)), some (.int (nI (cnt (fun k => hld F k s) i + 1))), some (.int (nI (wos F s i + wr (F i)))), some (.int (nI j)), some (.long (lN (gby F s i))), none, some (.int (nI i)), some (.int (nI 1)), none, none], [.int (nI (exM 16 F j)), .int (nI (exM 16 F i))])
                  refine Z_br C it_Lw_sides rfl rfl (fun hc15 => ?_) (fun hc15 => ?_)
                  · have hle := (nI_leI (a := exM 16 F i) (b := exM 16 F j) (by omega) (by omega)).mp hc15
                    have hwk : wkp F s (i + 1) = wkp F s i := wkp_n hh (by rw [hw1, exN_exM (by omega) hF]; dsimp only; rw [exN_exM (by omega) hF]; exact hle)
                    refine Z_run C it_Lw_sides 4 (f2 := (131, [some (.ref (D.1 0)), some (.ref (D.1 37)), some (.ref (D.1 38)), some (.int (nI s)), some (.int (nI (cnt (fun k => hld F k s) i + 1))), some (.int (nI (wos F s i + wr (F i)))), some (.int (nI j)), some (.long (lN (gby F s i))), none, some (.int (nI i)), some (.int (nI 1)), none, none], [.int (nI 1), .long (lN (gby F s i))])) rfl ?_
                    refine Z_br C it_Lw_sides rfl rfl (fun hc16 => ?_) (fun hc16 => ?_)
                    · exact absurd hc16 (by decide)
                    · skip
                      refine Z_run C it_Lw_sides 3 (f2 := (138, [some (.ref (D.1 0)), some (.ref (D.1 37)), some (.ref (D.1 38)), some (.int (nI s)), some (.int (nI (cnt (fun k => hld F k s) i + 1))), some (.int (nI (wos F s i + wr (F i)))), some (.int (nI j)), some (.long (lN (gby F s i))), none, some (.int (nI i)), some (.int (nI 1)), none, none], [.int (nI i), .ref (D.1 37), .ref (D.1 37), .long (lN (gby F s i))])) rfl ?_
                      refine Z_ald C it_Lw_sides (tg := 10) rfl (LB_p hD hLB2) (by decide) rfl (j := i) (by omega) (by decide) (v := .int (nI (stp (F i)))) (congrArg Value.int (hpq.2 i (by omega)).1) ?_
                      refine Z_run C it_Lw_sides 1 (f2 := (141, [some (.ref (D.1 0)), some (.ref (D.1 37)), some (.ref (D.1 38)), some (.int (nI s)), some (.int (nI (cnt (fun k => hld F k s) i + 1))), some (.int (nI (wos F s i + wr (F i)))), some (.int (nI j)), some (.long (lN (gby F s i))), none, some (.int (nI i)), some (.int (nI 1)), none, none], [.int (nI i), .int (nI (stp (F i))), .ref (D.1 37), .long (lN (gby F s i))])) rfl ?_
                      refine Zr_callS C it_Lw_sides rfl p_Lw_covers ml_Lw_16 [.ref (D.1 37), .int (nI (stp (F i))), .int (nI i)] (ct_Lw_covers C.ev C.l F hF _ (fun k hk => (hpq.2 k hk).1) (fun k hk => (hpq.2 k hk).2.1) (HM D V2 P PH) _ (LB_p hD hLB2) (stp (F i)) (stp_lt _) i (by omega) _) rfl rfl ⟨by decide, by decide, by show K + i * 10 + 6 + 0 ≤ 760; omega, by show N + i * 208 + 184 + 0 ≤ 15300; omega⟩ (Nat.le_of_ble_eq_true rfl) rfl ?_
                      show Z E G (HM D V2 P PH) sz (K + i * 10 + 6) (N + i * 208 + 184) (144, [some (.ref (D.1 0)), some (.ref (D.1 37)), some (.ref (D.1 38)), some (.int (nI s)), some (.int (nI (cnt (fun k => hld F k s) i + 1))), some (.int (nI (wos F s i + wr (F i)))), some (.int (nI j)), some (.long (lN (gby F s i))), none, some (.int (nI i)), some (.int (nI 1)), none, none], [.long (lN (cvo F (stp (F i)) i 5)), .long (lN (gby F s i))])
                      have e3 : lN (cvo F (stp (F i)) i 5) = lN (gfr F i) := by rw [cvo_gfr (by omega)]
                      rw [e3]
                      refine Z_run C it_Lw_sides 3 (f2 := (151, [some (.ref (D.1 0)), some (.ref (D.1 37)), some (.ref (D.1 38)), some (.int (nI s)), some (.int (nI (cnt (fun k => hld F k s) i + 1))), some (.int (nI (wos F s i + wr (F i)))), some (.int (nI j)), some (.long (lN (gby F s i) ||| lN (gfr F i))), none, some (.int (nI i)), some (.int (nI 1)), none, none], [])) rfl ?_
                      have e4 : nI (cnt (fun k => hld F k s) i + 1) = nI (cnt (fun k => hld F k s) (i + 1)) := by rw [cnt_s, hh]; rfl
                      have e5 : nI (wos F s i + wr (F i)) = nI (wos F s (i + 1)) := by rw [wos_s, hh]; rfl
                      have e6 : nI j = oI (wkp F s (i + 1)).2 := by rw [hwk, hw]; rfl
                      have e7 : lN (gby F s i) ||| lN (gfr F i) = lN (gby F s (i + 1)) := by rw [gby_s, hh, lN_or (by have := gby_lt F s i; omega) (by first | decide | (have := gfr_lt F i; omega))]; rfl
                      rw [e4, e5, e6, e7]
                      refine Z_sub (ls2 := [some (.ref (D.1 0)), some (.ref (D.1 37)), some (.ref (D.1 38)), some (.int (nI s)), some (.int (nI (cnt (fun k => hld F k s) (i + 1)))), some (.int (nI (wos F s (i + 1)))), some (.int (oI (wkp F s (i + 1)).2)), some (.long (lN (gby F s (i + 1)))), none, some (.int (nI i)), none, none, none]) ⟨rfl, rfl, rfl, rfl, rfl, rfl, rfl, rfl, rfl, trivial⟩ ?_
                      refine Z_widen (k2 := K + i * 10 + 6) (n2 := N + i * 208 + 184) (by omega) (by omega) ?_
                      refine sd_151 hD hLB hpq hpc hs C q hV (by omega) (by omega) (by omega) ?_
                      refine Z_run C it_Lw_sides 1 (f2 := (240, [some (.ref (D.1 0)), some (.ref (D.1 37)), some (.ref (D.1 38)), some (.int (nI s)), some (.int (nI (cnt (fun k => hld F k s) (i + 1)))), some (.int (nI (wos F s (i + 1)))), some (.int (oI (wkp F s (i + 1)).2)), some (.long (lN (gby F s (i + 1)))), none, some (.int (nI i + nI 1)), none, none, none], [])) rfl ?_
                      rw [nI_add i 1]
                      refine Z_run C it_Lw_sides 1 (f2 := (22, [some (.ref (D.1 0)), some (.ref (D.1 37)), some (.ref (D.1 38)), some (.int (nI s)), some (.int (nI (cnt (fun k => hld F k s) (i + 1)))), some (.int (nI (wos F s (i + 1)))), some (.int (oI (wkp F s (i + 1)).2)), some (.long (lN (gby F s (i + 1)))), none, some (.int (nI (i + 1))), none, none, none], [])) rfl ?_
                      rw [show K + i * 10 + 6 + 4 = K + (i + 1) * 10 by omega, show N + i * 208 + 184 + 24 = N + (i + 1) * 208 by omega]
                      exact ih (i + 1) (by omega) (by omega)
                  · have hle : ¬ exM 16 F i ≤ exM 16 F j := fun z => hc15 ((nI_leI (a := exM 16 F i) (b := exM 16 F j) (by omega) (by omega)).mpr z)
                    have hwk : wkp F s (i + 1) = (exN 16 F i, some i) := wkp_t hh (by rw [hw1, exN_exM (by omega) hF]; dsimp only; rw [exN_exM (by omega) hF]; exact hle)
                    refine Z_run C it_Lw_sides 5 (f2 := (131, [some (.ref (D.1 0)), some (.ref (D.1 37)), some (.ref (D.1 38)), some (.int (nI s)), some (.int (nI (cnt (fun k => hld F k s) i + 1))), some (.int (nI (wos F s i + wr (F i)))), some (.int (nI i)), some (.long (lN (gby F s i))), none, some (.int (nI i)), some (.int (nI 1)), none, none], [.int (nI 1), .long (lN (gby F s i))])) rfl ?_
                    refine Z_br C it_Lw_sides rfl rfl (fun hc17 => ?_) (fun hc17 => ?_)
                    · exact absurd hc17 (by decide)
                    · skip
                      refine Z_run C it_Lw_sides 3 (f2 := (138, [some (.ref (D.1 0)), some (.ref (D.1 37)), some (.ref (D.1 38)), some (.int (nI s)), some (.int (nI (cnt (fun k => hld F k s) i + 1))), some (.int (nI (wos F s i + wr (F i)))), some (.int (nI i)), some (.long (lN (gby F s i))), none, some (.int (nI i)), some (.int (nI 1)), none, none], [.int (nI i), .ref (D.1 37), .ref (D.1 37), .long (lN (gby F s i))])) rfl ?_
                      refine Z_ald C it_Lw_sides (tg := 10) rfl (LB_p hD hLB2) (by decide) rfl (j := i) (by omega) (by decide) (v := .int (nI (stp (F i)))) (congrArg Value.int (hpq.2 i (by omega)).1) ?_
                      refine Z_run C it_Lw_sides 1 (f2 := (141, [some (.ref (D.1 0)), some (.ref (D.1 37)), some (.ref (D.1 38)), some (.int (nI s)), some (.int (nI (cnt (fun k => hld F k s) i + 1))), some (.int (nI (wos F s i + wr (F i)))), some (.int (nI i)), some (.long (lN (gby F s i))), none, some (.int (nI i)), some (.int (nI 1)), none, none], [.int (nI i), .int (nI (stp (F i))), .ref (D.1 37), .long (lN (gby F s i))])) rfl ?_
                      refine Zr_callS C it_Lw_sides rfl p_Lw_covers ml_Lw_16 [.ref (D.1 37), .int (nI (stp (F i))), .int (nI i)] (ct_Lw_covers C.ev C.l F hF _ (fun k hk => (hpq.2 k hk).1) (fun k hk => (hpq.2 k hk).2.1) (HM D V2 P PH) _ (LB_p hD hLB2) (stp (F i)) (stp_lt _) i (by omega) _) rfl rfl ⟨by decide, by decide, by show K + i * 10 + 6 + 0 ≤ 760; omega, by show N + i * 208 + 184 + 0 ≤ 15300; omega⟩ (Nat.le_of_ble_eq_true rfl) rfl ?_
                      show Z E G (HM D V2 P PH) sz (K + i * 10 + 6) (N + i * 208 + 184) (144, [some (.ref (D.1 0)), some (.ref (D.1 37)), some (.ref (D.1 38)), some (.int (nI s)), some (.int (nI (cnt (fun k => hld F k s) i + 1))), some (.int (nI (wos F s i + wr (F i)))), some (.int (nI i)), some (.long (lN (gby F s i))), none, some (.int (nI i)), some (.int (nI 1)), none, none], [.long (lN (cvo F (stp (F i)) i 5)), .long (lN (gby F s i))])
                      have e4 : lN (cvo F (stp (F i)) i 5) = lN (gfr F i) := by rw [cvo_gfr (by omega)]
                      rw [e4]
                      refine Z_run C it_Lw_sides 3 (f2 := (151, [some (.ref (D.1 0)), some (.ref (D.1 37)), some (.ref (D.1 38)), some (.int (nI s)), some (.int (nI (cnt (fun k => hld F k s) i + 1))), some (.int (nI (wos F s i + wr (F i)))), some (.int (nI i)), some (.long (lN (gby F s i) ||| lN (gfr F i))), none, some (.int (nI i)), some (.int (nI 1)), none, none], [])) rfl ?_
                      have e4 : nI (cnt (fun k => hld F k s) i + 1) = nI (cnt (fun k => hld F k s) (i + 1)) := by rw [cnt_s, hh]; rfl
                      have e5 : nI (wos F s i + wr (F i)) = nI (wos F s (i + 1)) := by rw [wos_s, hh]; rfl
                      have e6 : nI i = oI (wkp F s (i + 1)).2 := by rw [hwk]; rfl
                      have e7 : lN (gby F s i) ||| lN (gfr F i) = lN (gby F s (i + 1)) := by rw [gby_s, hh, lN_or (by have := gby_lt F s i; omega) (by first | decide | (have := gfr_lt F i; omega))]; rfl
                      rw [e4, e5, e7]
                      rw [show ([some (.ref (D.1 0)), some (.ref (D.1 37)), some (.ref (D.1 38)), some (.int (nI s)), some (.int (nI (cnt (fun k => hld F k s) (i + 1)))), some (.int (nI (wos F s (i + 1)))), some (.int (nI i)), some (.long (lN (gby F s (i + 1)))), none, some (.int (nI i)), some (.int (nI 1)), none, none] : zL) = [some (.ref (D.1 0)), some (.ref (D.1 37)), some (.ref (D.1 38)), some (.int (nI s)), some (.int (nI (cnt (fun k => hld F k s) (i + 1)))), some (.int (nI (wos F s (i + 1)))), some (.int (oI (wkp F s (i + 1)).2)), some (.long (lN (gby F s (i + 1)))), none, some (.int (nI i)), some (.int (nI 1)), none, none] by rw [e6]]
                      refine Z_sub (ls2 := [some (.ref (D.1 0)), some (.ref (D.1 37)), some (.ref (D.1 38)), some (.int (nI s)), some (.int (nI (cnt (fun k => hld F k s) (i + 1)))), some (.int (nI (wos F s (i + 1)))), some (.int (oI (wkp F s (i + 1)).2)), some (.long (lN (gby F s (i + 1)))), none, some (.int (nI i)), none, none, none]) ⟨rfl, rfl, rfl, rfl, rfl, rfl, rfl, rfl, rfl, trivial⟩ ?_
                      refine Z_widen (k2 := K + i * 10 + 6) (n2 := N + i * 208 + 184) (by omega) (by omega) ?_
                      refine sd_151 hD hLB hpq hpc hs C q hV (by omega) (by omega) (by omega) ?_
                      refine Z_run C it_Lw_sides 1 (f2 := (240, [some (.ref (D.1 0)), some (.ref (D.1 37)), some (.ref (D.1 38)), some (.int (nI s)), some (.int (nI (cnt (fun k => hld F k s) (i + 1)))), some (.int (nI (wos F s (i + 1)))), some (.int (oI (wkp F s (i + 1)).2)), some (.long (lN (gby F s (i + 1)))), none, some (.int (nI i + nI 1)), none, none, none], [])) rfl ?_
                      rw [nI_add i 1]
                      refine Z_run C it_Lw_sides 1 (f2 := (22, [some (.ref (D.1 0)), some (.ref (D.1 37)), some (.ref (D.1 38)), some (.int (nI s)), some (.int (nI (cnt (fun k => hld F k s) (i + 1)))), some (.int (nI (wos F s (i + 1)))), some (.int (oI (wkp F s (i + 1)).2)), some (.long (lN (gby F s (i + 1)))), none, some (.int (nI (i + 1))), none, none, none], [])) rfl ?_
                      rw [show K + i * 10 + 6 + 4 = K + (i + 1) * 10 by omega, show N + i * 208 + 184 + 24 = N + (i + 1) * 208 by omega]
                      exact ih (i + 1) (by omega) (by omega)
                · exact absurd (Int32.not_lt.mp (nI_nn (by omega))) hc14
set_option maxRecDepth 20000 in
theorem sd_258 {E : zE} {G : zG} {D : zD} (hD : zDok E D) {V : Nat → Nat → Int32} {P : Nat → Nat → Value} {PH : aH} {F : Nat → Nat} {pr qr : Nat → Int32} (hLB : LB V F pr qr) (hpq : okpq F pr qr) (hpc : pcs_ F ≤ 16) {sz : Nat} {s : Nat} (hs : s < 2) (C : zCx E G c_Lw_sides 13 y_Lw_sides.cls y_Lw_sides.name (some .boolean) rm_Lw_sides) (q : zEndX E G (zEo D V P PH sz (nI 1)) rm_Lw_sides.cells rm_Lw_sides.slots) {V2 : Nat → Nat → Int32} (hV : ∀ c, c ≠ 36 → V2 c = V c) {k n : Nat} (hk : k ≤ 760) (hn : n ≤ 15300) {xa xb xc : Int32} {xg : Int64} {c : Nat} (hc : c < 5) (kk : Z E G (HM D V2 P PH) sz k n (302, [some (.ref (D.1 0)), some (.ref (D.1 37)), some (.ref (D.1 38)), some (.int (nI s)), some (.int xa), some (.int xb), some (.int xc), some (.long xg), none, some (.int (nI c)), some (.int (nI (cnt (fun k => hld F k s && kn (stp (F k)) c) 36))), some (.int (nI 36)), none], [])) : ∀ (y m : Nat), 36 - m < y → m ≤ 36 → Z E G (HM D V2 P PH) sz k n (258, [some (.ref (D.1 0)), some (.ref (D.1 37)), some (.ref (D.1 38)), some (.int (nI s)), some (.int xa), some (.int xb), some (.int xc), some (.long xg), none, some (.int (nI c)), some (.int (nI (cnt (fun k => hld F k s && kn (stp (F k)) c) m))), some (.int (nI m)), none], []) := by
  intro y
  induction y with
  | zero =>
    intro m h1 h2
    omega
  | succ y ih =>
    intro m h1 h2
    have hF := hpq.1
    have hLB2 := LB_fr hLB hV
    have hst := stp_lt (F m)
    have h2c := tw2_lt hc
    have hdv : stp (F m) / 2 ^ c ≤ stp (F m) := Nat.div_le_self _ _
    refine Z_run C it_Lw_sides 2 (f2 := (262, [some (.ref (D.1 0)), some (.ref (D.1 37)), some (.ref (D.1 38)), some (.int (nI s)), some (.int xa), some (.int xb), some (.int xc), some (.long xg), none, some (.int (nI c)), some (.int (nI (cnt (fun k => hld F k s && kn (stp (F k)) c) m))), some (.int (nI m)), none], [.int (nI 36), .int (nI m)])) rfl ?_
    refine Z_br C it_Lw_sides rfl rfl (fun hc1 => ?_) (fun hc1 => ?_)
    · exact (show m = 36 by have := (nI_leI (a := 36) (b := m) (by omega) (by omega)).mp hc1; omega) ▸ kk
    · have hm36 : m < 36 := by have z : ¬ 36 ≤ m := fun z9 => hc1 ((nI_leI (a := 36) (b := m) (by omega) (by omega)).mpr z9); omega
      refine Z_run C it_Lw_sides 4 (f2 := (271, [some (.ref (D.1 0)), some (.ref (D.1 37)), some (.ref (D.1 38)), some (.int (nI s)), some (.int xa), some (.int xb), some (.int xc), some (.long xg), none, some (.int (nI c)), some (.int (nI (cnt (fun k => hld F k s && kn (stp (F k)) c) m))), some (.int (nI m)), none], [.int (nI m), .ref (D.1 38), .ref (D.1 37), .int (nI (cnt (fun k => hld F k s && kn (stp (F k)) c) m))])) rfl ?_
      refine Zr_callS C it_Lw_sides rfl p_Lw_side ml_Lw_20 [.ref (D.1 37), .ref (D.1 38), .int (nI m)] (ct_Lw_side C.ev C.l F _ _ hpq (HM D V2 P PH) _ _ (LB_p hD hLB2) (LB_q hD hLB2) m (by omega) _) rfl rfl ⟨by decide, by decide, by show k + 0 + 0 ≤ 760; omega, by show n + 0 + 0 ≤ 15300; omega⟩ (Nat.le_of_ble_eq_true rfl) rfl ?_
      show Z E G (HM D V2 P PH) sz k n (274, [some (.ref (D.1 0)), some (.ref (D.1 37)), some (.ref (D.1 38)), some (.int (nI s)), some (.int xa), some (.int xb), some (.int xc), some (.long xg), none, some (.int (nI c)), some (.int (nI (cnt (fun k => hld F k s && kn (stp (F k)) c) m))), some (.int (nI m)), none], [.int (sdI F m), .int (nI (cnt (fun k => hld F k s && kn (stp (F k)) c) m))])
      refine Z_run C it_Lw_sides 1 (f2 := (275, [some (.ref (D.1 0)), some (.ref (D.1 37)), some (.ref (D.1 38)), some (.int (nI s)), some (.int xa), some (.int xb), some (.int xc), some (.long xg), none, some (.int (nI c)), some (.int (nI (cnt (fun k => hld F k s && kn (stp (F k)) c) m))), some (.int (nI m)), none], [.int (nI s), .int (sdI F m), .int (nI (cnt (fun k => hld F k s && kn (stp (F k)) c) m))])) rfl ?_
      refine Z_br C it_Lw_sides rfl rfl (fun hc2 => ?_) (fun hc2 => ?_)
      · have hh : hld F m s = false := (sdI_n (by omega)).mp hc2
        refine Z_run C it_Lw_sides 2 (f2 := (294, [some (.ref (D.1 0)), some (.ref (D.1 37)), some (.ref (D.1 38)), some (.int (nI s)), some (.int xa), some (.int xb), some (.int xc), some (.long xg), none, some (.int (nI c)), some (.int (nI (cnt (fun k => hld F k s && kn (stp (F k)) c) m))), some (.int (nI m)), none], [.int (nI (cnt (fun k => hld F k s && kn (stp (F k)) c) m) + nI 0)])) rfl ?_
        rw [nI_add (cnt (fun k => hld F k s && kn (stp (F k)) c) m) 0]
        refine Z_run C it_Lw_sides 2 (f2 := (299, [some (.ref (D.1 0)), some (.ref (D.1 37)), some (.ref (D.1 38)), some (.int (nI s)), some (.int xa), some (.int xb), some (.int xc), some (.long xg), none, some (.int (nI c)), some (.int (nI (cnt (fun k => hld F k s && kn (stp (F k)) c) m + 0))), some (.int (nI m + nI 1)), none], [])) rfl ?_
        rw [nI_add m 1]
        refine Z_run C it_Lw_sides 1 (f2 := (258, [some (.ref (D.1 0)), some (.ref (D.1 37)), some (.ref (D.1 38)), some (.int (nI s)), some (.int xa), some (.int xb), some (.int xc), some (.long xg), none, some (.int (nI c)), some (.int (nI (cnt (fun k => hld F k s && kn (stp (F k)) c) m + 0))), some (.int (nI (m + 1))), none], [])) rfl ?_
        have e9 : nI (cnt (fun k => hld F k s && kn (stp (F k)) c) m + 0) = nI (cnt (fun k => hld F k s && kn (stp (F k)) c) (m + 1)) := by rw [cnt_s, hh]; rfl
        rw [e9]
        exact ih (m + 1) (by omega) (by omega)
      · have hh : hld F m s = true := (sdI_s (by omega)).mp (Classical.not_not.mp hc2)
        have hne : F m ≠ 0 := (hld_sd hh).1
        refine Z_run C it_Lw_sides 2 (f2 := (281, [some (.ref (D.1 0)), some (.ref (D.1 37)), some (.ref (D.1 38)), some (.int (nI s)), some (.int xa), some (.int xb), some (.int xc), some (.long xg), none, some (.int (nI c)), some (.int (nI (cnt (fun k => hld F k s && kn (stp (F k)) c) m))), some (.int (nI m)), none], [.int (nI m), .ref (D.1 37), .int (nI (cnt (fun k => hld F k s && kn (stp (F k)) c) m))])) rfl ?_
        refine Z_ald C it_Lw_sides (tg := 10) rfl (LB_p hD hLB2) (by decide) rfl (j := m) (by omega) (by decide) (v := .int (nI (stp (F m)))) (congrArg Value.int (hpq.2 m (by omega)).1) ?_
        refine Z_run C it_Lw_sides 3 (f2 := (286, [some (.ref (D.1 0)), some (.ref (D.1 37)), some (.ref (D.1 38)), some (.int (nI s)), some (.int xa), some (.int xb), some (.int xc), some (.long xg), none, some (.int (nI c)), some (.int (nI (cnt (fun k => hld F k s && kn (stp (F k)) c) m))), some (.int (nI m)), none], [.int (nI 1 <<< (nI c &&& 31)), .int (nI (stp (F m))), .int (nI (cnt (fun k => hld F k s && kn (stp (F k)) c) m))])) rfl ?_
        have e1 : nI 1 <<< (nI c &&& 31) = nI (2 ^ c) := shl1 c hc
        rw [e1]
        refine Z_idiv C it_Lw_sides rfl (fun z9 => absurd ((nI_e0 (by omega)).mp z9) (by omega)) ?_
        rw [nI_div (a := stp (F m)) (d := 2 ^ c) (by omega) (by omega) (by omega)]
        refine Z_run C it_Lw_sides 2 (f2 := (289, [some (.ref (D.1 0)), some (.ref (D.1 37)), some (.ref (D.1 38)), some (.int (nI s)), some (.int xa), some (.int xb), some (.int xc), some (.long xg), none, some (.int (nI c)), some (.int (nI (cnt (fun k => hld F k s && kn (stp (F k)) c) m))), some (.int (nI m)), none], [.int (nI ((stp (F m)) / (2 ^ c)) % nI 2), .int (nI (cnt (fun k => hld F k s && kn (stp (F k)) c) m))])) rfl ?_
        rw [nI_mod (a := (stp (F m)) / (2 ^ c)) (d := 2) (by omega) (by omega) (by omega)]
        refine Z_run C it_Lw_sides 2 (f2 := (294, [some (.ref (D.1 0)), some (.ref (D.1 37)), some (.ref (D.1 38)), some (.int (nI s)), some (.int xa), some (.int xb), some (.int xc), some (.long xg), none, some (.int (nI c)), some (.int (nI (cnt (fun k => hld F k s && kn (stp (F k)) c) m))), some (.int (nI m)), none], [.int (nI (cnt (fun k => hld F k s && kn (stp (F k)) c) m) + nI (((stp (F m)) / (2 ^ c)) % 2))])) rfl ?_
        rw [nI_add (cnt (fun k => hld F k s && kn (stp (F k)) c) m) (((stp (F m)) / (2 ^ c)) % 2)]
        refine Z_run C it_Lw_sides 2 (f2 := (299, [some (.ref (D.1 0)), some (.ref (D.1 37)), some (.ref (D.1 38)), some (.int (nI s)), some (.int xa), some (.int xb), some (.int xc), some (.long xg), none, some (.int (nI c)), some (.int (nI (cnt (fun k => hld F k s && kn (stp (F k)) c) m + ((stp (F m)) / (2 ^ c)) % 2))), some (.int (nI m + nI 1)), none], [])) rfl ?_
        rw [nI_add m 1]
        refine Z_run C it_Lw_sides 1 (f2 := (258, [some (.ref (D.1 0)), some (.ref (D.1 37)), some (.ref (D.1 38)), some (.int (nI s)), some (.int xa), some (.int xb), some (.int xc), some (.long xg), none, some (.int (nI c)), some (.int (nI (cnt (fun k => hld F k s && kn (stp (F k)) c) m + ((stp (F m)) / (2 ^ c)) % 2))), some (.int (nI (m + 1))), none], [])) rfl ?_
        have e9 : nI (cnt (fun k => hld F k s && kn (stp (F k)) c) m + ((stp (F m)) / (2 ^ c)) % 2) = nI (cnt (fun k => hld F k s && kn (stp (F k)) c) (m + 1)) := by rw [cnt_s, hh]; unfold kn; rcases (show stp (F m) / 2 ^ c % 2 = 0 ∨ stp (F m) / 2 ^ c % 2 = 1 by omega) with g | g <;> (rw [g]; rfl)
        rw [e9]
        exact ih (m + 1) (by omega) (by omega)
set_option maxRecDepth 20000 in
theorem sd_246 {E : zE} {G : zG} {D : zD} (hD : zDok E D) {V : Nat → Nat → Int32} {P : Nat → Nat → Value} {PH : aH} {F : Nat → Nat} {pr qr : Nat → Int32} (hLB : LB V F pr qr) (hpq : okpq F pr qr) (hpc : pcs_ F ≤ 16) {sz : Nat} {s : Nat} (hs : s < 2) (C : zCx E G c_Lw_sides 13 y_Lw_sides.cls y_Lw_sides.name (some .boolean) rm_Lw_sides) (q : zEndX E G (zEo D V P PH sz (nI 1)) rm_Lw_sides.cells rm_Lw_sides.slots) {V2 : Nat → Nat → Int32} (hV : ∀ c, c ≠ 36 → V2 c = V c) {k n : Nat} {K N : Nat} (hK : K + 10 ≤ 760) (hN : N + 60 ≤ 15300) {xa xb xc : Int32} {xg : Int64} (kk : Z E G (HM D V2 P PH) sz (K + 5 * 2) (N + 5 * 12) (322, [some (.ref (D.1 0)), some (.ref (D.1 37)), some (.ref (D.1 38)), some (.int (nI s)), some (.int xa), some (.int xb), some (.int xc), some (.long xg), none, some (.int (nI 5)), none, none, none], [])) : ∀ (y c : Nat), 5 - c < y → c ≤ 5 → Z E G (HM D V2 P PH) sz (K + c * 2) (N + c * 12) (246, [some (.ref (D.1 0)), some (.ref (D.1 37)), some (.ref (D.1 38)), some (.int (nI s)), some (.int xa), some (.int xb), some (.int xc), some (.long xg), none, some (.int (nI c)), none, none, none], []) := by
  intro y
  induction y with
  | zero =>
    intro c h1 h2
    omega
  | succ y ih =>
    intro c h1 h2
    have hF := hpq.1
    have hLB2 := LB_fr hLB hV
    refine Z_run C it_Lw_sides 2 (f2 := (249, [some (.ref (D.1 0)), some (.ref (D.1 37)), some (.ref (D.1 38)), some (.int (nI s)), some (.int xa), some (.int xb), some (.int xc), some (.long xg), none, some (.int (nI c)), none, none, none], [.int (nI 5), .int (nI c)])) rfl ?_
    refine Z_br C it_Lw_sides rfl rfl (fun hc1 => ?_) (fun hc1 => ?_)
    · exact (show c = 5 by have := (nI_leI (a := 5) (b := c) (by omega) (by omega)).mp hc1; omega) ▸ kk
    · have hc5 : c < 5 := by have z : ¬ 5 ≤ c := fun z9 => hc1 ((nI_leI (a := 5) (b := c) (by omega) (by omega)).mpr z9); omega
      refine Z_run C it_Lw_sides 4 (f2 := (258, [some (.ref (D.1 0)), some (.ref (D.1 37)), some (.ref (D.1 38)), some (.int (nI s)), some (.int xa), some (.int xb), some (.int xc), some (.long xg), none, some (.int (nI c)), some (.int (nI 0)), some (.int (nI 0)), none], [])) rfl ?_
      have e0 : nI 0 = nI (cnt (fun k => hld F k s && kn (stp (F k)) c) 0) := rfl
      refine Z_sub (ls2 := [some (.ref (D.1 0)), some (.ref (D.1 37)), some (.ref (D.1 38)), some (.int (nI s)), some (.int xa), some (.int xb), some (.int xc), some (.long xg), none, some (.int (nI c)), some (.int (nI 0)), some (.int (nI 0)), none]) ⟨rfl, rfl, rfl, rfl, rfl, rfl, rfl, rfl, rfl, rfl, rfl, trivial⟩ ?_
      refine sd_258 hD hLB hpq hpc hs C q hV (by omega) (by omega) hc5 ?_ 37 0 (by omega) (by omega)
      refine Z_run C it_Lw_sides 3 (f2 := (306, [some (.ref (D.1 0)), some (.ref (D.1 37)), some (.ref (D.1 38)), some (.int (nI s)), some (.int xa), some (.int xb), some (.int xc), some (.long xg), none, some (.int (nI c)), some (.int (nI (cnt (fun k => hld F k s && kn (stp (F k)) c) 36))), some (.int (nI 36)), none], [.int (nI c), .int (nI s), .ref (D.1 0)])) rfl ?_
      refine Zr_callV C it_Lw_sides hD rfl p_Xx_knowing ml_Lw_66 0 (by decide) rfl rfl [.int (nI s), .int (nI c)] (cx_Xx_knowing C.ev C.l hD _ _ _ F hLB2.1 hF s (by omega) c (by omega) _) rfl rfl ⟨by decide, by decide, by show K + c * 2 + 0 + 2 ≤ 760; omega, by show N + c * 12 + 0 + 12 ≤ 15300; omega⟩ (Nat.le_of_ble_eq_true rfl) rfl ?_
      show Z E G (HM D V2 P PH) sz (K + c * 2 + 2) (N + c * 12 + 12) (309, [some (.ref (D.1 0)), some (.ref (D.1 37)), some (.ref (D.1 38)), some (.int (nI s)), some (.int xa), some (.int xb), some (.int xc), some (.long xg), none, some (.int (nI c)), some (.int (nI (cnt (fun k => hld F k s && kn (stp (F k)) c) 36))), some (.int (nI 36)), none], [.int (nI (popc (knw F s c)))])
      refine Z_run C it_Lw_sides 1 (f2 := (311, [some (.ref (D.1 0)), some (.ref (D.1 37)), some (.ref (D.1 38)), some (.int (nI s)), some (.int xa), some (.int xb), some (.int xc), some (.long xg), none, some (.int (nI c)), some (.int (nI (cnt (fun k => hld F k s && kn (stp (F k)) c) 36))), some (.int (nI 36)), none], [.int (nI (cnt (fun k => hld F k s && kn (stp (F k)) c) 36)), .int (nI (popc (knw F s c)))])) rfl ?_
      refine Z_br C it_Lw_sides rfl rfl (fun hc2 => ?_) (fun hc2 => ?_)
      · skip
        refine Z_run C it_Lw_sides 1 (f2 := (319, [some (.ref (D.1 0)), some (.ref (D.1 37)), some (.ref (D.1 38)), some (.int (nI s)), some (.int xa), some (.int xb), some (.int xc), some (.long xg), none, some (.int (nI c + nI 1)), some (.int (nI (cnt (fun k => hld F k s && kn (stp (F k)) c) 36))), some (.int (nI 36)), none], [])) rfl ?_
        rw [nI_add c 1]
        refine Z_run C it_Lw_sides 1 (f2 := (246, [some (.ref (D.1 0)), some (.ref (D.1 37)), some (.ref (D.1 38)), some (.int (nI s)), some (.int xa), some (.int xb), some (.int xc), some (.long xg), none, some (.int (nI (c + 1))), some (.int (nI (cnt (fun k => hld F k s && kn (stp (F k)) c) 36))), some (.int (nI 36)), none], [])) rfl ?_
        refine Z_sub (ls2 := [some (.ref (D.1 0)), some (.ref (D.1 37)), some (.ref (D.1 38)), some (.int (nI s)), some (.int xa), some (.int xb), some (.int xc), some (.long xg), none, some (.int (nI (c + 1))), none, none, none]) ⟨rfl, rfl, rfl, rfl, rfl, rfl, rfl, rfl, rfl, trivial⟩ ?_
        rw [show K + c * 2 + 2 = K + (c + 1) * 2 by omega, show N + c * 12 + 12 = N + (c + 1) * 12 by omega]
        exact ih (c + 1) (by omega) (by omega)
      · exact absurd (congrArg nI (knw_cnt hF s hc5)) hc2
theorem Zr_eoS {E : zE} {G : zG} {cc : ByteArray} {nL : Nat} {own nm : String} {ret : Option FieldType} {R : Room} {sz k n : Nat} {t : List zI} {pc : Nat} {ls : zL} {st rest : List Value} {D : zD} {V : Nat → Nat → Int32} {P : Nat → Nat → Value} {PH : aH} (C : zCx E G cc nL own nm ret R) (ht : zT cc t) {idx : Nat} {r : Nat × Int32 × Nat} (hl : t.lookup pc = some (.invokestatic idx, r)) {y : MethodName} {c9 : ByteArray} {n9 a : Nat} {r9 : Option FieldType} {rm : Room} {hh : List (Nat × Nat × Nat × Nat)} (hp : zPsX y c9 n9 r9 hh a) (hlk : Cond.methodLink own idx y ∈ zWs) (As : List Value) {x : Int32} (hM : zM E (zGl G) y [.codeWith y c9 n9 r9 hh] rm As (HM D V P PH) sz (zEo D V P PH sz x)) (hst : st = As.reverse ++ rest) (ha : As.length = a) (hR : zRm rm R n9 k n) (hcat : (rest.map fun v => v.category).sum ≤ 8) (hls : ls.length = nL)
    (kk : ∀ V2 : Nat → Nat → Int32, (∀ c, c ≠ 36 → V2 c = V c) → Z E G (HM D V2 P PH) sz (k + rm.cells) (n + rm.slots) (pc + 3, ls, .int x :: rest)) : Z E G (HM D V P PH) sz k n (pc, ls, st) :=
  Z_callSX C ht hl hp hlk As hM hst ha hR hcat hls (fun v h3 sz3 hO => by
    obtain ⟨e1, rfl, V2, rfl, hV⟩ := hO
    cases e1
    exact kk V2 hV) (fun X h3 sz3 hO => by cases hO.1)
set_option maxRecDepth 20000 in
theorem sd_322 {E : zE} {G : zG} {D : zD} (hD : zDok E D) {V : Nat → Nat → Int32} {P : Nat → Nat → Value} {PH : aH} {F : Nat → Nat} {pr qr : Nat → Int32} (hLB : LB V F pr qr) (hpq : okpq F pr qr) (hpc : pcs_ F ≤ 16) {sz : Nat} {s : Nat} (hs : s < 2) (C : zCx E G c_Lw_sides 13 y_Lw_sides.cls y_Lw_sides.name (some .boolean) rm_Lw_sides) (q : zEndX E G (zEo D V P PH sz (nI 1)) rm_Lw_sides.cells rm_Lw_sides.slots) {V2 : Nat → Nat → Int32} (hV : ∀ c, c ≠ 36 → V2 c = V c) {k n : Nat} (hk : k + 7 ≤ 760) (hn : n + 42 ≤ 15300) (hacc : ∀ s, s < 2 → V 4 s = nI (wos F s 36)) (kk : ∀ V3 : Nat → Nat → Int32, (∀ c, c ≠ 36 → V3 c = V2 c) → Z E G (HM D V3 P PH) sz (k + 7) (n + 42) (2, [some (.ref (D.1 0)), some (.ref (D.1 37)), some (.ref (D.1 38)), some (.int (nI (s + 1))), none, none, none, none, none, none, none, none, none], [])) : Z E G (HM D V2 P PH) sz k n (322, [some (.ref (D.1 0)), some (.ref (D.1 37)), some (.ref (D.1 38)), some (.int (nI s)), some (.int (nI (cnt (fun k => hld F k s) 36))), some (.int (nI (wos F s 36))), some (.int (oI (wkp F s 36).2)), some (.long (lN (gby F s 36))), none, some (.int (nI 5)), none, none, none], []) := by
  have hF := hpq.1
  have hLB2 := LB_fr hLB hV
  refine Z_run C it_Lw_sides 2 (f2 := (324, [some (.ref (D.1 0)), some (.ref (D.1 37)), some (.ref (D.1 38)), some (.int (nI s)), some (.int (nI (cnt (fun k => hld F k s) 36))), some (.int (nI (wos F s 36))), some (.int (oI (wkp F s 36).2)), some (.long (lN (gby F s 36))), none, some (.int (nI 5)), none, none, none], [.int (nI s), .ref (D.1 0)])) rfl ?_
  refine Zr_callV C it_Lw_sides hD rfl p_Xx_pieces ml_Lw_69 0 (by decide) rfl rfl [.int (nI s)] (cx_Xx_pieces C.ev C.l hD _ _ _ F hLB2.1 hF s (by omega) _) rfl rfl ⟨by decide, by decide, by show k + 0 + 1 ≤ 760; omega, by show n + 0 + 6 ≤ 15300; omega⟩ (Nat.le_of_ble_eq_true rfl) rfl ?_
  show Z E G (HM D V2 P PH) sz (k + 1) (n + 6) (327, [some (.ref (D.1 0)), some (.ref (D.1 37)), some (.ref (D.1 38)), some (.int (nI s)), some (.int (nI (cnt (fun k => hld F k s) 36))), some (.int (nI (wos F s 36))), some (.int (oI (wkp F s 36).2)), some (.long (lN (gby F s 36))), none, some (.int (nI 5)), none, none, none], [.int (nI (popc (sqs F s)))])
  refine Z_run C it_Lw_sides 1 (f2 := (329, [some (.ref (D.1 0)), some (.ref (D.1 37)), some (.ref (D.1 38)), some (.int (nI s)), some (.int (nI (cnt (fun k => hld F k s) 36))), some (.int (nI (wos F s 36))), some (.int (oI (wkp F s 36).2)), some (.long (lN (gby F s 36))), none, some (.int (nI 5)), none, none, none], [.int (nI (cnt (fun k => hld F k s) 36)), .int (nI (popc (sqs F s)))])) rfl ?_
  refine Z_br C it_Lw_sides rfl rfl (fun hc1 => ?_) (fun hc1 => ?_)
  · exact absurd (congrArg nI (popc_sqs F s)) hc1
  · skip
    refine Z_run C it_Lw_sides 2 (f2 := (334, [some (.ref (D.1 0)), some (.ref (D.1 37)), some (.ref (D.1 38)), some (.int (nI s)), some (.int (nI (cnt (fun k => hld F k s) 36))), some (.int (nI (wos F s 36))), some (.int (oI (wkp F s 36).2)), some (.long (lN (gby F s 36))), none, some (.int (nI 5)), none, none, none], [.int (nI s), .ref (D.1 0)])) rfl ?_
    refine Zr_callV C it_Lw_sides hD rfl p_Xx_worth ml_Lw_72 0 (by decide) rfl rfl [.int (nI s)] (cx_Xx_worth C.ev C.l hD _ _ _ F hLB2.1 hF s (by omega) _) rfl rfl ⟨by decide, by decide, by show k + 1 + 1 ≤ 760; omega, by show n + 6 + 6 ≤ 15300; omega⟩ (Nat.le_of_ble_eq_true rfl) rfl ?_
    show Z E G (HM D V2 P PH) sz (k + 2) (n + 12) (337, [some (.ref (D.1 0)), some (.ref (D.1 37)), some (.ref (D.1 38)), some (.int (nI s)), some (.int (nI (cnt (fun k => hld F k s) 36))), some (.int (nI (wos F s 36))), some (.int (oI (wkp F s 36).2)), some (.long (lN (gby F s 36))), none, some (.int (nI 5)), none, none, none], [.int (nI (wos F s 36))])
    refine Z_run C it_Lw_sides 1 (f2 := (339, [some (.ref (D.1 0)), some (.ref (D.1 37)), some (.ref (D.1 38)), some (.int (nI s)), some (.int (nI (cnt (fun k => hld F k s) 36))), some (.int (nI (wos F s 36))), some (.int (oI (wkp F s 36).2)), some (.long (lN (gby F s 36))), none, some (.int (nI 5)), none, none, none], [.int (nI (wos F s 36)), .int (nI (wos F s 36))])) rfl ?_
    refine Z_br C it_Lw_sides rfl rfl (fun hc2 => ?_) (fun hc2 => ?_)
    · exact absurd (rfl) hc2
    · skip
      refine Z_run C it_Lw_sides 2 (f2 := (344, [some (.ref (D.1 0)), some (.ref (D.1 37)), some (.ref (D.1 38)), some (.int (nI s)), some (.int (nI (cnt (fun k => hld F k s) 36))), some (.int (nI (wos F s 36))), some (.int (oI (wkp F s 36).2)), some (.long (lN (gby F s 36))), none, some (.int (nI 5)), none, none, none], [.int (nI s), .ref (D.1 0)])) rfl ?_
      refine Zr_callV C it_Lw_sides hD rfl p_Xx_worthByAccount ml_Lw_74 0 (by decide) rfl rfl [.int (nI s)] (ct_Xx_wbaN C.ev C.l hD _ _ _ s hs (wos F s 36) (by rw [hV 4 (by decide)]; exact hacc s hs) _) rfl rfl ⟨by decide, by decide, by show k + 2 + 1 ≤ 760; omega, by show n + 12 + 6 ≤ 15300; omega⟩ (Nat.le_of_ble_eq_true rfl) rfl ?_
      show Z E G (HM D V2 P PH) sz (k + 3) (n + 18) (347, [some (.ref (D.1 0)), some (.ref (D.1 37)), some (.ref (D.1 38)), some (.int (nI s)), some (.int (nI (cnt (fun k => hld F k s) 36))), some (.int (nI (wos F s 36))), some (.int (oI (wkp F s 36).2)), some (.long (lN (gby F s 36))), none, some (.int (nI 5)), none, none, none], [.int (nI (wos F s 36))])
      refine Z_run C it_Lw_sides 1 (f2 := (349, [some (.ref (D.1 0)), some (.ref (D.1 37)), some (.ref (D.1 38)), some (.int (nI s)), some (.int (nI (cnt (fun k => hld F k s) 36))), some (.int (nI (wos F s 36))), some (.int (oI (wkp F s 36).2)), some (.long (lN (gby F s 36))), none, some (.int (nI 5)), none, none, none], [.int (nI (wos F s 36)), .int (nI (wos F s 36))])) rfl ?_
      refine Z_br C it_Lw_sides rfl rfl (fun hc3 => ?_) (fun hc3 => ?_)
      · exact absurd (rfl) hc3
      · skip
        refine Z_run C it_Lw_sides 2 (f2 := (354, [some (.ref (D.1 0)), some (.ref (D.1 37)), some (.ref (D.1 38)), some (.int (nI s)), some (.int (nI (cnt (fun k => hld F k s) 36))), some (.int (nI (wos F s 36))), some (.int (oI (wkp F s 36).2)), some (.long (lN (gby F s 36))), none, some (.int (nI 5)), none, none, none], [.int (nI s), .ref (D.1 0)])) rfl ?_
        refine Zr_callV C it_Lw_sides hD rfl p_Xx_guarded ml_Lw_77 0 (by decide) rfl rfl [.int (nI s)] (cx_Xx_guarded C.ev C.l hD _ _ _ F hLB2.1 hF s (by omega) _) rfl rfl ⟨by decide, by decide, by show k + 3 + 1 ≤ 760; omega, by show n + 18 + 6 ≤ 15300; omega⟩ (Nat.le_of_ble_eq_true rfl) rfl ?_
        show Z E G (HM D V2 P PH) sz (k + 4) (n + 24) (357, [some (.ref (D.1 0)), some (.ref (D.1 37)), some (.ref (D.1 38)), some (.int (nI s)), some (.int (nI (cnt (fun k => hld F k s) 36))), some (.int (nI (wos F s 36))), some (.int (oI (wkp F s 36).2)), some (.long (lN (gby F s 36))), none, some (.int (nI 5)), none, none, none], [.long (lN (gby F s 36))])
        refine Z_run C it_Lw_sides 2 (f2 := (360, [some (.ref (D.1 0)), some (.ref (D.1 37)), some (.ref (D.1 38)), some (.int (nI s)), some (.int (nI (cnt (fun k => hld F k s) 36))), some (.int (nI (wos F s 36))), some (.int (oI (wkp F s 36).2)), some (.long (lN (gby F s 36))), none, some (.int (nI 5)), none, none, none], [.int (lg_cmp (lN (gby F s 36)) (lN (gby F s 36)))])) rfl ?_
        refine Z_br C it_Lw_sides rfl rfl (fun hc4 => ?_) (fun hc4 => ?_)
        · exact absurd (lgc_s _) hc4
        · skip
          refine Z_run C it_Lw_sides 2 (f2 := (365, [some (.ref (D.1 0)), some (.ref (D.1 37)), some (.ref (D.1 38)), some (.int (nI s)), some (.int (nI (cnt (fun k => hld F k s) 36))), some (.int (nI (wos F s 36))), some (.int (oI (wkp F s 36).2)), some (.long (lN (gby F s 36))), none, some (.int (nI 5)), none, none, none], [.int (nI s), .ref (D.1 0)])) rfl ?_
          refine Zr_eoS C it_Lw_sides rfl p_Lw_weakest ml_Lw_80 [.ref (D.1 0), .int (nI s)] (ct_Lw_weakest C.ev C.l hD _ _ _ (by rw [hLB2.1]; exact hF) s hs _) rfl rfl ⟨by decide, by decide, by show k + 4 + 2 ≤ 760; omega, by show n + 24 + 12 ≤ 15300; omega⟩ (Nat.le_of_ble_eq_true rfl) rfl (fun V3 hV3 => ?_)
          have hLB3 := LB_fr hLB2 hV3
          rw [hLB2.1]
          cases hw : (wkp F s 36).2 with
          | none =>
            show Z E G (HM D V3 P PH) sz (k + 6) (n + 36) (368, [some (.ref (D.1 0)), some (.ref (D.1 37)), some (.ref (D.1 38)), some (.int (nI s)), some (.int (nI (cnt (fun k => hld F k s) 36))), some (.int (nI (wos F s 36))), some (.int ((-1))), some (.long (lN (gby F s 36))), none, some (.int (nI 5)), none, none, none], [.int ((-102))])
            refine Z_run C it_Lw_sides 1 (f2 := (370, [some (.ref (D.1 0)), some (.ref (D.1 37)), some (.ref (D.1 38)), some (.int (nI s)), some (.int (nI (cnt (fun k => hld F k s) 36))), some (.int (nI (wos F s 36))), some (.int ((-1))), some (.long (lN (gby F s 36))), none, some (.int (nI 5)), none, none, none], [.int ((-1)), .int ((-102))])) rfl ?_
            refine Z_br C it_Lw_sides rfl rfl (fun hc5 => ?_) (fun hc5 => ?_)
            · exact absurd hc5 (by decide)
            · skip
              refine Z_run C it_Lw_sides 2 (f2 := (380, [some (.ref (D.1 0)), some (.ref (D.1 37)), some (.ref (D.1 38)), some (.int (nI s)), some (.int (nI (cnt (fun k => hld F k s) 36))), some (.int (nI (wos F s 36))), some (.int ((-1))), some (.long (lN (gby F s 36))), none, some (.int (nI 5)), none, none, none], [.int ((-102)), .int ((-102))])) rfl ?_
              refine Z_br C it_Lw_sides rfl rfl (fun hc6 => ?_) (fun hc6 => ?_)
              · exact absurd (rfl) hc6
              · skip
                refine Z_run C it_Lw_sides 2 (f2 := (385, [some (.ref (D.1 0)), some (.ref (D.1 37)), some (.ref (D.1 38)), some (.int (nI s)), some (.int (nI (cnt (fun k => hld F k s) 36))), some (.int (nI (wos F s 36))), some (.int ((-1))), some (.long (lN (gby F s 36))), none, some (.int (nI 5)), none, none, none], [.int (nI s), .ref (D.1 0)])) rfl ?_
                refine Zr_callV C it_Lw_sides hD rfl p_Xx_moveCount ml_Lw_84 0 (by decide) rfl rfl [.int (nI s)] (cx_Xx_moveCount C.ev C.l hD _ _ _ F hLB3.1 hF s (by omega) _) rfl rfl ⟨by decide, by decide, by show k + 6 + 1 ≤ 760; omega, by show n + 36 + 6 ≤ 15300; omega⟩ (Nat.le_of_ble_eq_true rfl) rfl ?_
                show Z E G (HM D V3 P PH) sz (k + 7) (n + 42) (388, [some (.ref (D.1 0)), some (.ref (D.1 37)), some (.ref (D.1 38)), some (.int (nI s)), some (.int (nI (cnt (fun k => hld F k s) 36))), some (.int (nI (wos F s 36))), some (.int ((-1))), some (.long (lN (gby F s 36))), none, some (.int (nI 5)), none, none, none], [.int (nI (mvs F s 36))])
                refine Z_run C it_Lw_sides 3 (f2 := (391, [some (.ref (D.1 0)), some (.ref (D.1 37)), some (.ref (D.1 38)), some (.int (nI s)), some (.int (nI (cnt (fun k => hld F k s) 36))), some (.int (nI (wos F s 36))), some (.int ((-1))), some (.long (lN (gby F s 36))), none, some (.int (nI 5)), none, none, none], [.int (nI s), .ref (D.1 38), .ref (D.1 37), .int (nI (mvs F s 36))])) rfl ?_
                refine Zr_callS C it_Lw_sides rfl p_Lw_moves ml_Lw_87 [.ref (D.1 37), .ref (D.1 38), .int (nI s)] (ct_Lw_moves C.ev C.l F _ _ hpq (HM D V3 P PH) _ _ (LB_p hD hLB3) (LB_q hD hLB3) s (by omega) _) rfl rfl ⟨by decide, by decide, by show k + 7 + 0 ≤ 760; omega, by show n + 42 + 0 ≤ 15300; omega⟩ (Nat.le_of_ble_eq_true rfl) rfl ?_
                show Z E G (HM D V3 P PH) sz (k + 7) (n + 42) (394, [some (.ref (D.1 0)), some (.ref (D.1 37)), some (.ref (D.1 38)), some (.int (nI s)), some (.int (nI (cnt (fun k => hld F k s) 36))), some (.int (nI (wos F s 36))), some (.int ((-1))), some (.long (lN (gby F s 36))), none, some (.int (nI 5)), none, none, none], [.int (nI (mvs F s 36)), .int (nI (mvs F s 36))])
                refine Z_br C it_Lw_sides rfl rfl (fun hc7 => ?_) (fun hc7 => ?_)
                · skip
                  refine Z_run C it_Lw_sides 1 (f2 := (402, [some (.ref (D.1 0)), some (.ref (D.1 37)), some (.ref (D.1 38)), some (.int (nI s + nI 1)), some (.int (nI (cnt (fun k => hld F k s) 36))), some (.int (nI (wos F s 36))), some (.int ((-1))), some (.long (lN (gby F s 36))), none, some (.int (nI 5)), none, none, none], [])) rfl ?_
                  rw [nI_add s 1]
                  refine Z_run C it_Lw_sides 1 (f2 := (2, [some (.ref (D.1 0)), some (.ref (D.1 37)), some (.ref (D.1 38)), some (.int (nI (s + 1))), some (.int (nI (cnt (fun k => hld F k s) 36))), some (.int (nI (wos F s 36))), some (.int ((-1))), some (.long (lN (gby F s 36))), none, some (.int (nI 5)), none, none, none], [])) rfl ?_
                  refine Z_sub (ls2 := [some (.ref (D.1 0)), some (.ref (D.1 37)), some (.ref (D.1 38)), some (.int (nI (s + 1))), none, none, none, none, none, none, none, none, none]) ⟨rfl, rfl, rfl, rfl, trivial⟩ ?_
                  exact kk V3 hV3
                · exact absurd (rfl) hc7
          | some j =>
            show Z E G (HM D V3 P PH) sz (k + 6) (n + 36) (368, [some (.ref (D.1 0)), some (.ref (D.1 37)), some (.ref (D.1 38)), some (.int (nI s)), some (.int (nI (cnt (fun k => hld F k s) 36))), some (.int (nI (wos F s 36))), some (.int (nI j)), some (.long (lN (gby F s 36))), none, some (.int (nI 5)), none, none, none], [.int (nI j)])
            obtain ⟨hji, hj0⟩ := (wkp_1 (F := F) (s := s) (Nat.le_refl 36)).2 j hw
            refine Z_run C it_Lw_sides 1 (f2 := (370, [some (.ref (D.1 0)), some (.ref (D.1 37)), some (.ref (D.1 38)), some (.int (nI s)), some (.int (nI (cnt (fun k => hld F k s) 36))), some (.int (nI (wos F s 36))), some (.int (nI j)), some (.long (lN (gby F s 36))), none, some (.int (nI 5)), none, none, none], [.int (nI j), .int (nI j)])) rfl ?_
            refine Z_br C it_Lw_sides rfl rfl (fun hc8 => ?_) (fun hc8 => ?_)
            · skip
              refine Z_run C it_Lw_sides 1 (f2 := (380, [some (.ref (D.1 0)), some (.ref (D.1 37)), some (.ref (D.1 38)), some (.int (nI s)), some (.int (nI (cnt (fun k => hld F k s) 36))), some (.int (nI (wos F s 36))), some (.int (nI j)), some (.long (lN (gby F s 36))), none, some (.int (nI 5)), none, none, none], [.int (nI j), .int (nI j)])) rfl ?_
              refine Z_br C it_Lw_sides rfl rfl (fun hc9 => ?_) (fun hc9 => ?_)
              · exact absurd (rfl) hc9
              · skip
                refine Z_run C it_Lw_sides 2 (f2 := (385, [some (.ref (D.1 0)), some (.ref (D.1 37)), some (.ref (D.1 38)), some (.int (nI s)), some (.int (nI (cnt (fun k => hld F k s) 36))), some (.int (nI (wos F s 36))), some (.int (nI j)), some (.long (lN (gby F s 36))), none, some (.int (nI 5)), none, none, none], [.int (nI s), .ref (D.1 0)])) rfl ?_
                refine Zr_callV C it_Lw_sides hD rfl p_Xx_moveCount ml_Lw_84 0 (by decide) rfl rfl [.int (nI s)] (cx_Xx_moveCount C.ev C.l hD _ _ _ F hLB3.1 hF s (by omega) _) rfl rfl ⟨by decide, by decide, by show k + 6 + 1 ≤ 760; omega, by show n + 36 + 6 ≤ 15300; omega⟩ (Nat.le_of_ble_eq_true rfl) rfl ?_
                show Z E G (HM D V3 P PH) sz (k + 7) (n + 42) (388, [some (.ref (D.1 0)), some (.ref (D.1 37)), some (.ref (D.1 38)), some (.int (nI s)), some (.int (nI (cnt (fun k => hld F k s) 36))), some (.int (nI (wos F s 36))), some (.int (nI j)), some (.long (lN (gby F s 36))), none, some (.int (nI 5)), none, none, none], [.int (nI (mvs F s 36))])
                refine Z_run C it_Lw_sides 3 (f2 := (391, [some (.ref (D.1 0)), some (.ref (D.1 37)), some (.ref (D.1 38)), some (.int (nI s)), some (.int (nI (cnt (fun k => hld F k s) 36))), some (.int (nI (wos F s 36))), some (.int (nI j)), some (.long (lN (gby F s 36))), none, some (.int (nI 5)), none, none, none], [.int (nI s), .ref (D.1 38), .ref (D.1 37), .int (nI (mvs F s 36))])) rfl ?_
                refine Zr_callS C it_Lw_sides rfl p_Lw_moves ml_Lw_87 [.ref (D.1 37), .ref (D.1 38), .int (nI s)] (ct_Lw_moves C.ev C.l F _ _ hpq (HM D V3 P PH) _ _ (LB_p hD hLB3) (LB_q hD hLB3) s (by omega) _) rfl rfl ⟨by decide, by decide, by show k + 7 + 0 ≤ 760; omega, by show n + 42 + 0 ≤ 15300; omega⟩ (Nat.le_of_ble_eq_true rfl) rfl ?_
                show Z E G (HM D V3 P PH) sz (k + 7) (n + 42) (394, [some (.ref (D.1 0)), some (.ref (D.1 37)), some (.ref (D.1 38)), some (.int (nI s)), some (.int (nI (cnt (fun k => hld F k s) 36))), some (.int (nI (wos F s 36))), some (.int (nI j)), some (.long (lN (gby F s 36))), none, some (.int (nI 5)), none, none, none], [.int (nI (mvs F s 36)), .int (nI (mvs F s 36))])
                refine Z_br C it_Lw_sides rfl rfl (fun hc10 => ?_) (fun hc10 => ?_)
                · skip
                  refine Z_run C it_Lw_sides 1 (f2 := (402, [some (.ref (D.1 0)), some (.ref (D.1 37)), some (.ref (D.1 38)), some (.int (nI s + nI 1)), some (.int (nI (cnt (fun k => hld F k s) 36))), some (.int (nI (wos F s 36))), some (.int (nI j)), some (.long (lN (gby F s 36))), none, some (.int (nI 5)), none, none, none], [])) rfl ?_
                  rw [nI_add s 1]
                  refine Z_run C it_Lw_sides 1 (f2 := (2, [some (.ref (D.1 0)), some (.ref (D.1 37)), some (.ref (D.1 38)), some (.int (nI (s + 1))), some (.int (nI (cnt (fun k => hld F k s) 36))), some (.int (nI (wos F s 36))), some (.int (nI j)), some (.long (lN (gby F s 36))), none, some (.int (nI 5)), none, none, none], [])) rfl ?_
                  refine Z_sub (ls2 := [some (.ref (D.1 0)), some (.ref (D.1 37)), some (.ref (D.1 38)), some (.int (nI (s + 1))), none, none, none, none, none, none, none, none, none]) ⟨rfl, rfl, rfl, rfl, trivial⟩ ?_
                  exact kk V3 hV3
                · exact absurd (rfl) hc10
            · exact absurd (Int32.not_lt.mp (nI_nn (by omega))) hc8
set_option maxRecDepth 20000 in
theorem lp_Lw_sides {E : zE} {G : zG} {D : zD} (hD : zDok E D) {V : Nat → Nat → Int32} {P : Nat → Nat → Value} {PH : aH} {F : Nat → Nat} {pr qr : Nat → Int32} (hLB : LB V F pr qr) (hpq : okpq F pr qr) (hpc : pcs_ F ≤ 16) {sz : Nat} (hacc : ∀ s, s < 2 → V 4 s = nI (wos F s 36)) (C : zCx E G c_Lw_sides 13 y_Lw_sides.cls y_Lw_sides.name (some .boolean) rm_Lw_sides) (q : zEndX E G (zEo D V P PH sz (nI 1)) rm_Lw_sides.cells rm_Lw_sides.slots) : ∀ (y s : Nat) (V2 : Nat → Nat → Int32), 2 - s < y → s ≤ 2 → (∀ c, c ≠ 36 → V2 c = V c) → Z E G (HM D V2 P PH) sz (s * 380) (s * 7650) (2, [some (.ref (D.1 0)), some (.ref (D.1 37)), some (.ref (D.1 38)), some (.int (nI s)), none, none, none, none, none, none, none, none, none], []) := by
  intro y
  induction y with
  | zero =>
    intro s V2 h1 h2
    omega
  | succ y ih =>
    intro s V2 h1 h2 hV
    refine Z_run C it_Lw_sides 2 (f2 := (4, [some (.ref (D.1 0)), some (.ref (D.1 37)), some (.ref (D.1 38)), some (.int (nI s)), none, none, none, none, none, none, none, none, none], [.int (nI 2), .int (nI s)])) rfl ?_
    refine Z_br C it_Lw_sides rfl rfl (fun hc1 => ?_) (fun hc1 => ?_)
    · have hs2 : s = 2 := by have := (nI_leI (a := 2) (b := s) (by omega) (by omega)).mp hc1; omega
      refine Z_run C it_Lw_sides 1 (f2 := (406, [some (.ref (D.1 0)), some (.ref (D.1 37)), some (.ref (D.1 38)), some (.int (nI s)), none, none, none, none, none, none, none, none, none], [.int (nI 1)])) rfl ?_
      exact Z_zret C q.e it_Lw_sides rfl (Or.inr rfl) (⟨rfl, rfl, V2, rfl, hV⟩) (by show s * 380 ≤ 760; omega) (by show s * 7650 ≤ 15300; omega)
    · have hs2 : s < 2 := by have z : ¬ 2 ≤ s := fun z9 => hc1 ((nI_leI (a := 2) (b := s) (by omega) (by omega)).mpr z9); omega
      refine Z_run C it_Lw_sides 10 (f2 := (22, [some (.ref (D.1 0)), some (.ref (D.1 37)), some (.ref (D.1 38)), some (.int (nI s)), some (.int (nI 0)), some (.int (nI 0)), some (.int ((-1))), some (.long (lN 0)), none, some (.int (nI 0)), none, none, none], [])) rfl ?_
      have e4 : nI 0 = nI (cnt (fun k => hld F k s) 0) := rfl
      have e5 : (-1 : Int32) = oI (wkp F s 0).2 := rfl
      refine Z_widen (k2 := s * 380 + 0 * 10) (n2 := s * 7650 + 0 * 208) (by omega) (by omega) ?_
      refine sd_22 hD hLB hpq hpc hs2 C q hV (k := 0) (n := 0) (K := s * 380) (N := s * 7650) (by omega) (by omega) ?_ 37 0 (by omega) (by omega)
      refine Z_run C it_Lw_sides 2 (f2 := (246, [some (.ref (D.1 0)), some (.ref (D.1 37)), some (.ref (D.1 38)), some (.int (nI s)), some (.int (nI (cnt (fun k => hld F k s) 36))), some (.int (nI (wos F s 36))), some (.int (oI (wkp F s 36).2)), some (.long (lN (gby F s 36))), none, some (.int (nI 0)), none, none, none], [])) rfl ?_
      refine Z_widen (k2 := (s * 380 + 360) + 0 * 2) (n2 := (s * 7650 + 7488) + 0 * 12) (by omega) (by omega) ?_
      refine sd_246 hD hLB hpq hpc hs2 C q hV (k := 0) (n := 0) (K := s * 380 + 360) (N := s * 7650 + 7488) (by omega) (by omega) ?_ 6 0 (by omega) (by omega)
      refine Z_widen (k2 := s * 380 + 370) (n2 := s * 7650 + 7548) (by omega) (by omega) ?_
      refine sd_322 hD hLB hpq hpc hs2 C q hV (by omega) (by omega) hacc (fun V3 hV3 => ?_)
      refine Z_widen (k2 := (s + 1) * 380) (n2 := (s + 1) * 7650) (by omega) (by omega) ?_
      exact ih (s + 1) V3 (by omega) (by omega) (fun c hc => (hV3 c hc).trans (hV c hc))
set_option maxRecDepth 20000 in
theorem ct_Lw_sides {E : zE} (hE : zEv E) {l : Launch} (hl : l.stackTraces = false) {D : zD} (hD : zDok E D) {V : Nat → Nat → Int32} {P : Nat → Nat → Value} {PH : aH} {F : Nat → Nat} {pr qr : Nat → Int32} (hLB : LB V F pr qr) (hpq : okpq F pr qr) (hpc : pcs_ F ≤ 16)  (hacc : ∀ s, s < 2 → V 4 s = nI (wos F s 36)) (sz : Nat) : zM E l y_Lw_sides [.code y_Lw_sides c_Lw_sides 13 (some .boolean)] rm_Lw_sides [.ref (D.1 0), .ref (D.1 37), .ref (D.1 38)] (HM D V P PH) sz (zEo D V P PH sz (nI 1)) := by
  refine zM_of hE hl (by decide +kernel) [some (.ref (D.1 0)), some (.ref (D.1 37)), some (.ref (D.1 38)), none, none, none, none, none, none, none, none, none, none] ⟨rfl, rfl, Nat.le_of_ble_eq_true rfl⟩ ?_
  intro G C q htb
  refine Z_run C it_Lw_sides 2 (f2 := (2, [some (.ref (D.1 0)), some (.ref (D.1 37)), some (.ref (D.1 38)), some (.int (nI 0)), none, none, none, none, none, none, none, none, none], [])) rfl ?_
  exact lp_Lw_sides hD hLB hpq hpc hacc C q 3 0 V (by omega) (by omega) (fun c hc => rfl)
