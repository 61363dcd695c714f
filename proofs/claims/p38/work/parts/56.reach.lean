/-! ===== the law's reach, moves, pieces, board ===== -/
theorem sdI_p {F : Nat → Nat} {k : Nat} (h : F k ≠ 0) : sdI F k = nI (sd (F k)) := if_neg h
/-- what is left of the guarded squares when the first i are looked at -/
def rck (F : Nat → Nat) (f s i : Nat) : Nat := gfr F f &&& (bm (fun t => hld F t s) i ^^^ (2 ^ 36 - 1))
theorem rck_lt (F : Nat → Nat) (f s i : Nat) : rck F f s i < 2 ^ 36 := Nat.lt_of_le_of_lt Nat.and_le_left (gfr_lt F f)
theorem rck_0 (F : Nat → Nat) (f s : Nat) : rck F f s 0 = gfr F f := by
  unfold rck
  show gfr F f &&& (0 ^^^ (2 ^ 36 - 1)) = gfr F f
  rw [Nat.zero_xor, Nat.and_two_pow_sub_one_eq_mod, Nat.mod_eq_of_lt (gfr_lt F f)]
theorem lN_m1 (x : Int64) : x &&& (-1) = x := by
  apply Int64.toBitVec_inj.mp
  show x.toBitVec &&& (BitVec.allOnes 64) = x.toBitVec
  exact BitVec.and_allOnes
theorem rck_f {F : Nat → Nat} {f s i : Nat} (h : hld F i s = false) : lN (rck F f s i) &&& (-1) = lN (rck F f s (i + 1)) := by
  rw [lN_m1]
  unfold rck
  rw [bm_f (b := fun t => hld F t s) h]
theorem rck_t {F : Nat → Nat} {f s i : Nat} (hi : i < 36) (h : hld F i s = true) : lN (rck F f s i) &&& (lN 1 <<< ((nI i).toInt64 &&& 63) ^^^ (-1)) = lN (rck F f s (i + 1)) := by
  rw [wb_shl 1 (by omega), Nat.one_mul, lN_not (rck_lt F f s i) (wb_lt2 hi)]
  congr 1
  have e : bm (fun t => hld F t s) (i + 1) = bm (fun t => hld F t s) i ||| 2 ^ i := by simp [bm, h]
  unfold rck
  rw [e]
  apply Nat.eq_of_testBit_eq
  intro t
  simp only [Nat.testBit_and, Nat.testBit_xor, Nat.testBit_or, Nat.testBit_two_pow_sub_one]
  by_cases ht : t < 36
  · have e1 : decide (t < 36) = true := decide_eq_true ht
    rw [e1]
    cases (gfr F f).testBit t <;> cases (bm (fun t => hld F t s) i).testBit t <;> cases (2 ^ i).testBit t <;> rfl
  · have e2 : (gfr F f).testBit t = false := Nat.testBit_lt_two_pow (Nat.lt_of_lt_of_le (gfr_lt F f) (Nat.pow_le_pow_right (by decide) (by omega)))
    rw [e2]
    rfl
theorem i2l_n {a : Nat} (h : a < 2147483648) : (nI a).toInt64 = lN a := by
  apply Int64.toInt_inj.mp
  rw [Int32.toInt_toInt64, nI_toInt h]
  exact (lg_ofNat_toInt (show a < 2 ^ 63 by omega)).symm
theorem lN_mul128 (a : Nat) : lN a * 128 = lN (a * 128) := by
  apply Int64.toBitVec_inj.mp
  show BitVec.ofNat 64 a * 128#64 = BitVec.ofNat 64 (a * 128)
  rw [BitVec.ofNat_mul]
theorem mul_or {x y : Nat} (hy : y < 128) : x * 128 + y = x * 128 ||| y := by
  rw [show x * 128 = 2 ^ 7 * x by omega, ← Nat.two_pow_add_eq_or_of_lt hy]
theorem stp_sum {v : Nat} : nI (stp v) + nI (32 * (v / 32)) = nI v := by
  rw [nI_add]
  congr 1
  unfold stp
  omega
set_option maxRecDepth 20000 in
theorem lp_Lw_reach {E : zE} {G : zG} {O : zO} (C : zCx E G c_Lw_reach 6 y_Lw_reach.cls y_Lw_reach.name (some .long) rm_Lw_reach) (q : zEndX E G O rm_Lw_reach.cells rm_Lw_reach.slots)  {F : Nat → Nat} {pr qr : Nat → Int32} (hpq : okpq F pr qr) {h : aH} {pa qa : Nat} (hp : h pa = some (10, 36, fun k => .int (pr k))) (hq : h qa = some (10, 36, fun k => .int (qr k))) {sz : Nat} {a : Nat} (ha : a < 36) (hne : F a ≠ 0) (hO : O (.inl (some (.long (lN (gfa F a (sd (F a))))))) h sz) : ∀ (j i : Nat), 36 - i < j → i ≤ 36 → Z E G h sz 0 0 (12, [some (.ref pa), some (.ref qa), some (.int (nI a)), some (.long (lN (rck F a (sd (F a)) i))), none, some (.int (nI i))], []) := by
  intro j
  induction j with
  | zero =>
    intro i h1 h2
    omega
  | succ j ih =>
    intro i h1 h2
    have hsd := sd_le (F a)
    refine Z_run C it_Lw_reach 2 (f2 := (16, [some (.ref pa), some (.ref qa), some (.int (nI a)), some (.long (lN (rck F a (sd (F a)) i))), none, some (.int (nI i))], [.int (nI 36), .int (nI i)])) rfl ?_
    refine Z_br C it_Lw_reach rfl rfl (fun hc1 => ?_) (fun hc1 => ?_)
    · replace hc1 := (nI_leI (a := 36) (b := i) (by omega) (by omega)).mp hc1
      refine Z_run C it_Lw_reach 1 (f2 := (59, [some (.ref pa), some (.ref qa), some (.int (nI a)), some (.long (lN (rck F a (sd (F a)) i))), none, some (.int (nI i))], [.long (lN (rck F a (sd (F a)) i))])) rfl ?_
      exact Z_lret C q.e it_Lw_reach rfl (by rw [show i = 36 by omega]; exact hO) (by decide) (by decide)
    · replace hc1 : ¬ _ := fun z9 => hc1 ((nI_leI (a := 36) (b := i) (by omega) (by omega)).mpr z9)
      refine Z_run C it_Lw_reach 4 (f2 := (24, [some (.ref pa), some (.ref qa), some (.int (nI a)), some (.long (lN (rck F a (sd (F a)) i))), none, some (.int (nI i))], [.int (nI i), .ref qa, .ref pa, .long (lN (rck F a (sd (F a)) i))])) rfl ?_
      refine Zr_callS C it_Lw_reach rfl p_Lw_side ml_Lw_20 [.ref pa, .ref qa, .int (nI i)] (ct_Lw_side C.ev C.l F _ _ hpq h _ _ hp hq i (by omega) _) rfl rfl ⟨by decide, by decide, by decide, by decide⟩ (Nat.le_of_ble_eq_true rfl) rfl ?_
      show Z E G h sz 0 0 (27, [some (.ref pa), some (.ref qa), some (.int (nI a)), some (.long (lN (rck F a (sd (F a)) i))), none, some (.int (nI i))], [.int (sdI F i), .long (lN (rck F a (sd (F a)) i))])
      refine Z_run C it_Lw_reach 3 (f2 := (30, [some (.ref pa), some (.ref qa), some (.int (nI a)), some (.long (lN (rck F a (sd (F a)) i))), none, some (.int (nI i))], [.int (nI a), .ref qa, .ref pa, .int (sdI F i), .long (lN (rck F a (sd (F a)) i))])) rfl ?_
      refine Zr_callS C it_Lw_reach rfl p_Lw_side ml_Lw_20 [.ref pa, .ref qa, .int (nI a)] (ct_Lw_side C.ev C.l F _ _ hpq h _ _ hp hq a (by omega) _) rfl rfl ⟨by decide, by decide, by decide, by decide⟩ (Nat.le_of_ble_eq_true rfl) rfl ?_
      show Z E G h sz 0 0 (33, [some (.ref pa), some (.ref qa), some (.int (nI a)), some (.long (lN (rck F a (sd (F a)) i))), none, some (.int (nI i))], [.int (sdI F a), .int (sdI F i), .long (lN (rck F a (sd (F a)) i))])
      have e1 : sdI F a = nI (sd (F a)) := sdI_p hne
      rw [e1]
      refine Z_br C it_Lw_reach rfl rfl (fun hc2 => ?_) (fun hc2 => ?_)
      · replace hc2 := (sdI_n (by omega)).mp hc2
        refine Z_ldc2 C it_Lw_reach rfl cl_Lw_24 ?_
        refine Z_run C it_Lw_reach 3 (f2 := (55, [some (.ref pa), some (.ref qa), some (.int (nI a)), some (.long (lN (rck F a (sd (F a)) i) &&& (-1))), none, some (.int (nI i + nI 1))], [])) rfl ?_
        rw [nI_add i 1]
        refine Z_run C it_Lw_reach 1 (f2 := (12, [some (.ref pa), some (.ref qa), some (.int (nI a)), some (.long (lN (rck F a (sd (F a)) i) &&& (-1))), none, some (.int (nI (i + 1)))], [])) rfl ?_
        have e2 : lN (rck F a (sd (F a)) i) &&& (-1) = lN (rck F a (sd (F a)) (i + 1)) := rck_f hc2
        rw [e2]
        exact ih (i + 1) (by omega) (by omega)
      · replace hc2 := (sdI_s (by omega)).mp (Classical.not_not.mp hc2)
        refine Z_run C it_Lw_reach 3 (f2 := (40, [some (.ref pa), some (.ref qa), some (.int (nI a)), some (.long (lN (rck F a (sd (F a)) i))), none, some (.int (nI i))], [.long (lN 1 <<< ((nI i).toInt64 &&& 63)), .long (lN (rck F a (sd (F a)) i))])) rfl ?_
        refine Z_ldc2 C it_Lw_reach rfl cl_Lw_24 ?_
        refine Z_run C it_Lw_reach 5 (f2 := (55, [some (.ref pa), some (.ref qa), some (.int (nI a)), some (.long (lN (rck F a (sd (F a)) i) &&& ((lN 1 <<< ((nI i).toInt64 &&& 63)) ^^^ (-1)))), none, some (.int (nI i + nI 1))], [])) rfl ?_
        rw [nI_add i 1]
        refine Z_run C it_Lw_reach 1 (f2 := (12, [some (.ref pa), some (.ref qa), some (.int (nI a)), some (.long (lN (rck F a (sd (F a)) i) &&& ((lN 1 <<< ((nI i).toInt64 &&& 63)) ^^^ (-1)))), none, some (.int (nI (i + 1)))], [])) rfl ?_
        have e3 : lN (rck F a (sd (F a)) i) &&& ((lN 1 <<< ((nI i).toInt64 &&& 63)) ^^^ (-1)) = lN (rck F a (sd (F a)) (i + 1)) := rck_t (by omega) hc2
        rw [e3]
        exact ih (i + 1) (by omega) (by omega)
set_option maxRecDepth 20000 in
theorem ct_Lw_reach {E : zE} (hE : zEv E) {l : Launch} (hl : l.stackTraces = false) (F : Nat → Nat) (pr qr : Nat → Int32) (hpq : okpq F pr qr) (h : aH) (pa qa : Nat) (hp : h pa = some (10, 36, fun k => .int (pr k))) (hq : h qa = some (10, 36, fun k => .int (qr k))) (a : Nat) (ha : a < 36) (hne : F a ≠ 0) (sz : Nat) : zM E l y_Lw_reach [.code y_Lw_reach c_Lw_reach 6 (some .long)] rm_Lw_reach [.ref pa, .ref qa, .int (nI a)] h sz (zRet (some (.long (lN (gfa F a (sd (F a)))))) h sz) := by
  refine zM_of hE hl (by decide +kernel) [some (.ref pa), some (.ref qa), some (.int (nI a)), none, none, none] ⟨rfl, rfl, Nat.le_of_ble_eq_true rfl⟩ ?_
  intro G C q htb
  refine Z_run C it_Lw_reach 3 (f2 := (3, [some (.ref pa), some (.ref qa), some (.int (nI a)), none, none, none], [.int (nI a), .ref pa, .ref pa])) rfl ?_
  refine Z_ald C it_Lw_reach (tg := 10) rfl hp (by decide) rfl (j := a) (by omega) (by decide) (v := .int (nI (stp (F a)))) (congrArg Value.int (hpq.2 a (by omega)).1) ?_
  refine Z_run C it_Lw_reach 1 (f2 := (5, [some (.ref pa), some (.ref qa), some (.int (nI a)), none, none, none], [.int (nI a), .int (nI (stp (F a))), .ref pa])) rfl ?_
  refine Zr_callS C it_Lw_reach rfl p_Lw_covers ml_Lw_16 [.ref pa, .int (nI (stp (F a))), .int (nI a)] (ct_Lw_covers C.ev C.l F hpq.1 _ (fun k hk => (hpq.2 k hk).1) (fun k hk => (hpq.2 k hk).2.1) h _ hp (stp (F a)) (stp_lt _) a (by omega) _) rfl rfl ⟨by decide, by decide, by decide, by decide⟩ (Nat.le_of_ble_eq_true rfl) rfl ?_
  show Z E G h sz 0 0 (8, [some (.ref pa), some (.ref qa), some (.int (nI a)), none, none, none], [.long (lN (cvo F (stp (F a)) a 5))])
  have e1 : lN (cvo F (stp (F a)) a 5) = lN (gfr F a) := by rw [cvo_gfr ha]
  rw [e1]
  refine Z_run C it_Lw_reach 3 (f2 := (12, [some (.ref pa), some (.ref qa), some (.int (nI a)), some (.long (lN (gfr F a))), none, some (.int (nI 0))], [])) rfl ?_
  rw [← rck_0 F a (sd (F a))]
  exact lp_Lw_reach C q hpq hp hq ha hne ⟨rfl, rfl, rfl⟩ 37 0 (by omega) (by omega)
set_option maxRecDepth 20000 in
theorem lp_Lw_moves {E : zE} {G : zG} {O : zO} (C : zCx E G c_Lw_moves 5 y_Lw_moves.cls y_Lw_moves.name (some .int) rm_Lw_moves) (q : zEndX E G O rm_Lw_moves.cells rm_Lw_moves.slots)  {F : Nat → Nat} {pr qr : Nat → Int32} (hpq : okpq F pr qr) {h : aH} {pa qa : Nat} (hp : h pa = some (10, 36, fun k => .int (pr k))) (hq : h qa = some (10, 36, fun k => .int (qr k))) {sz : Nat} {s : Nat} (hs : s < 2) (hO : O (.inl (some (.int (nI (mvs F s 36))))) h sz) : ∀ (j i : Nat), 36 - i < j → i ≤ 36 → Z E G h sz 0 0 (5, [some (.ref pa), some (.ref qa), some (.int (nI s)), some (.int (nI (mvs F s i))), some (.int (nI i))], []) := by
  intro j
  induction j with
  | zero =>
    intro i h1 h2
    omega
  | succ j ih =>
    intro i h1 h2
    refine Z_run C it_Lw_moves 2 (f2 := (9, [some (.ref pa), some (.ref qa), some (.int (nI s)), some (.int (nI (mvs F s i))), some (.int (nI i))], [.int (nI 36), .int (nI i)])) rfl ?_
    refine Z_br C it_Lw_moves rfl rfl (fun hc1 => ?_) (fun hc1 => ?_)
    · replace hc1 := (nI_leI (a := 36) (b := i) (by omega) (by omega)).mp hc1
      refine Z_run C it_Lw_moves 1 (f2 := (47, [some (.ref pa), some (.ref qa), some (.int (nI s)), some (.int (nI (mvs F s i))), some (.int (nI i))], [.int (nI (mvs F s i))])) rfl ?_
      exact Z_iret C q.e it_Lw_moves rfl ((show i = 36 by omega) ▸ hO) (by decide) (by decide)
    · replace hc1 : ¬ _ := fun z9 => hc1 ((nI_leI (a := 36) (b := i) (by omega) (by omega)).mpr z9)
      refine Z_run C it_Lw_moves 4 (f2 := (17, [some (.ref pa), some (.ref qa), some (.int (nI s)), some (.int (nI (mvs F s i))), some (.int (nI i))], [.int (nI i), .ref qa, .ref pa, .int (nI (mvs F s i))])) rfl ?_
      refine Zr_callS C it_Lw_moves rfl p_Lw_side ml_Lw_20 [.ref pa, .ref qa, .int (nI i)] (ct_Lw_side C.ev C.l F _ _ hpq h _ _ hp hq i (by omega) _) rfl rfl ⟨by decide, by decide, by decide, by decide⟩ (Nat.le_of_ble_eq_true rfl) rfl ?_
      show Z E G h sz 0 0 (20, [some (.ref pa), some (.ref qa), some (.int (nI s)), some (.int (nI (mvs F s i))), some (.int (nI i))], [.int (sdI F i), .int (nI (mvs F s i))])
      refine Z_run C it_Lw_moves 1 (f2 := (21, [some (.ref pa), some (.ref qa), some (.int (nI s)), some (.int (nI (mvs F s i))), some (.int (nI i))], [.int (nI s), .int (sdI F i), .int (nI (mvs F s i))])) rfl ?_
      refine Z_br C it_Lw_moves rfl rfl (fun hc2 => ?_) (fun hc2 => ?_)
      · replace hc2 := (sdI_n (s := s) (by omega)).mp hc2
        refine Z_run C it_Lw_moves 2 (f2 := (39, [some (.ref pa), some (.ref qa), some (.int (nI s)), some (.int (nI (mvs F s i))), some (.int (nI i))], [.int (nI (mvs F s i) + nI 0)])) rfl ?_
        rw [nI_add (mvs F s i) 0]
        refine Z_run C it_Lw_moves 2 (f2 := (43, [some (.ref pa), some (.ref qa), some (.int (nI s)), some (.int (nI (mvs F s i + 0))), some (.int (nI i + nI 1))], [])) rfl ?_
        rw [nI_add i 1]
        refine Z_run C it_Lw_moves 1 (f2 := (5, [some (.ref pa), some (.ref qa), some (.int (nI s)), some (.int (nI (mvs F s i + 0))), some (.int (nI (i + 1)))], [])) rfl ?_
        have e1 : nI (mvs F s i + 0) = nI (mvs F s (i + 1)) := by simp [mvs, smp, hc2]
        rw [e1]
        exact ih (i + 1) (by omega) (by omega)
      · replace hc2 := (sdI_s (s := s) (by omega)).mp (Classical.not_not.mp hc2)
        have hne : F i ≠ 0 := (hld_sd hc2).1
        have hsd2 : sd (F i) = s := (hld_sd hc2).2
        refine Z_run C it_Lw_moves 3 (f2 := (28, [some (.ref pa), some (.ref qa), some (.int (nI s)), some (.int (nI (mvs F s i))), some (.int (nI i))], [.int (nI i), .ref qa, .ref pa, .int (nI (mvs F s i))])) rfl ?_
        refine Zr_callS C it_Lw_moves rfl p_Lw_reach ml_Lw_26 [.ref pa, .ref qa, .int (nI i)] (ct_Lw_reach C.ev C.l F _ _ hpq h _ _ hp hq i (by omega) (by assumption) _) rfl rfl ⟨by decide, by decide, by decide, by decide⟩ (Nat.le_of_ble_eq_true rfl) rfl ?_
        show Z E G h sz 0 0 (31, [some (.ref pa), some (.ref qa), some (.int (nI s)), some (.int (nI (mvs F s i))), some (.int (nI i))], [.long (lN (gfa F i (sd (F i)))), .int (nI (mvs F s i))])
        refine Zr_callS C it_Lw_moves rfl p_Lw_bits ml_Lw_30 [.long (lN (gfa F i (sd (F i))))] (ct_Lw_bits C.ev C.l (gfa F i (sd (F i))) (by first | assumption | exact gfa_lt _ _ _ | omega) h _) rfl rfl ⟨by decide, by decide, by decide, by decide⟩ (Nat.le_of_ble_eq_true rfl) rfl ?_
        show Z E G h sz 0 0 (34, [some (.ref pa), some (.ref qa), some (.int (nI s)), some (.int (nI (mvs F s i))), some (.int (nI i))], [.int (nI (popc (gfa F i (sd (F i))))), .int (nI (mvs F s i))])
        refine Z_run C it_Lw_moves 2 (f2 := (39, [some (.ref pa), some (.ref qa), some (.int (nI s)), some (.int (nI (mvs F s i))), some (.int (nI i))], [.int (nI (mvs F s i) + nI (popc (gfa F i (sd (F i)))))])) rfl ?_
        rw [nI_add (mvs F s i) (popc (gfa F i (sd (F i))))]
        refine Z_run C it_Lw_moves 2 (f2 := (43, [some (.ref pa), some (.ref qa), some (.int (nI s)), some (.int (nI (mvs F s i + popc (gfa F i (sd (F i)))))), some (.int (nI i + nI 1))], [])) rfl ?_
        rw [nI_add i 1]
        refine Z_run C it_Lw_moves 1 (f2 := (5, [some (.ref pa), some (.ref qa), some (.int (nI s)), some (.int (nI (mvs F s i + popc (gfa F i (sd (F i)))))), some (.int (nI (i + 1)))], [])) rfl ?_
        have e2 : nI (mvs F s i + popc (gfa F i (sd (F i)))) = nI (mvs F s (i + 1)) := by rw [hsd2]; simp [mvs, smp, hc2]
        rw [e2]
        exact ih (i + 1) (by omega) (by omega)
set_option maxRecDepth 20000 in
theorem ct_Lw_moves {E : zE} (hE : zEv E) {l : Launch} (hl : l.stackTraces = false) (F : Nat → Nat) (pr qr : Nat → Int32) (hpq : okpq F pr qr) (h : aH) (pa qa : Nat) (hp : h pa = some (10, 36, fun k => .int (pr k))) (hq : h qa = some (10, 36, fun k => .int (qr k))) (s : Nat) (hs : s < 2) (sz : Nat) : zM E l y_Lw_moves [.code y_Lw_moves c_Lw_moves 5 (some .int)] rm_Lw_moves [.ref pa, .ref qa, .int (nI s)] h sz (zRet (some (.int (nI (mvs F s 36)))) h sz) := by
  refine zM_of hE hl (by decide +kernel) [some (.ref pa), some (.ref qa), some (.int (nI s)), none, none] ⟨rfl, rfl, Nat.le_of_ble_eq_true rfl⟩ ?_
  intro G C q htb
  refine Z_run C it_Lw_moves 4 (f2 := (5, [some (.ref pa), some (.ref qa), some (.int (nI s)), some (.int (nI 0)), some (.int (nI 0))], [])) rfl ?_
  exact lp_Lw_moves C q hpq hp hq hs ⟨rfl, rfl, rfl⟩ 37 0 (by omega) (by omega)
set_option maxRecDepth 20000 in
theorem lp_Lw_pieces {E : zE} {G : zG} {O : zO} (C : zCx E G c_Lw_pieces 5 y_Lw_pieces.cls y_Lw_pieces.name (some .int) rm_Lw_pieces) (q : zEndX E G O rm_Lw_pieces.cells rm_Lw_pieces.slots)  {F : Nat → Nat} {pr qr : Nat → Int32} (hpq : okpq F pr qr) {h : aH} {pa qa : Nat} (hp : h pa = some (10, 36, fun k => .int (pr k))) (hq : h qa = some (10, 36, fun k => .int (qr k))) {sz : Nat} {s : Nat} (hs : s < 2) (hO : O (.inl (some (.int (nI (cnt (fun k => hld F k s) 36))))) h sz) : ∀ (j i : Nat), 36 - i < j → i ≤ 36 → Z E G h sz 0 0 (5, [some (.ref pa), some (.ref qa), some (.int (nI s)), some (.int (nI (cnt (fun k => hld F k s) i))), some (.int (nI i))], []) := by
  intro j
  induction j with
  | zero =>
    intro i h1 h2
    omega
  | succ j ih =>
    intro i h1 h2
    refine Z_run C it_Lw_pieces 2 (f2 := (9, [some (.ref pa), some (.ref qa), some (.int (nI s)), some (.int (nI (cnt (fun k => hld F k s) i))), some (.int (nI i))], [.int (nI 36), .int (nI i)])) rfl ?_
    refine Z_br C it_Lw_pieces rfl rfl (fun hc1 => ?_) (fun hc1 => ?_)
    · replace hc1 := (nI_leI (a := 36) (b := i) (by omega) (by omega)).mp hc1
      refine Z_run C it_Lw_pieces 1 (f2 := (38, [some (.ref pa), some (.ref qa), some (.int (nI s)), some (.int (nI (cnt (fun k => hld F k s) i))), some (.int (nI i))], [.int (nI (cnt (fun k => hld F k s) i))])) rfl ?_
      exact Z_iret C q.e it_Lw_pieces rfl ((show i = 36 by omega) ▸ hO) (by decide) (by decide)
    · replace hc1 : ¬ _ := fun z9 => hc1 ((nI_leI (a := 36) (b := i) (by omega) (by omega)).mpr z9)
      refine Z_run C it_Lw_pieces 4 (f2 := (17, [some (.ref pa), some (.ref qa), some (.int (nI s)), some (.int (nI (cnt (fun k => hld F k s) i))), some (.int (nI i))], [.int (nI i), .ref qa, .ref pa, .int (nI (cnt (fun k => hld F k s) i))])) rfl ?_
      refine Zr_callS C it_Lw_pieces rfl p_Lw_side ml_Lw_20 [.ref pa, .ref qa, .int (nI i)] (ct_Lw_side C.ev C.l F _ _ hpq h _ _ hp hq i (by omega) _) rfl rfl ⟨by decide, by decide, by decide, by decide⟩ (Nat.le_of_ble_eq_true rfl) rfl ?_
      show Z E G h sz 0 0 (20, [some (.ref pa), some (.ref qa), some (.int (nI s)), some (.int (nI (cnt (fun k => hld F k s) i))), some (.int (nI i))], [.int (sdI F i), .int (nI (cnt (fun k => hld F k s) i))])
      refine Z_run C it_Lw_pieces 1 (f2 := (21, [some (.ref pa), some (.ref qa), some (.int (nI s)), some (.int (nI (cnt (fun k => hld F k s) i))), some (.int (nI i))], [.int (nI s), .int (sdI F i), .int (nI (cnt (fun k => hld F k s) i))])) rfl ?_
      refine Z_br C it_Lw_pieces rfl rfl (fun hc2 => ?_) (fun hc2 => ?_)
      · replace hc2 := (sdI_n (s := s) (by omega)).mp hc2
        refine Z_run C it_Lw_pieces 2 (f2 := (30, [some (.ref pa), some (.ref qa), some (.int (nI s)), some (.int (nI (cnt (fun k => hld F k s) i))), some (.int (nI i))], [.int (nI (cnt (fun k => hld F k s) i) + nI 0)])) rfl ?_
        rw [nI_add (cnt (fun k => hld F k s) i) 0]
        refine Z_run C it_Lw_pieces 2 (f2 := (34, [some (.ref pa), some (.ref qa), some (.int (nI s)), some (.int (nI (cnt (fun k => hld F k s) i + 0))), some (.int (nI i + nI 1))], [])) rfl ?_
        rw [nI_add i 1]
        refine Z_run C it_Lw_pieces 1 (f2 := (5, [some (.ref pa), some (.ref qa), some (.int (nI s)), some (.int (nI (cnt (fun k => hld F k s) i + 0))), some (.int (nI (i + 1)))], [])) rfl ?_
        have e1 : nI (cnt (fun k => hld F k s) i + 0) = nI (cnt (fun k => hld F k s) (i + 1)) := by simp [cnt, smp, hc2]
        rw [e1]
        exact ih (i + 1) (by omega) (by omega)
      · replace hc2 := (sdI_s (s := s) (by omega)).mp (Classical.not_not.mp hc2)
        refine Z_run C it_Lw_pieces 3 (f2 := (30, [some (.ref pa), some (.ref qa), some (.int (nI s)), some (.int (nI (cnt (fun k => hld F k s) i))), some (.int (nI i))], [.int (nI (cnt (fun k => hld F k s) i) + nI 1)])) rfl ?_
        rw [nI_add (cnt (fun k => hld F k s) i) 1]
        refine Z_run C it_Lw_pieces 2 (f2 := (34, [some (.ref pa), some (.ref qa), some (.int (nI s)), some (.int (nI (cnt (fun k => hld F k s) i + 1))), some (.int (nI i + nI 1))], [])) rfl ?_
        rw [nI_add i 1]
        refine Z_run C it_Lw_pieces 1 (f2 := (5, [some (.ref pa), some (.ref qa), some (.int (nI s)), some (.int (nI (cnt (fun k => hld F k s) i + 1))), some (.int (nI (i + 1)))], [])) rfl ?_
        have e2 : nI (cnt (fun k => hld F k s) i + 1) = nI (cnt (fun k => hld F k s) (i + 1)) := by simp [cnt, smp, hc2]
        rw [e2]
        exact ih (i + 1) (by omega) (by omega)
set_option maxRecDepth 20000 in
theorem ct_Lw_pieces {E : zE} (hE : zEv E) {l : Launch} (hl : l.stackTraces = false) (F : Nat → Nat) (pr qr : Nat → Int32) (hpq : okpq F pr qr) (h : aH) (pa qa : Nat) (hp : h pa = some (10, 36, fun k => .int (pr k))) (hq : h qa = some (10, 36, fun k => .int (qr k))) (s : Nat) (hs : s < 2) (sz : Nat) : zM E l y_Lw_pieces [.code y_Lw_pieces c_Lw_pieces 5 (some .int)] rm_Lw_pieces [.ref pa, .ref qa, .int (nI s)] h sz (zRet (some (.int (nI (cnt (fun k => hld F k s) 36)))) h sz) := by
  refine zM_of hE hl (by decide +kernel) [some (.ref pa), some (.ref qa), some (.int (nI s)), none, none] ⟨rfl, rfl, Nat.le_of_ble_eq_true rfl⟩ ?_
  intro G C q htb
  refine Z_run C it_Lw_pieces 4 (f2 := (5, [some (.ref pa), some (.ref qa), some (.int (nI s)), some (.int (nI 0)), some (.int (nI 0))], [])) rfl ?_
  exact lp_Lw_pieces C q hpq hp hq hs ⟨rfl, rfl, rfl⟩ 37 0 (by omega) (by omega)
theorem qtr_e {F : Nat → Nat} {m i : Nat} : qtr F m i * 128 ||| F (m * 36 / 4 + i) = qtr F m (i + 1) := rfl
set_option maxRecDepth 20000 in
theorem lp_Lw_board {E : zE} {G : zG} {O : zO} (C : zCx E G c_Lw_board 6 y_Lw_board.cls y_Lw_board.name (some .long) rm_Lw_board) (q : zEndX E G O rm_Lw_board.cells rm_Lw_board.slots)  {F : Nat → Nat} {pr qr : Nat → Int32} (hpq : okpq F pr qr) {h : aH} {pa qa : Nat} (hp : h pa = some (10, 36, fun k => .int (pr k))) (hq : h qa = some (10, 36, fun k => .int (qr k))) {sz : Nat} {m : Nat} (hm : m < 4) (hO : O (.inl (some (.long (lN (qtr F m 9))))) h sz) : ∀ (j i : Nat), 9 - i < j → i ≤ 9 → Z E G h sz 0 0 (5, [some (.ref pa), some (.ref qa), some (.int (nI (9 * m))), some (.long (lN (qtr F m i))), none, some (.int (nI (9 * m + i)))], []) := by
  intro j
  induction j with
  | zero =>
    intro i h1 h2
    omega
  | succ j ih =>
    intro i h1 h2
    have hFb : i < 9 → F (9 * m + i) < 128 := fun h9 => hpq.1 _ (by omega)
    have hst := stp_lt (F (9 * m + i))
    refine Z_run C it_Lw_board 4 (f2 := (11, [some (.ref pa), some (.ref qa), some (.int (nI (9 * m))), some (.long (lN (qtr F m i))), none, some (.int (nI (9 * m + i)))], [.int (nI (9 * m) + nI 9), .int (nI (9 * m + i))])) rfl ?_
    rw [nI_add (9 * m) 9]
    refine Z_br C it_Lw_board rfl rfl (fun hc1 => ?_) (fun hc1 => ?_)
    · replace hc1 := (nI_leI (a := 9 * m + 9) (b := 9 * m + i) (by omega) (by omega)).mp hc1
      refine Z_run C it_Lw_board 1 (f2 := (52, [some (.ref pa), some (.ref qa), some (.int (nI (9 * m))), some (.long (lN (qtr F m i))), none, some (.int (nI (9 * m + i)))], [.long (lN (qtr F m i))])) rfl ?_
      exact Z_lret C q.e it_Lw_board rfl ((show i = 9 by omega) ▸ hO) (by decide) (by decide)
    · replace hc1 : ¬ _ := fun z9 => hc1 ((nI_leI (a := 9 * m + 9) (b := 9 * m + i) (by omega) (by omega)).mpr z9)
      refine Z_run C it_Lw_board 1 (f2 := (15, [some (.ref pa), some (.ref qa), some (.int (nI (9 * m))), some (.long (lN (qtr F m i))), none, some (.int (nI (9 * m + i)))], [.long (lN (qtr F m i))])) rfl ?_
      refine Z_ldc2 C it_Lw_board rfl cl_Lw_38 ?_
      refine Z_run C it_Lw_board 3 (f2 := (22, [some (.ref pa), some (.ref qa), some (.int (nI (9 * m))), some (.long (lN (qtr F m i))), none, some (.int (nI (9 * m + i)))], [.int (nI (9 * m + i)), .ref pa, .long (lN (qtr F m i) * (128))])) rfl ?_
      refine Z_ald C it_Lw_board (tg := 10) rfl hp (by decide) rfl (j := 9 * m + i) (by omega) (by decide) (v := .int (nI (stp (F (9 * m + i))))) (congrArg Value.int (hpq.2 (9 * m + i) (by omega)).1) ?_
      refine Z_br C it_Lw_board rfl rfl (fun hc2 => ?_) (fun hc2 => ?_)
      · replace hc2 : ¬ _ := fun z9 => hc2 ((nI_e0 (a := stp (F (9 * m + i))) (by omega)).mpr z9)
        have hne : F (9 * m + i) ≠ 0 := fun z => hc2 (by rw [z]; rfl)
        refine Z_run C it_Lw_board 2 (f2 := (33, [some (.ref pa), some (.ref qa), some (.int (nI (9 * m))), some (.long (lN (qtr F m i))), none, some (.int (nI (9 * m + i)))], [.int (nI (9 * m + i)), .ref pa, .long (lN (qtr F m i) * (128))])) rfl ?_
        refine Z_ald C it_Lw_board (tg := 10) rfl hp (by decide) rfl (j := 9 * m + i) (by omega) (by decide) (v := .int (nI (stp (F (9 * m + i))))) (congrArg Value.int (hpq.2 (9 * m + i) (by omega)).1) ?_
        refine Z_run C it_Lw_board 3 (f2 := (39, [some (.ref pa), some (.ref qa), some (.int (nI (9 * m))), some (.long (lN (qtr F m i))), none, some (.int (nI (9 * m + i)))], [.int (nI (9 * m + i)), .ref qa, .int (nI 32), .int (nI (stp (F (9 * m + i)))), .long (lN (qtr F m i) * (128))])) rfl ?_
        refine Z_ald C it_Lw_board (tg := 10) rfl hq (by decide) rfl (j := 9 * m + i) (by omega) (by decide) (v := .int (nI (F (9 * m + i) / 32))) (congrArg Value.int ((hpq.2 (9 * m + i) (by omega)).2.2 (by assumption))) ?_
        refine Z_run C it_Lw_board 1 (f2 := (41, [some (.ref pa), some (.ref qa), some (.int (nI (9 * m))), some (.long (lN (qtr F m i))), none, some (.int (nI (9 * m + i)))], [.int (nI 32 * nI (F (9 * m + i) / 32)), .int (nI (stp (F (9 * m + i)))), .long (lN (qtr F m i) * (128))])) rfl ?_
        rw [nI_mul 32 (F (9 * m + i) / 32)]
        refine Z_run C it_Lw_board 1 (f2 := (42, [some (.ref pa), some (.ref qa), some (.int (nI (9 * m))), some (.long (lN (qtr F m i))), none, some (.int (nI (9 * m + i)))], [.int (nI (stp (F (9 * m + i))) + nI (32 * (F (9 * m + i) / 32))), .long (lN (qtr F m i) * (128))])) rfl ?_
        rw [nI_add (stp (F (9 * m + i))) (32 * (F (9 * m + i) / 32))]
        have e9 : nI (stp (F (9 * m + i)) + 32 * (F (9 * m + i) / 32)) = nI (F (9 * m + i)) := congrArg nI (by unfold stp; omega)
        rw [e9]
        refine Z_run C it_Lw_board 1 (f2 := (43, [some (.ref pa), some (.ref qa), some (.int (nI (9 * m))), some (.long (lN (qtr F m i))), none, some (.int (nI (9 * m + i)))], [.long ((nI (F (9 * m + i))).toInt64), .long (lN (qtr F m i) * (128))])) rfl ?_
        have e1 : (nI (F (9 * m + i))).toInt64 = lN (F (9 * m + i)) := i2l_n (by omega)
        rw [e1]
        refine Z_run C it_Lw_board 1 (f2 := (44, [some (.ref pa), some (.ref qa), some (.int (nI (9 * m))), some (.long (lN (qtr F m i))), none, some (.int (nI (9 * m + i)))], [.long ((lN (qtr F m i) * (128)) + lN (F (9 * m + i)))])) rfl ?_
        have e2 : (lN (qtr F m i) * (128)) + lN (F (9 * m + i)) = lN (qtr F m (i + 1)) := by rw [lN_mul128, lN_add, mul_or (hFb (by omega)), ← qtr_e, show m * 36 / 4 + i = 9 * m + i by omega]
        rw [e2]
        refine Z_run C it_Lw_board 2 (f2 := (48, [some (.ref pa), some (.ref qa), some (.int (nI (9 * m))), some (.long (lN (qtr F m (i + 1)))), none, some (.int (nI (9 * m + i) + nI 1))], [])) rfl ?_
        rw [nI_add (9 * m + i) 1]
        refine Z_run C it_Lw_board 1 (f2 := (5, [some (.ref pa), some (.ref qa), some (.int (nI (9 * m))), some (.long (lN (qtr F m (i + 1)))), none, some (.int (nI (9 * m + i + 1)))], [])) rfl ?_
        rw [show 9 * m + i + 1 = 9 * m + (i + 1) by omega]
        exact ih (i + 1) (by omega) (by omega)
      · replace hc2 := Classical.not_not.mp hc2
        replace hc2 := (nI_e0 (a := stp (F (9 * m + i))) (by omega)).mp hc2
        have hz : F (9 * m + i) = 0 := (hpq.2 _ (by omega)).2.1 hc2
        refine Z_run C it_Lw_board 2 (f2 := (42, [some (.ref pa), some (.ref qa), some (.int (nI (9 * m))), some (.long (lN (qtr F m i))), none, some (.int (nI (9 * m + i)))], [.int (nI 0), .long (lN (qtr F m i) * (128))])) rfl ?_
        have e9 : nI 0 = nI (F (9 * m + i)) := by rw [hz]
        rw [e9]
        refine Z_run C it_Lw_board 1 (f2 := (43, [some (.ref pa), some (.ref qa), some (.int (nI (9 * m))), some (.long (lN (qtr F m i))), none, some (.int (nI (9 * m + i)))], [.long ((nI (F (9 * m + i))).toInt64), .long (lN (qtr F m i) * (128))])) rfl ?_
        have e3 : (nI (F (9 * m + i))).toInt64 = lN (F (9 * m + i)) := i2l_n (by omega)
        rw [e3]
        refine Z_run C it_Lw_board 1 (f2 := (44, [some (.ref pa), some (.ref qa), some (.int (nI (9 * m))), some (.long (lN (qtr F m i))), none, some (.int (nI (9 * m + i)))], [.long ((lN (qtr F m i) * (128)) + lN (F (9 * m + i)))])) rfl ?_
        have e4 : (lN (qtr F m i) * (128)) + lN (F (9 * m + i)) = lN (qtr F m (i + 1)) := by rw [lN_mul128, lN_add, mul_or (hFb (by omega)), ← qtr_e, show m * 36 / 4 + i = 9 * m + i by omega]
        rw [e4]
        refine Z_run C it_Lw_board 2 (f2 := (48, [some (.ref pa), some (.ref qa), some (.int (nI (9 * m))), some (.long (lN (qtr F m (i + 1)))), none, some (.int (nI (9 * m + i) + nI 1))], [])) rfl ?_
        rw [nI_add (9 * m + i) 1]
        refine Z_run C it_Lw_board 1 (f2 := (5, [some (.ref pa), some (.ref qa), some (.int (nI (9 * m))), some (.long (lN (qtr F m (i + 1)))), none, some (.int (nI (9 * m + i + 1)))], [])) rfl ?_
        rw [show 9 * m + i + 1 = 9 * m + (i + 1) by omega]
        exact ih (i + 1) (by omega) (by omega)
set_option maxRecDepth 20000 in
theorem ct_Lw_board {E : zE} (hE : zEv E) {l : Launch} (hl : l.stackTraces = false) (F : Nat → Nat) (pr qr : Nat → Int32) (hpq : okpq F pr qr) (h : aH) (pa qa : Nat) (hp : h pa = some (10, 36, fun k => .int (pr k))) (hq : h qa = some (10, 36, fun k => .int (qr k))) (m : Nat) (hm : m < 4) (sz : Nat) : zM E l y_Lw_board [.code y_Lw_board c_Lw_board 6 (some .long)] rm_Lw_board [.ref pa, .ref qa, .int (nI (9 * m))] h sz (zRet (some (.long (lN (qtr F m 9)))) h sz) := by
  refine zM_of hE hl (by decide +kernel) [some (.ref pa), some (.ref qa), some (.int (nI (9 * m))), none, none, none] ⟨rfl, rfl, Nat.le_of_ble_eq_true rfl⟩ ?_
  intro G C q htb
  refine Z_run C it_Lw_board 4 (f2 := (5, [some (.ref pa), some (.ref qa), some (.int (nI (9 * m))), some (.long (lN 0)), none, some (.int (nI (9 * m)))], [])) rfl ?_
  exact lp_Lw_board C q hpq hp hq hm ⟨rfl, rfl, rfl⟩ 10 0 (by omega) (by omega)
