/-! ===== the model: how often the board came up ===== -/
def unm (G : Nat → Nat) (fr to : Nat) : Nat → Nat := fun k => if k = to then 0 else if k = fr then G to else G k
def eqp (G F : Nat → Nat) : Nat → Bool
  | 0 => true
  | n + 1 => eqp G F n && G n == F n
theorem eqp_f {G F : Nat → Nat} {s : Bool} {n m : Nat} (h : (s && eqp G F n) = false) (hnm : n ≤ m) : (s && eqp G F m) = false := by
  induction m with
  | zero => rw [Nat.le_zero.mp hnm] at h; exact h
  | succ m ih =>
    by_cases e : n = m + 1
    · rw [← e]; exact h
    · have h2 := ih (by omega)
      unfold eqp
      cases s with
      | false => rfl
      | true =>
        rw [Bool.true_and] at h2 ⊢
        rw [h2]
        rfl
/-- how often the board F comes up while j moves are taken back from the x-th on; md moves were made -/
def tmc (F mv : Nat → Nat) (md : Nat) : Nat → Nat → (Nat → Nat) → Nat
  | 0, _, _ => 0
  | j + 1, x, G => (if ((md - (x - 1)) % 2 == 0 && eqp (unm G (mv (x - 1) / 36) (mv (x - 1) % 36)) F 36) = true then 1 else 0) + tmc F mv md j (x - 1) (unm G (mv (x - 1) / 36) (mv (x - 1) % 36))
theorem tmc_le {F mv : Nat → Nat} {md : Nat} : ∀ {j x : Nat} {G : Nat → Nat}, tmc F mv md j x G ≤ j := by
  intro j
  induction j with
  | zero => intro x G; exact Nat.le_refl 0
  | succ j ih =>
    intro x G
    have := ih (x := x - 1) (G := unm G (mv (x - 1) / 36) (mv (x - 1) % 36))
    unfold tmc
    split <;> omega
theorem nI_pml {x b : Nat} (hx : x < 2 ^ 31) (hb : b < 2 ^ 31) : (nI x - nI 1 < nI b ↔ x ≤ b) := by
  by_cases h0 : x = 0
  · subst h0
    refine ⟨fun _ => Nat.zero_le _, fun _ => ?_⟩
    by_cases h1 : b = 0
    · subst h1; decide
    · exact Int32.lt_trans (show nI 0 - nI 1 < nI 0 by decide) ((nI_ltI (by decide) hb).mpr (by omega))
  · rw [nI_sub (by omega), nI_ltI (by omega) hb]
    omega
theorem mo_inj {p s : Nat} (hp : p < 128) (hs : s < 128) : nI (mo p) = nI (mo s) ↔ p = s := by
  have h1 := mo_lt hp
  have h2 := mo_lt hs
  rw [nI_eq (by omega) (by omega)]
  unfold mo
  split <;> split <;> omega
theorem hz_un {V : Nat → Nat → Int32} {G : Nat → Nat} {fr to : Nat} (hz : ∀ j, j < 36 → V 41 j = nI (mo (G j))) (ht : to < 36) : ∀ j, j < 36 → (vset (vset V 41 fr (nI (mo (G to)))) 41 to (nI 0)) 41 j = nI (mo (unm G fr to j)) := by
  intro j hj
  rw [vset_s, vset_s]
  unfold upd unm
  by_cases h1 : j = to
  · rw [if_pos h1, if_pos h1]
    rfl
  · rw [if_neg h1, if_neg h1]
    by_cases h2 : j = fr
    · rw [if_pos h2, if_pos h2]
    · rw [if_neg h2, if_neg h2]
      exact hz j hj
theorem okF_un {G : Nat → Nat} {fr to : Nat} (h : okF G) (ht : to < 36) : okF (unm G fr to) := fun k hk => by
  unfold unm
  split
  · omega
  · split
    · exact h to ht
    · exact h k hk
def tmM (F mv : Nat → Nat) (md bs : Nat) : Nat := 1 + tmc F mv md (md - bs) md F
set_option maxRecDepth 20000 in
theorem lp_Mm_times0 {E : zE} {G : zG} {O : zO} (C : zCx E G c_Mm_times 7 y_Mm_times.cls y_Mm_times.name (some .int) rm_Mm_times) (q : zEndX E G O rm_Mm_times.cells rm_Mm_times.slots)  {D : zD} (hD : zDok E D) {V : Nat → Nat → Int32} {P : Nat → Nat → Value} {PH : aH} {sz : Nat} (kk : Z E G (HM D (vrow V 41 (rcp (V 41) (V 38) 0 0 36)) P PH) sz 0 0 (26, [some (.ref (D.1 37)), none, none, none, none, none, none], [])) : ∀ (j i : Nat), 36 - i < j → i ≤ 36 → Z E G (HM D (vrow V 41 (rcp (V 41) (V 38) 0 0 i)) P PH) sz 0 0 (2, [some (.ref (D.1 37)), some (.int (nI i)), none, none, none, none, none], []) := by
  intro j
  induction j with
  | zero =>
    intro i h1 h2
    omega
  | succ j ih =>
    intro i h1 h2
    refine Z_run C it_Mm_times 2 (f2 := (5, [some (.ref (D.1 37)), some (.int (nI i)), none, none, none, none, none], [.int (nI 36), .int (nI i)])) rfl ?_
    refine Z_br C it_Mm_times rfl rfl (fun hc1 => ?_) (fun hc1 => ?_)
    · replace hc1 := (nI_leI (a := 36) (b := i) (by omega) (by omega)).mp hc1
      have h36 : i = 36 := by omega
      rw [h36]
      refine Z_sub (ls2 := [some (.ref (D.1 37)), none, none, none, none, none, none]) (by simp [zsubl]) ?_
      exact kk
    · replace hc1 : ¬ _ := fun z9 => hc1 ((nI_leI (a := 36) (b := i) (by omega) (by omega)).mpr z9)
      refine Z_run C it_Mm_times 1 (f2 := (9, [some (.ref (D.1 37)), some (.int (nI i)), none, none, none, none, none], [.ref (D.1 37)])) rfl ?_
      refine Zm_get C it_Mm_times hD rfl 37 wi_Mm (by decide) rfl rfl (j := 4) (by decide) fl_Mm_19 (v := .ref (D.1 41)) rfl ?_
      refine Z_run C it_Mm_times 2 (f2 := (14, [some (.ref (D.1 37)), some (.int (nI i)), none, none, none, none, none], [.ref (D.1 37), .int (nI i), .ref (D.1 41)])) rfl ?_
      refine Zm_get C it_Mm_times hD rfl 37 wi_Mm (by decide) rfl rfl (j := 0) (by decide) fl_Mm_7 (v := .ref (D.1 38)) rfl ?_
      refine Z_run C it_Mm_times 1 (f2 := (18, [some (.ref (D.1 37)), some (.int (nI i)), none, none, none, none, none], [.int (nI i), .ref (D.1 38), .int (nI i), .ref (D.1 41)])) rfl ?_
      refine Zm_ald C it_Mm_times hD 38 10 rfl (by decide) rfl (by decide) (by decide) rfl (j := i) (by omega) (v := .int ((vrow V 41 (rcp (V 41) (V 38) 0 0 i)) 38 i)) rfl ?_
      refine Zm_ast C it_Mm_times hD 41 10 rfl (by first | decide | exact isB_k hb | omega) rfl (by decide) rfl (j := i) (by omega) trivial rfl ?_
      rw [vset_row (x := (vrow V 41 (rcp (V 41) (V 38) 0 0 i)) 38 i) (r2 := rcp (V 41) (V 38) 0 0 (i + 1)) (rcp_s0 rfl)]
      refine Z_run C it_Mm_times 1 (f2 := (23, [some (.ref (D.1 37)), some (.int (nI i + nI 1)), none, none, none, none, none], [])) rfl ?_
      rw [nI_add i 1]
      refine Z_run C it_Mm_times 1 (f2 := (2, [some (.ref (D.1 37)), some (.int (nI (i + 1))), none, none, none, none, none], [])) rfl ?_
      exact ih (i + 1) (by omega) (by omega)
set_option maxRecDepth 20000 in
theorem lp_Mm_times2 {E : zE} {G : zG} {O : zO} (C : zCx E G c_Mm_times 7 y_Mm_times.cls y_Mm_times.name (some .int) rm_Mm_times) (q : zEndX E G O rm_Mm_times.cells rm_Mm_times.slots)  {D : zD} (hD : zDok E D) {V : Nat → Nat → Int32} {P : Nat → Nat → Value} {PH : aH} {F : Nat → Nat} (hF : okF F) (hz : ∀ k, k < 36 → V 38 k = nI (mo (F k))) {G9 : Nat → Nat} (hG : okF G9) (hzs : ∀ k, k < 36 → V 41 k = nI (mo (G9 k))) {s0 : Bool} {x1 x2 x3 x4 : Int32} {sz : Nat} (kk : Z E G (HM D V P PH) sz 0 0 (157, [some (.ref (D.1 37)), some (.int x1), some (.int x2), some (.int x3), some (.int x4), some (.int (bI (s0 && eqp G9 F 36))), none], [])) : ∀ (j i : Nat), 36 - i < j → i ≤ 36 → Z E G (HM D V P PH) sz 0 0 (115, [some (.ref (D.1 37)), some (.int x1), some (.int x2), some (.int x3), some (.int x4), some (.int (bI (s0 && eqp G9 F i))), some (.int (nI i))], []) := by
  intro j
  induction j with
  | zero => intro i h1 h2; omega
  | succ j ih =>
    intro i h1 h2
    refine Z_run C it_Mm_times 2 (f2 := (119, [some (.ref (D.1 37)), some (.int x1), some (.int x2), some (.int x3), some (.int x4), some (.int (bI (s0 && eqp G9 F i))), some (.int (nI i))], [.int (nI 36), .int (nI i)])) rfl ?_
    refine Z_br C it_Mm_times rfl rfl (fun hc1 => ?_) (fun hc1 => ?_)
    · replace hc1 := (nI_leI (a := 36) (b := i) (by omega) (by omega)).mp hc1
      refine Z_sub (ls2 := [some (.ref (D.1 37)), some (.int x1), some (.int x2), some (.int x3), some (.int x4), some (.int (bI (s0 && eqp G9 F i))), none]) (by simp [zsubl]) ?_
      have e9 : (s0 && eqp G9 F i) = (s0 && eqp G9 F 36) := by first | (rw [show i = 36 by omega]; done) | (rw [hc2, eqp_f hc2 (by omega)])
      rw [e9]
      exact kk
    · replace hc1 : ¬ _ := fun z9 => hc1 ((nI_leI (a := 36) (b := i) (by omega) (by omega)).mpr z9)
      refine Z_run C it_Mm_times 1 (f2 := (124, [some (.ref (D.1 37)), some (.int x1), some (.int x2), some (.int x3), some (.int x4), some (.int (bI (s0 && eqp G9 F i))), some (.int (nI i))], [.int (bI (s0 && eqp G9 F i))])) rfl ?_
      refine Z_br C it_Mm_times rfl rfl (fun hc2 => ?_) (fun hc2 => ?_)
      · replace hc2 := bI_0.mp hc2
        refine Z_sub (ls2 := [some (.ref (D.1 37)), some (.int x1), some (.int x2), some (.int x3), some (.int x4), some (.int (bI (s0 && eqp G9 F i))), none]) (by simp [zsubl]) ?_
        have e9 : (s0 && eqp G9 F i) = (s0 && eqp G9 F 36) := by first | (rw [show i = 36 by omega]; done) | (rw [hc2, eqp_f hc2 (by omega)])
        rw [e9]
        exact kk
      · replace hc2 := bI_1.mp hc2
        refine Z_run C it_Mm_times 1 (f2 := (128, [some (.ref (D.1 37)), some (.int x1), some (.int x2), some (.int x3), some (.int x4), some (.int (bI (s0 && eqp G9 F i))), some (.int (nI i))], [.ref (D.1 37)])) rfl ?_
        refine Zm_get C it_Mm_times hD rfl 37 wi_Mm (by decide) rfl rfl (j := 4) (by decide) fl_Mm_19 (v := .ref (D.1 41)) rfl ?_
        refine Z_run C it_Mm_times 1 (f2 := (133, [some (.ref (D.1 37)), some (.int x1), some (.int x2), some (.int x3), some (.int x4), some (.int (bI (s0 && eqp G9 F i))), some (.int (nI i))], [.int (nI i), .ref (D.1 41)])) rfl ?_
        refine Zm_ald C it_Mm_times hD 41 10 rfl (by decide) rfl (by decide) (by decide) rfl (j := i) (by omega) (v := .int (nI (mo (G9 i)))) (congrArg Value.int (hzs i (by omega))) ?_
        refine Z_run C it_Mm_times 1 (f2 := (135, [some (.ref (D.1 37)), some (.int x1), some (.int x2), some (.int x3), some (.int x4), some (.int (bI (s0 && eqp G9 F i))), some (.int (nI i))], [.ref (D.1 37), .int (nI (mo (G9 i)))])) rfl ?_
        refine Zm_get C it_Mm_times hD rfl 37 wi_Mm (by decide) rfl rfl (j := 0) (by decide) fl_Mm_7 (v := .ref (D.1 38)) rfl ?_
        refine Z_run C it_Mm_times 1 (f2 := (140, [some (.ref (D.1 37)), some (.int x1), some (.int x2), some (.int x3), some (.int x4), some (.int (bI (s0 && eqp G9 F i))), some (.int (nI i))], [.int (nI i), .ref (D.1 38), .int (nI (mo (G9 i)))])) rfl ?_
        refine Zm_ald C it_Mm_times hD 38 10 rfl (by decide) rfl (by decide) (by decide) rfl (j := i) (by omega) (v := .int (nI (mo (F i)))) (congrArg Value.int (hz i (by omega))) ?_
        refine Z_br C it_Mm_times rfl rfl (fun hc3 => ?_) (fun hc3 => ?_)
        · have hE : ¬ G9 i = F i := fun z9 => hc3 ((mo_inj (hG i (by omega)) (hF i (by omega))).mpr z9)
          refine Z_run C it_Mm_times 3 (f2 := (154, [some (.ref (D.1 37)), some (.int x1), some (.int x2), some (.int x3), some (.int x4), some (.int (nI 0)), some (.int (nI i + nI 1))], [])) rfl ?_
          rw [nI_add i 1]
          refine Z_run C it_Mm_times 1 (f2 := (115, [some (.ref (D.1 37)), some (.int x1), some (.int x2), some (.int x3), some (.int x4), some (.int (nI 0)), some (.int (nI (i + 1)))], [])) rfl ?_
          have z5 : (s0 && eqp G9 F (i + 1)) = false := by unfold eqp; rw [← Bool.and_assoc, hc2]; simp [hE]
          have e5 : nI 0 = bI (s0 && eqp G9 F (i + 1)) := by rw [z5]; rfl
          refine (congrArg (fun z9 => Z E G (HM D V P PH) sz 0 0 (115, [some (.ref (D.1 37)), some (.int x1), some (.int x2), some (.int x3), some (.int x4), some (.int z9), some (.int (nI (i + 1)))], [])) e5).mpr ?_
          exact ih (i + 1) (by omega) (by omega)
        · have hE : G9 i = F i := (mo_inj (hG i (by omega)) (hF i (by omega))).mp (Classical.not_not.mp hc3)
          refine Z_run C it_Mm_times 4 (f2 := (154, [some (.ref (D.1 37)), some (.int x1), some (.int x2), some (.int x3), some (.int x4), some (.int (nI 1)), some (.int (nI i + nI 1))], [])) rfl ?_
          rw [nI_add i 1]
          refine Z_run C it_Mm_times 1 (f2 := (115, [some (.ref (D.1 37)), some (.int x1), some (.int x2), some (.int x3), some (.int x4), some (.int (nI 1)), some (.int (nI (i + 1)))], [])) rfl ?_
          have z5 : (s0 && eqp G9 F (i + 1)) = true := by unfold eqp; rw [← Bool.and_assoc, hc2]; simp [hE]
          have e5 : nI 1 = bI (s0 && eqp G9 F (i + 1)) := by rw [z5]; rfl
          refine (congrArg (fun z9 => Z E G (HM D V P PH) sz 0 0 (115, [some (.ref (D.1 37)), some (.int x1), some (.int x2), some (.int x3), some (.int x4), some (.int z9), some (.int (nI (i + 1)))], [])) e5).mpr ?_
          exact ih (i + 1) (by omega) (by omega)
set_option maxRecDepth 20000 in
set_option maxHeartbeats 1000000 in
theorem lp_Mm_times1 {E : zE} {G : zG} {O : zO} (C : zCx E G c_Mm_times 7 y_Mm_times.cls y_Mm_times.name (some .int) rm_Mm_times) (q : zEndX E G O rm_Mm_times.cells rm_Mm_times.slots)  {D : zD} (hD : zDok E D) {V0 : Nat → Nat → Int32} {P : Nat → Nat → Value} {PH : aH} {F : Nat → Nat} (hF : okF F) {mv : Nat → Nat} {md bs r sz : Nat} (hmd9 : md ≤ 6300) (hbm : bs ≤ md) (hml : ∀ k, k < md → mv k < 1296) (hO : ∀ V2 : Nat → Nat → Int32, (∀ c, c ≠ 41 → V2 c = V0 c) → O (.inl (some (.int (nI r)))) (HM D V2 P PH) sz) : ∀ (j x acc : Nat) (G9 : Nat → Nat) (V : Nat → Nat → Int32), (∀ k, k < 36 → V 38 k = nI (mo (F k))) → okF G9 → (∀ k, k < 36 → V 41 k = nI (mo (G9 k))) → (∀ c, c ≠ 41 → V c = V0 c) → V 38 40 = nI md → V 38 41 = nI bs → (∀ k, k < md → V 40 k = nI (mv k)) → x < j → x ≤ md → acc + x ≤ md + 1 → acc + tmc F mv md (x - bs) x G9 = r → Z E G (HM D V P PH) sz 0 0 (38, [some (.ref (D.1 37)), some (.int (nI acc)), some (.int (nI x - nI 1)), none, none, none, none], []) := by
  intro j
  induction j with
  | zero => intro x acc G9 V hz hG hzs hV hmd hbs hmv h1 h2 h3 hr; omega
  | succ j ih =>
    intro x acc G9 V hz hG hzs hV hmd hbs hmv h1 h2 h3 hr
    refine Z_run C it_Mm_times 2 (f2 := (40, [some (.ref (D.1 37)), some (.int (nI acc)), some (.int (nI x - nI 1)), none, none, none, none], [.ref (D.1 37), .int (nI x - nI 1)])) rfl ?_
    refine Zm_get C it_Mm_times hD rfl 37 wi_Mm (by decide) rfl rfl (j := 0) (by decide) fl_Mm_7 (v := .ref (D.1 38)) rfl ?_
    refine Z_run C it_Mm_times 1 (f2 := (45, [some (.ref (D.1 37)), some (.int (nI acc)), some (.int (nI x - nI 1)), none, none, none, none], [.int (nI 41), .ref (D.1 38), .int (nI x - nI 1)])) rfl ?_
    refine Zm_ald C it_Mm_times hD 38 10 rfl (by decide) rfl (by decide) (by decide) rfl (j := 41) (by omega) (v := .int (nI bs)) (congrArg Value.int hbs) ?_
    refine Z_br C it_Mm_times rfl rfl (fun hc1 => ?_) (fun hc1 => ?_)
    · have hxb : x ≤ bs := (nI_pml (by omega) (by omega)).mp hc1
      refine Z_run C it_Mm_times 1 (f2 := (177, [some (.ref (D.1 37)), some (.int (nI acc)), some (.int (nI x - nI 1)), none, none, none, none], [.int (nI acc)])) rfl ?_
      exact Z_iret C q.e it_Mm_times rfl (by rw [show x - bs = 0 by omega] at hr; rw [show acc = r from hr]; exact hO V hV) (by decide) (by decide)
    · have hxb : ¬ x ≤ bs := fun z9 => hc1 ((nI_pml (by omega) (by omega)).mpr z9)
      have hm9 := hml (x - 1) (by omega)
      have e1 : nI x - nI 1 = nI (x - 1) := nI_sub (by omega)
      rw [e1]
      refine Z_run C it_Mm_times 1 (f2 := (50, [some (.ref (D.1 37)), some (.int (nI acc)), some (.int (nI (x - 1))), none, none, none, none], [.ref (D.1 37)])) rfl ?_
      refine Zm_get C it_Mm_times hD rfl 37 wi_Mm (by decide) rfl rfl (j := 3) (by decide) fl_Mm_16 (v := .ref (D.1 40)) rfl ?_
      refine Z_run C it_Mm_times 1 (f2 := (54, [some (.ref (D.1 37)), some (.int (nI acc)), some (.int (nI (x - 1))), none, none, none, none], [.int (nI (x - 1)), .ref (D.1 40)])) rfl ?_
      refine Zm_ald C it_Mm_times hD 40 10 rfl (by decide) rfl (by decide) (by decide) rfl (j := x - 1) (by omega) (v := .int (nI (mv (x - 1)))) (congrArg Value.int (hmv (x - 1) (by omega))) ?_
      refine Z_run C it_Mm_times 2 (f2 := (58, [some (.ref (D.1 37)), some (.int (nI acc)), some (.int (nI (x - 1))), none, none, none, none], [.int (nI (mv (x - 1)) / nI 36)])) rfl ?_
      rw [nI_div (a := mv (x - 1)) (d := 36) (by omega) (by omega) (by omega)]
      refine Z_run C it_Mm_times 2 (f2 := (60, [some (.ref (D.1 37)), some (.int (nI acc)), some (.int (nI (x - 1))), some (.int (nI ((mv (x - 1)) / 36))), none, none, none], [.ref (D.1 37)])) rfl ?_
      refine Zm_get C it_Mm_times hD rfl 37 wi_Mm (by decide) rfl rfl (j := 3) (by decide) fl_Mm_16 (v := .ref (D.1 40)) rfl ?_
      refine Z_run C it_Mm_times 1 (f2 := (64, [some (.ref (D.1 37)), some (.int (nI acc)), some (.int (nI (x - 1))), some (.int (nI ((mv (x - 1)) / 36))), none, none, none], [.int (nI (x - 1)), .ref (D.1 40)])) rfl ?_
      refine Zm_ald C it_Mm_times hD 40 10 rfl (by decide) rfl (by decide) (by decide) rfl (j := x - 1) (by omega) (v := .int (nI (mv (x - 1)))) (congrArg Value.int (hmv (x - 1) (by omega))) ?_
      refine Z_run C it_Mm_times 2 (f2 := (68, [some (.ref (D.1 37)), some (.int (nI acc)), some (.int (nI (x - 1))), some (.int (nI ((mv (x - 1)) / 36))), none, none, none], [.int (nI (mv (x - 1)) % nI 36)])) rfl ?_
      rw [nI_mod (a := mv (x - 1)) (d := 36) (by omega) (by omega) (by omega)]
      refine Z_run C it_Mm_times 2 (f2 := (71, [some (.ref (D.1 37)), some (.int (nI acc)), some (.int (nI (x - 1))), some (.int (nI ((mv (x - 1)) / 36))), some (.int (nI ((mv (x - 1)) % 36))), none, none], [.ref (D.1 37)])) rfl ?_
      refine Zm_get C it_Mm_times hD rfl 37 wi_Mm (by decide) rfl rfl (j := 4) (by decide) fl_Mm_19 (v := .ref (D.1 41)) rfl ?_
      refine Z_run C it_Mm_times 2 (f2 := (76, [some (.ref (D.1 37)), some (.int (nI acc)), some (.int (nI (x - 1))), some (.int (nI ((mv (x - 1)) / 36))), some (.int (nI ((mv (x - 1)) % 36))), none, none], [.ref (D.1 37), .int (nI ((mv (x - 1)) / 36)), .ref (D.1 41)])) rfl ?_
      refine Zm_get C it_Mm_times hD rfl 37 wi_Mm (by decide) rfl rfl (j := 4) (by decide) fl_Mm_19 (v := .ref (D.1 41)) rfl ?_
      refine Z_run C it_Mm_times 1 (f2 := (81, [some (.ref (D.1 37)), some (.int (nI acc)), some (.int (nI (x - 1))), some (.int (nI ((mv (x - 1)) / 36))), some (.int (nI ((mv (x - 1)) % 36))), none, none], [.int (nI ((mv (x - 1)) % 36)), .ref (D.1 41), .int (nI ((mv (x - 1)) / 36)), .ref (D.1 41)])) rfl ?_
      refine Zm_ald C it_Mm_times hD 41 10 rfl (by decide) rfl (by decide) (by decide) rfl (j := (mv (x - 1)) % 36) (by omega) (v := .int (nI (mo (G9 ((mv (x - 1)) % 36))))) (congrArg Value.int (hzs ((mv (x - 1)) % 36) (by omega))) ?_
      refine Zm_ast C it_Mm_times hD 41 10 rfl (by first | decide | exact isB_k hb | omega) rfl (by decide) rfl (j := (mv (x - 1)) / 36) (by omega) trivial rfl ?_
      refine Z_run C it_Mm_times 1 (f2 := (84, [some (.ref (D.1 37)), some (.int (nI acc)), some (.int (nI (x - 1))), some (.int (nI ((mv (x - 1)) / 36))), some (.int (nI ((mv (x - 1)) % 36))), none, none], [.ref (D.1 37)])) rfl ?_
      refine Zm_get C it_Mm_times hD rfl 37 wi_Mm (by decide) rfl rfl (j := 4) (by decide) fl_Mm_19 (v := .ref (D.1 41)) rfl ?_
      refine Z_run C it_Mm_times 2 (f2 := (90, [some (.ref (D.1 37)), some (.int (nI acc)), some (.int (nI (x - 1))), some (.int (nI ((mv (x - 1)) / 36))), some (.int (nI ((mv (x - 1)) % 36))), none, none], [.int (nI 0), .int (nI ((mv (x - 1)) % 36)), .ref (D.1 41)])) rfl ?_
      refine Zm_ast C it_Mm_times hD 41 10 rfl (by first | decide | exact isB_k hb | omega) rfl (by decide) rfl (j := (mv (x - 1)) % 36) (by omega) trivial rfl ?_
      have hz2 : ∀ k, k < 36 → (vset (vset V 41 ((mv (x - 1)) / 36) (nI (mo (G9 ((mv (x - 1)) % 36))))) 41 ((mv (x - 1)) % 36) (nI 0)) 41 k = nI (mo ((unm G9 (mv (x - 1) / 36) (mv (x - 1) % 36)) k)) := hz_un hzs (by omega)
      have hG2 : okF (unm G9 (mv (x - 1) / 36) (mv (x - 1) % 36)) := okF_un hG (by omega)
      refine Z_run C it_Mm_times 1 (f2 := (92, [some (.ref (D.1 37)), some (.int (nI acc)), some (.int (nI (x - 1))), some (.int (nI ((mv (x - 1)) / 36))), some (.int (nI ((mv (x - 1)) % 36))), none, none], [.ref (D.1 37)])) rfl ?_
      refine Zm_get C it_Mm_times hD rfl 37 wi_Mm (by decide) rfl rfl (j := 0) (by decide) fl_Mm_7 (v := .ref (D.1 38)) rfl ?_
      refine Z_run C it_Mm_times 1 (f2 := (97, [some (.ref (D.1 37)), some (.int (nI acc)), some (.int (nI (x - 1))), some (.int (nI ((mv (x - 1)) / 36))), some (.int (nI ((mv (x - 1)) % 36))), none, none], [.int (nI 40), .ref (D.1 38)])) rfl ?_
      refine Zm_ald C it_Mm_times hD 38 10 rfl (by decide) rfl (by decide) (by decide) rfl (j := 40) (by omega) (v := .int (nI md)) (congrArg Value.int hmd) ?_
      refine Z_run C it_Mm_times 2 (f2 := (100, [some (.ref (D.1 37)), some (.int (nI acc)), some (.int (nI (x - 1))), some (.int (nI ((mv (x - 1)) / 36))), some (.int (nI ((mv (x - 1)) % 36))), none, none], [.int (nI md - nI (x - 1))])) rfl ?_
      have e2 : nI md - nI (x - 1) = nI (md - (x - 1)) := nI_sub (by omega)
      rw [e2]
      refine Z_run C it_Mm_times 2 (f2 := (102, [some (.ref (D.1 37)), some (.int (nI acc)), some (.int (nI (x - 1))), some (.int (nI ((mv (x - 1)) / 36))), some (.int (nI ((mv (x - 1)) % 36))), none, none], [.int (nI (md - (x - 1)) % nI 2)])) rfl ?_
      rw [nI_mod (a := md - (x - 1)) (d := 2) (by omega) (by omega) (by omega)]
      refine Z_br C it_Mm_times rfl rfl (fun hc2 => ?_) (fun hc2 => ?_)
      · replace hc2 : ¬ _ := fun z9 => hc2 ((nI_e0 (a := (md - (x - 1)) % 2) (by omega)).mpr z9)
        refine Z_run C it_Mm_times 2 (f2 := (112, [some (.ref (D.1 37)), some (.int (nI acc)), some (.int (nI (x - 1))), some (.int (nI ((mv (x - 1)) / 36))), some (.int (nI ((mv (x - 1)) % 36))), some (.int (nI 0)), none], [])) rfl ?_
        have z5 : ((md - (x - 1)) % 2 == 0) = false := by simp [hc2]
        have e5 : nI 0 = bI (((md - (x - 1)) % 2 == 0) && eqp (unm G9 (mv (x - 1) / 36) (mv (x - 1) % 36)) F 0) := by rw [z5]; rfl
        refine (congrArg (fun z9 => Z E G (HM D (vset (vset V 41 ((mv (x - 1)) / 36) (nI (mo (G9 ((mv (x - 1)) % 36))))) 41 ((mv (x - 1)) % 36) (nI 0)) P PH) sz 0 0 (112, [some (.ref (D.1 37)), some (.int (nI acc)), some (.int (nI (x - 1))), some (.int (nI ((mv (x - 1)) / 36))), some (.int (nI ((mv (x - 1)) % 36))), some (.int z9), none], [])) e5).mpr ?_
        refine Z_run C it_Mm_times 2 (f2 := (115, [some (.ref (D.1 37)), some (.int (nI acc)), some (.int (nI (x - 1))), some (.int (nI ((mv (x - 1)) / 36))), some (.int (nI ((mv (x - 1)) % 36))), some (.int (bI (((md - (x - 1)) % 2 == 0) && eqp (unm G9 (mv (x - 1) / 36) (mv (x - 1) % 36)) F 0))), some (.int (nI 0))], [])) rfl ?_
        refine lp_Mm_times2 C q hD hF (V := (vset (vset V 41 ((mv (x - 1)) / 36) (nI (mo (G9 ((mv (x - 1)) % 36))))) 41 ((mv (x - 1)) % 36) (nI 0))) hz hG2 hz2 ?_ 37 0 (by omega) (by omega)
        show Z E G (HM D (vset (vset V 41 ((mv (x - 1)) / 36) (nI (mo (G9 ((mv (x - 1)) % 36))))) 41 ((mv (x - 1)) % 36) (nI 0)) P PH) sz 0 0 (157, [some (.ref (D.1 37)), some (.int (nI acc)), some (.int (nI (x - 1))), some (.int (nI ((mv (x - 1)) / 36))), some (.int (nI ((mv (x - 1)) % 36))), some (.int (bI (((md - (x - 1)) % 2 == 0) && eqp (unm G9 (mv (x - 1) / 36) (mv (x - 1) % 36)) F 36))), none], [])
        refine Z_run C it_Mm_times 2 (f2 := (160, [some (.ref (D.1 37)), some (.int (nI acc)), some (.int (nI (x - 1))), some (.int (nI ((mv (x - 1)) / 36))), some (.int (nI ((mv (x - 1)) % 36))), some (.int (bI (((md - (x - 1)) % 2 == 0) && eqp (unm G9 (mv (x - 1) / 36) (mv (x - 1) % 36)) F 36))), none], [.int (bI (((md - (x - 1)) % 2 == 0) && eqp (unm G9 (mv (x - 1) / 36) (mv (x - 1) % 36)) F 36)), .int (nI acc)])) rfl ?_
        refine Z_br C it_Mm_times rfl rfl (fun hc3 => ?_) (fun hc3 => ?_)
        · have hfl := bI_0.mp hc3
          refine Z_run C it_Mm_times 2 (f2 := (169, [some (.ref (D.1 37)), some (.int (nI acc)), some (.int (nI (x - 1))), some (.int (nI ((mv (x - 1)) / 36))), some (.int (nI ((mv (x - 1)) % 36))), some (.int (bI (((md - (x - 1)) % 2 == 0) && eqp (unm G9 (mv (x - 1) / 36) (mv (x - 1) % 36)) F 36))), none], [.int (nI acc + nI 0)])) rfl ?_
          rw [nI_add acc 0]
          refine Z_run C it_Mm_times 3 (f2 := (38, [some (.ref (D.1 37)), some (.int (nI (acc + 0))), some (.int (nI (x - 1) + (-1))), some (.int (nI ((mv (x - 1)) / 36))), some (.int (nI ((mv (x - 1)) % 36))), some (.int (bI (((md - (x - 1)) % 2 == 0) && eqp (unm G9 (mv (x - 1) / 36) (mv (x - 1) % 36)) F 36))), none], [])) rfl ?_
          rw [nI_dec]
          refine Z_sub (ls2 := [some (.ref (D.1 37)), some (.int (nI (acc + 0))), some (.int (nI (x - 1) - nI 1)), none, none, none, none]) (by simp [zsubl]) ?_
          exact ih (x - 1) (acc + 0) (unm G9 (mv (x - 1) / 36) (mv (x - 1) % 36)) (vset (vset V 41 ((mv (x - 1)) / 36) (nI (mo (G9 ((mv (x - 1)) % 36))))) 41 ((mv (x - 1)) % 36) (nI 0)) hz hG2 hz2 (fun c hc => by rw [vset_n hc, vset_n hc]; exact hV c hc) hmd hbs hmv (by omega) (by omega) (by omega) (by rw [show x - bs = (x - 1 - bs) + 1 by omega] at hr; unfold tmc at hr; rw [hfl] at hr; rw [if_neg (by decide)] at hr; omega)
        · have hfl := bI_1.mp hc3
          refine Z_run C it_Mm_times 3 (f2 := (169, [some (.ref (D.1 37)), some (.int (nI acc)), some (.int (nI (x - 1))), some (.int (nI ((mv (x - 1)) / 36))), some (.int (nI ((mv (x - 1)) % 36))), some (.int (bI (((md - (x - 1)) % 2 == 0) && eqp (unm G9 (mv (x - 1) / 36) (mv (x - 1) % 36)) F 36))), none], [.int (nI acc + nI 1)])) rfl ?_
          rw [nI_add acc 1]
          refine Z_run C it_Mm_times 3 (f2 := (38, [some (.ref (D.1 37)), some (.int (nI (acc + 1))), some (.int (nI (x - 1) + (-1))), some (.int (nI ((mv (x - 1)) / 36))), some (.int (nI ((mv (x - 1)) % 36))), some (.int (bI (((md - (x - 1)) % 2 == 0) && eqp (unm G9 (mv (x - 1) / 36) (mv (x - 1) % 36)) F 36))), none], [])) rfl ?_
          rw [nI_dec]
          refine Z_sub (ls2 := [some (.ref (D.1 37)), some (.int (nI (acc + 1))), some (.int (nI (x - 1) - nI 1)), none, none, none, none]) (by simp [zsubl]) ?_
          exact ih (x - 1) (acc + 1) (unm G9 (mv (x - 1) / 36) (mv (x - 1) % 36)) (vset (vset V 41 ((mv (x - 1)) / 36) (nI (mo (G9 ((mv (x - 1)) % 36))))) 41 ((mv (x - 1)) % 36) (nI 0)) hz hG2 hz2 (fun c hc => by rw [vset_n hc, vset_n hc]; exact hV c hc) hmd hbs hmv (by omega) (by omega) (by omega) (by rw [show x - bs = (x - 1 - bs) + 1 by omega] at hr; unfold tmc at hr; rw [hfl] at hr; rw [if_pos rfl] at hr; omega)
      · replace hc2 := Classical.not_not.mp hc2
        replace hc2 := (nI_e0 (a := (md - (x - 1)) % 2) (by omega)).mp hc2
        refine Z_run C it_Mm_times 3 (f2 := (112, [some (.ref (D.1 37)), some (.int (nI acc)), some (.int (nI (x - 1))), some (.int (nI ((mv (x - 1)) / 36))), some (.int (nI ((mv (x - 1)) % 36))), some (.int (nI 1)), none], [])) rfl ?_
        have z5 : ((md - (x - 1)) % 2 == 0) = true := by simp [hc2]
        have e5 : nI 1 = bI (((md - (x - 1)) % 2 == 0) && eqp (unm G9 (mv (x - 1) / 36) (mv (x - 1) % 36)) F 0) := by rw [z5]; rfl
        refine (congrArg (fun z9 => Z E G (HM D (vset (vset V 41 ((mv (x - 1)) / 36) (nI (mo (G9 ((mv (x - 1)) % 36))))) 41 ((mv (x - 1)) % 36) (nI 0)) P PH) sz 0 0 (112, [some (.ref (D.1 37)), some (.int (nI acc)), some (.int (nI (x - 1))), some (.int (nI ((mv (x - 1)) / 36))), some (.int (nI ((mv (x - 1)) % 36))), some (.int z9), none], [])) e5).mpr ?_
        refine Z_run C it_Mm_times 2 (f2 := (115, [some (.ref (D.1 37)), some (.int (nI acc)), some (.int (nI (x - 1))), some (.int (nI ((mv (x - 1)) / 36))), some (.int (nI ((mv (x - 1)) % 36))), some (.int (bI (((md - (x - 1)) % 2 == 0) && eqp (unm G9 (mv (x - 1) / 36) (mv (x - 1) % 36)) F 0))), some (.int (nI 0))], [])) rfl ?_
        refine lp_Mm_times2 C q hD hF (V := (vset (vset V 41 ((mv (x - 1)) / 36) (nI (mo (G9 ((mv (x - 1)) % 36))))) 41 ((mv (x - 1)) % 36) (nI 0))) hz hG2 hz2 ?_ 37 0 (by omega) (by omega)
        show Z E G (HM D (vset (vset V 41 ((mv (x - 1)) / 36) (nI (mo (G9 ((mv (x - 1)) % 36))))) 41 ((mv (x - 1)) % 36) (nI 0)) P PH) sz 0 0 (157, [some (.ref (D.1 37)), some (.int (nI acc)), some (.int (nI (x - 1))), some (.int (nI ((mv (x - 1)) / 36))), some (.int (nI ((mv (x - 1)) % 36))), some (.int (bI (((md - (x - 1)) % 2 == 0) && eqp (unm G9 (mv (x - 1) / 36) (mv (x - 1) % 36)) F 36))), none], [])
        refine Z_run C it_Mm_times 2 (f2 := (160, [some (.ref (D.1 37)), some (.int (nI acc)), some (.int (nI (x - 1))), some (.int (nI ((mv (x - 1)) / 36))), some (.int (nI ((mv (x - 1)) % 36))), some (.int (bI (((md - (x - 1)) % 2 == 0) && eqp (unm G9 (mv (x - 1) / 36) (mv (x - 1) % 36)) F 36))), none], [.int (bI (((md - (x - 1)) % 2 == 0) && eqp (unm G9 (mv (x - 1) / 36) (mv (x - 1) % 36)) F 36)), .int (nI acc)])) rfl ?_
        refine Z_br C it_Mm_times rfl rfl (fun hc4 => ?_) (fun hc4 => ?_)
        · have hfl := bI_0.mp hc4
          refine Z_run C it_Mm_times 2 (f2 := (169, [some (.ref (D.1 37)), some (.int (nI acc)), some (.int (nI (x - 1))), some (.int (nI ((mv (x - 1)) / 36))), some (.int (nI ((mv (x - 1)) % 36))), some (.int (bI (((md - (x - 1)) % 2 == 0) && eqp (unm G9 (mv (x - 1) / 36) (mv (x - 1) % 36)) F 36))), none], [.int (nI acc + nI 0)])) rfl ?_
          rw [nI_add acc 0]
          refine Z_run C it_Mm_times 3 (f2 := (38, [some (.ref (D.1 37)), some (.int (nI (acc + 0))), some (.int (nI (x - 1) + (-1))), some (.int (nI ((mv (x - 1)) / 36))), some (.int (nI ((mv (x - 1)) % 36))), some (.int (bI (((md - (x - 1)) % 2 == 0) && eqp (unm G9 (mv (x - 1) / 36) (mv (x - 1) % 36)) F 36))), none], [])) rfl ?_
          rw [nI_dec]
          refine Z_sub (ls2 := [some (.ref (D.1 37)), some (.int (nI (acc + 0))), some (.int (nI (x - 1) - nI 1)), none, none, none, none]) (by simp [zsubl]) ?_
          exact ih (x - 1) (acc + 0) (unm G9 (mv (x - 1) / 36) (mv (x - 1) % 36)) (vset (vset V 41 ((mv (x - 1)) / 36) (nI (mo (G9 ((mv (x - 1)) % 36))))) 41 ((mv (x - 1)) % 36) (nI 0)) hz hG2 hz2 (fun c hc => by rw [vset_n hc, vset_n hc]; exact hV c hc) hmd hbs hmv (by omega) (by omega) (by omega) (by rw [show x - bs = (x - 1 - bs) + 1 by omega] at hr; unfold tmc at hr; rw [hfl] at hr; rw [if_neg (by decide)] at hr; omega)
        · have hfl := bI_1.mp hc4
          refine Z_run C it_Mm_times 3 (f2 := (169, [some (.ref (D.1 37)), some (.int (nI acc)), some (.int (nI (x - 1))), some (.int (nI ((mv (x - 1)) / 36))), some (.int (nI ((mv (x - 1)) % 36))), some (.int (bI (((md - (x - 1)) % 2 == 0) && eqp (unm G9 (mv (x - 1) / 36) (mv (x - 1) % 36)) F 36))), none], [.int (nI acc + nI 1)])) rfl ?_
          rw [nI_add acc 1]
          refine Z_run C it_Mm_times 3 (f2 := (38, [some (.ref (D.1 37)), some (.int (nI (acc + 1))), some (.int (nI (x - 1) + (-1))), some (.int (nI ((mv (x - 1)) / 36))), some (.int (nI ((mv (x - 1)) % 36))), some (.int (bI (((md - (x - 1)) % 2 == 0) && eqp (unm G9 (mv (x - 1) / 36) (mv (x - 1) % 36)) F 36))), none], [])) rfl ?_
          rw [nI_dec]
          refine Z_sub (ls2 := [some (.ref (D.1 37)), some (.int (nI (acc + 1))), some (.int (nI (x - 1) - nI 1)), none, none, none, none]) (by simp [zsubl]) ?_
          exact ih (x - 1) (acc + 1) (unm G9 (mv (x - 1) / 36) (mv (x - 1) % 36)) (vset (vset V 41 ((mv (x - 1)) / 36) (nI (mo (G9 ((mv (x - 1)) % 36))))) 41 ((mv (x - 1)) % 36) (nI 0)) hz hG2 hz2 (fun c hc => by rw [vset_n hc, vset_n hc]; exact hV c hc) hmd hbs hmv (by omega) (by omega) (by omega) (by rw [show x - bs = (x - 1 - bs) + 1 by omega] at hr; unfold tmc at hr; rw [hfl] at hr; rw [if_pos rfl] at hr; omega)
set_option maxRecDepth 20000 in
theorem ct_Mm_times {E : zE} (hE : zEv E) {l : Launch} (hl : l.stackTraces = false) {D : zD} (hD : zDok E D) (V : Nat → Nat → Int32) (P : Nat → Nat → Value) (PH : aH) (F : Nat → Nat) (hF : okF F) (hz : ∀ k, k < 36 → V 38 k = nI (mo (F k))) (mv : Nat → Nat) (md bs : Nat) (hmd9 : md ≤ 6300) (hbm : bs ≤ md) (hml : ∀ k, k < md → mv k < 1296) (hmd : V 38 40 = nI md) (hbs : V 38 41 = nI bs) (hmv : ∀ k, k < md → V 40 k = nI (mv k)) (sz : Nat) : zM E l y_Mm_times [.code y_Mm_times c_Mm_times 7 (some .int)] rm_Mm_times [.ref (D.1 37)] (HM D V P PH) sz (zEy D V P PH sz (tmM F mv md bs)) := by
  refine zM_of hE hl (by decide +kernel) [some (.ref (D.1 37)), none, none, none, none, none, none] ⟨rfl, rfl, Nat.le_of_ble_eq_true rfl⟩ ?_
  intro G C q htb
  refine Z_run C it_Mm_times 2 (f2 := (2, [some (.ref (D.1 37)), some (.int (nI 0)), none, none, none, none, none], [])) rfl ?_
  have h0 : V = vrow V 41 (rcp (V 41) (V 38) 0 0 0) := (vrow_e rcp_0).symm
  refine (congrArg (fun z9 => Z E G (HM D z9 P PH) sz 0 0 (2, [some (.ref (D.1 37)), some (.int (nI 0)), none, none, none, none, none], [])) h0).mpr ?_
  refine lp_Mm_times0 C q hD ?_ 37 0 (by omega) (by omega)
  have hzs := hz_row hz
  refine Z_run C it_Mm_times 3 (f2 := (29, [some (.ref (D.1 37)), some (.int (nI 1)), none, none, none, none, none], [.ref (D.1 37)])) rfl ?_
  refine Zm_get C it_Mm_times hD rfl 37 wi_Mm (by decide) rfl rfl (j := 0) (by decide) fl_Mm_7 (v := .ref (D.1 38)) rfl ?_
  refine Z_run C it_Mm_times 1 (f2 := (34, [some (.ref (D.1 37)), some (.int (nI 1)), none, none, none, none, none], [.int (nI 40), .ref (D.1 38)])) rfl ?_
  refine Zm_ald C it_Mm_times hD 38 10 rfl (by decide) rfl (by decide) (by decide) rfl (j := 40) (by omega) (v := .int (nI md)) (congrArg Value.int hmd) ?_
  refine Z_run C it_Mm_times 3 (f2 := (38, [some (.ref (D.1 37)), some (.int (nI 1)), some (.int (nI md - nI 1)), none, none, none, none], [])) rfl ?_
  exact lp_Mm_times1 C q hD (V0 := V) hF hmd9 hbm hml (r := tmM F mv md bs) (fun V2 hV2 => ⟨rfl, rfl, V2, rfl, fun c h1 h2 => hV2 c h1⟩) (md + 1) md 1 F (vrow V 41 (rcp (V 41) (V 38) 0 0 36)) hz hF hzs (fun c hc => vrow_n hc) hmd hbs hmv (by omega) (by omega) (by omega) rfl
set_option maxRecDepth 20000 in
theorem ct_Mm_repetitions_0 {E : zE} (hE : zEv E) {l : Launch} (hl : l.stackTraces = false) {D : zD} (hD : zDok E D) (V : Nat → Nat → Int32) (P : Nat → Nat → Value) (PH : aH) (F : Nat → Nat) (hF : okF F) (hz : ∀ k, k < 36 → V 38 k = nI (mo (F k))) (hst : V 38 36 = nI 0) (sz : Nat) : zM E l y_Mm_repetitions [.code y_Mm_repetitions c_Mm_repetitions 1 (some .int)] rm_Mm_repetitions [.ref (D.1 37)] (HM D V P PH) sz (zRet (some (.int (nI 0))) (HM D (vset V 37 8 (nI 0)) P PH) sz) := by
  refine zM_of hE hl (by decide +kernel) [some (.ref (D.1 37))] ⟨rfl, rfl, Nat.le_of_ble_eq_true rfl⟩ ?_
  intro G C q htb
  refine Z_run C it_Mm_repetitions 2 (f2 := (2, [some (.ref (D.1 37))], [.ref (D.1 37), .ref (D.1 37)])) rfl ?_
  refine Zm_get C it_Mm_repetitions hD rfl 37 wi_Mm (by decide) rfl rfl (j := 0) (by decide) fl_Mm_7 (v := .ref (D.1 38)) rfl ?_
  refine Z_run C it_Mm_repetitions 1 (f2 := (7, [some (.ref (D.1 37))], [.int (nI 36), .ref (D.1 38), .ref (D.1 37)])) rfl ?_
  refine Zm_ald C it_Mm_repetitions hD 38 10 rfl (by decide) rfl (by decide) (by decide) rfl (j := 36) (by omega) (v := .int (nI 0)) (congrArg Value.int hst) ?_
  refine Z_br C it_Mm_repetitions rfl rfl (fun hc1 => absurd hc1 (by decide)) (fun hc1 => ?_)
  refine Z_run C it_Mm_repetitions 2 (f2 := (19, [some (.ref (D.1 37))], [.int (nI 0), .ref (D.1 37)])) rfl ?_
  refine Zr_callV C it_Mm_repetitions hD rfl p_Mm_says ml_Mm_44 37 (by decide) rfl rfl [.int (nI 0)] (ct_Mm_says C.ev C.l hD _ _ _ (nI 0) _) rfl rfl ⟨by decide, by decide, by decide, by decide⟩ (Nat.le_of_ble_eq_true rfl) rfl ?_
  show Z E G (HM D (vset V 37 8 (nI 0)) P PH) sz 0 0 (22, [some (.ref (D.1 37))], [.int (nI 0)])
  exact Z_iret C q.e it_Mm_repetitions rfl (zRet_iH rfl (by first | rfl | (simp only [vset_2]))) (by decide) (by decide)
theorem zEy_s {D : zD} {V V2 : Nat → Nat → Int32} {y : Int32} (h : ∀ c, c ≠ 41 → c ≠ 42 → V2 c = V c) : ∀ c, c ≠ 41 → c ≠ 42 → vset V2 37 8 y c = vset V 37 8 y c := by
  intro c h1 h2
  by_cases h3 : c = 37
  · subst h3
    rw [vset_s, vset_s, h 37 h1 h2]
  · rw [vset_n h3, vset_n h3, h c h1 h2]
set_option maxRecDepth 20000 in
theorem ct_Mm_repetitions_1 {E : zE} (hE : zEv E) {l : Launch} (hl : l.stackTraces = false) {D : zD} (hD : zDok E D) (V : Nat → Nat → Int32) (P : Nat → Nat → Value) (PH : aH) (F : Nat → Nat) (hF : okF F) (hz : ∀ k, k < 36 → V 38 k = nI (mo (F k))) (mv : Nat → Nat) (md bs : Nat) (hmd9 : md ≤ 6300) (hbm : bs ≤ md) (hml : ∀ k, k < md → mv k < 1296) (hmd : V 38 40 = nI md) (hbs : V 38 41 = nI bs) (hmv : ∀ k, k < md → V 40 k = nI (mv k)) (hst : V 38 36 = nI 1) (sz : Nat) : zM E l y_Mm_repetitions [.code y_Mm_repetitions c_Mm_repetitions 1 (some .int)] rm_Mm_repetitions [.ref (D.1 37)] (HM D V P PH) sz (zEy D (vset V 37 8 (nI 0)) P PH sz (tmM F mv md bs)) := by
  refine zM_of hE hl (by decide +kernel) [some (.ref (D.1 37))] ⟨rfl, rfl, Nat.le_of_ble_eq_true rfl⟩ ?_
  intro G C q htb
  refine Z_run C it_Mm_repetitions 2 (f2 := (2, [some (.ref (D.1 37))], [.ref (D.1 37), .ref (D.1 37)])) rfl ?_
  refine Zm_get C it_Mm_repetitions hD rfl 37 wi_Mm (by decide) rfl rfl (j := 0) (by decide) fl_Mm_7 (v := .ref (D.1 38)) rfl ?_
  refine Z_run C it_Mm_repetitions 1 (f2 := (7, [some (.ref (D.1 37))], [.int (nI 36), .ref (D.1 38), .ref (D.1 37)])) rfl ?_
  refine Zm_ald C it_Mm_repetitions hD 38 10 rfl (by decide) rfl (by decide) (by decide) rfl (j := 36) (by omega) (v := .int (nI 1)) (congrArg Value.int hst) ?_
  refine Z_br C it_Mm_repetitions rfl rfl (fun hc1 => ?_) (fun hc1 => absurd (by decide) hc1)
  refine Z_run C it_Mm_repetitions 1 (f2 := (16, [some (.ref (D.1 37))], [.ref (D.1 37), .ref (D.1 37)])) rfl ?_
  refine Zr_eyV C it_Mm_repetitions hD rfl p_Mm_times ml_Mm_118 37 (by decide) rfl rfl [] (ct_Mm_times C.ev C.l hD V P _ F hF hz mv md bs hmd9 hbm hml hmd hbs hmv _) rfl rfl ⟨by decide, by decide, by decide, by decide⟩ (Nat.le_of_ble_eq_true rfl) rfl (fun V2 hV2 => ?_)
  show Z E G (HM D V2 P PH) sz 0 0 (19, [some (.ref (D.1 37))], [.int (nI (tmM F mv md bs)), .ref (D.1 37)])
  refine Zr_callV C it_Mm_repetitions hD rfl p_Mm_says ml_Mm_44 37 (by decide) rfl rfl [.int (nI (tmM F mv md bs))] (ct_Mm_says C.ev C.l hD _ _ _ (nI (tmM F mv md bs)) _) rfl rfl ⟨by decide, by decide, by decide, by decide⟩ (Nat.le_of_ble_eq_true rfl) rfl ?_
  show Z E G (HM D (vset V2 37 8 (nI 0)) P PH) sz 0 0 (22, [some (.ref (D.1 37))], [.int (nI (tmM F mv md bs))])
  exact Z_iret C q.e it_Mm_repetitions rfl (⟨rfl, rfl, _, rfl, zEy_s (D := D) hV2⟩) (by decide) (by decide)
