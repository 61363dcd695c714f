/-! ===== the model: sums over the squares, moves, queries ===== -/
theorem vset_2 {V : Nat → Nat → Int32} {i k : Nat} {x y : Int32} : vset (vset V i k x) i k y = vset V i k y := by
  funext c j
  unfold vset
  by_cases h : c = i
  · simp only [h, if_true]
    unfold upd
    split <;> rfl
  · simp only [h, if_false]
def inI (x lo hi : Int32) : Int32 := if x < lo then nI 0 else if hi < x then nI 0 else nI 1
theorem sdo_qn {p s : Nat} (hp : p < 128) (hs : s < 128) : (oI (sdo p) = oI (sdo s)) → (sdo p != sdo s) = false := fun h => by simp [(sdo_q p hp s hs).mp h]
theorem sdo_qt {p s : Nat} (hp : p < 128) (hs : s < 128) : (¬ oI (sdo p) = oI (sdo s)) → (sdo p != sdo s) = true := fun h => by
  rw [bne_iff_ne]
  exact fun z => h ((sdo_q p hp s hs).mpr z)
def cpt (st : Bool) (F : Nat → Nat) (a b : Nat) : Bool := !st && (F b == 0 && decide (cnt (fun k => hld F k a) 36 < 8))
theorem mo_e0 {p : Nat} (h : p < 128) : nI (mo p) = 0 ↔ p = 0 := by
  have := mo_lt h
  rw [nI_e0 (by omega)]
  exact mo_0
theorem mo_le0 {p : Nat} (h : p < 128) : nI (mo p) ≤ 0 ↔ p = 0 := by
  have := mo_lt h
  rw [nI_le0 (by omega)]
  exact mo_0
set_option maxRecDepth 20000 in
theorem lp_Mm_count {E : zE} {G : zG} {O : zO} (C : zCx E G c_Mm_count 4 y_Mm_count.cls y_Mm_count.name (some .int) rm_Mm_count) (q : zEndX E G O rm_Mm_count.cells rm_Mm_count.slots)  {D : zD} (hD : zDok E D) {V : Nat → Nat → Int32} {P : Nat → Nat → Value} {PH : aH} {F : Nat → Nat} (hF : okF F) (hz : ∀ k, k < 36 → V 38 k = nI (mo (F k))) {s : Nat} (hs : s < 2) {sz : Nat} (hO : O (.inl (some (.int (nI (cnt (fun k => hld F k s) 36))))) (HM D V P PH) sz) : ∀ (j i : Nat), 36 - i < j → i ≤ 36 → Z E G (HM D V P PH) sz 0 0 (4, [some (.ref (D.1 37)), some (.int (nI s)), some (.int (nI (cnt (fun k => hld F k s) i))), some (.int (nI i))], []) := by
  intro j
  induction j with
  | zero =>
    intro i h1 h2
    omega
  | succ j ih =>
    intro i h1 h2
    refine Z_run C it_Mm_count 2 (f2 := (7, [some (.ref (D.1 37)), some (.int (nI s)), some (.int (nI (cnt (fun k => hld F k s) i))), some (.int (nI i))], [.int (nI 36), .int (nI i)])) rfl ?_
    refine Z_br C it_Mm_count rfl rfl (fun hc1 => ?_) (fun hc1 => ?_)
    · replace hc1 := (nI_leI (a := 36) (b := i) (by omega) (by omega)).mp hc1
      refine Z_run C it_Mm_count 1 (f2 := (38, [some (.ref (D.1 37)), some (.int (nI s)), some (.int (nI (cnt (fun k => hld F k s) i))), some (.int (nI i))], [.int (nI (cnt (fun k => hld F k s) i))])) rfl ?_
      exact Z_iret C q.e it_Mm_count rfl ((show i = 36 by omega) ▸ hO) (by decide) (by decide)
    · replace hc1 : ¬ _ := fun z9 => hc1 ((nI_leI (a := 36) (b := i) (by omega) (by omega)).mpr z9)
      refine Z_run C it_Mm_count 2 (f2 := (12, [some (.ref (D.1 37)), some (.int (nI s)), some (.int (nI (cnt (fun k => hld F k s) i))), some (.int (nI i))], [.ref (D.1 37), .int (nI (cnt (fun k => hld F k s) i))])) rfl ?_
      refine Zm_get C it_Mm_count hD rfl 37 wi_Mm (by decide) rfl rfl (j := 0) (by decide) fl_Mm_7 (v := .ref (D.1 38)) rfl ?_
      refine Z_run C it_Mm_count 1 (f2 := (16, [some (.ref (D.1 37)), some (.int (nI s)), some (.int (nI (cnt (fun k => hld F k s) i))), some (.int (nI i))], [.int (nI i), .ref (D.1 38), .int (nI (cnt (fun k => hld F k s) i))])) rfl ?_
      refine Zm_ald C it_Mm_count hD 38 10 rfl (by decide) rfl (by decide) (by decide) rfl (j := i) (by omega) (v := .int (nI (mo (F i)))) (congrArg Value.int (hz i (by omega))) ?_
      refine Zr_callS C it_Mm_count rfl p_Mm_sideOf ml_Mm_58 [.int (nI (mo (F i)))] (ct_Mm_sideOf C.ev C.l (F i) (by first | assumption | omega | exact hF _ (by omega)) (HM D V P PH) _) rfl rfl ⟨by decide, by decide, by decide, by decide⟩ (Nat.le_of_ble_eq_true rfl) rfl ?_
      show Z E G (HM D V P PH) sz 0 0 (20, [some (.ref (D.1 37)), some (.int (nI s)), some (.int (nI (cnt (fun k => hld F k s) i))), some (.int (nI i))], [.int (oI (sdo (F i))), .int (nI (cnt (fun k => hld F k s) i))])
      refine Z_run C it_Mm_count 1 (f2 := (21, [some (.ref (D.1 37)), some (.int (nI s)), some (.int (nI (cnt (fun k => hld F k s) i))), some (.int (nI i))], [.int (nI s), .int (oI (sdo (F i))), .int (nI (cnt (fun k => hld F k s) i))])) rfl ?_
      refine Z_br C it_Mm_count rfl rfl (fun hc2 => ?_) (fun hc2 => ?_)
      · replace hc2 := (sdo_n (hF i (by omega)) hs).mp hc2
        refine Z_run C it_Mm_count 2 (f2 := (30, [some (.ref (D.1 37)), some (.int (nI s)), some (.int (nI (cnt (fun k => hld F k s) i))), some (.int (nI i))], [.int (nI (cnt (fun k => hld F k s) i) + nI 0)])) rfl ?_
        rw [nI_add (cnt (fun k => hld F k s) i) 0]
        refine Z_run C it_Mm_count 2 (f2 := (34, [some (.ref (D.1 37)), some (.int (nI s)), some (.int (nI (cnt (fun k => hld F k s) i + 0))), some (.int (nI i + nI 1))], [])) rfl ?_
        rw [nI_add i 1]
        refine Z_run C it_Mm_count 1 (f2 := (4, [some (.ref (D.1 37)), some (.int (nI s)), some (.int (nI (cnt (fun k => hld F k s) i + 0))), some (.int (nI (i + 1)))], [])) rfl ?_
        have e1 : nI (cnt (fun k => hld F k s) i + 0) = nI (cnt (fun k => hld F k s) (i + 1)) := by simp [cnt, smp, hc2]
        refine (congrArg (fun z9 => Z E G (HM D V P PH) sz 0 0 (4, [some (.ref (D.1 37)), some (.int (nI s)), some (.int z9), some (.int (nI (i + 1)))], [])) e1).mpr ?_
        exact ih (i + 1) (by omega) (by omega)
      · replace hc2 := (sdo_hld (hF i (by omega)) hs).mp (Classical.not_not.mp hc2)
        refine Z_run C it_Mm_count 3 (f2 := (30, [some (.ref (D.1 37)), some (.int (nI s)), some (.int (nI (cnt (fun k => hld F k s) i))), some (.int (nI i))], [.int (nI (cnt (fun k => hld F k s) i) + nI 1)])) rfl ?_
        rw [nI_add (cnt (fun k => hld F k s) i) 1]
        refine Z_run C it_Mm_count 2 (f2 := (34, [some (.ref (D.1 37)), some (.int (nI s)), some (.int (nI (cnt (fun k => hld F k s) i + 1))), some (.int (nI i + nI 1))], [])) rfl ?_
        rw [nI_add i 1]
        refine Z_run C it_Mm_count 1 (f2 := (4, [some (.ref (D.1 37)), some (.int (nI s)), some (.int (nI (cnt (fun k => hld F k s) i + 1))), some (.int (nI (i + 1)))], [])) rfl ?_
        have e2 : nI (cnt (fun k => hld F k s) i + 1) = nI (cnt (fun k => hld F k s) (i + 1)) := by simp [cnt, smp, hc2]
        refine (congrArg (fun z9 => Z E G (HM D V P PH) sz 0 0 (4, [some (.ref (D.1 37)), some (.int (nI s)), some (.int z9), some (.int (nI (i + 1)))], [])) e2).mpr ?_
        exact ih (i + 1) (by omega) (by omega)
set_option maxRecDepth 20000 in
theorem ct_Mm_count_z {E : zE} (hE : zEv E) {l : Launch} (hl : l.stackTraces = false) {D : zD} (hD : zDok E D) (V : Nat → Nat → Int32) (P : Nat → Nat → Value) (PH : aH) (F : Nat → Nat) (hF : okF F) (hz : ∀ k, k < 36 → V 38 k = nI (mo (F k))) (s : Nat) (hs : s < 2) (sz : Nat) : zM E l y_Mm_count [.code y_Mm_count c_Mm_count 4 (some .int)] rm_Mm_count [.ref (D.1 37), .int (nI s)] (HM D V P PH) sz (zRet (some (.int (nI (cnt (fun k => hld F k s) 36)))) (HM D V P PH) sz) := by
  refine zM_of hE hl (by decide +kernel) [some (.ref (D.1 37)), some (.int (nI s)), none, none] ⟨rfl, rfl, Nat.le_of_ble_eq_true rfl⟩ ?_
  intro G C q htb
  refine Z_run C it_Mm_count 4 (f2 := (4, [some (.ref (D.1 37)), some (.int (nI s)), some (.int (nI 0)), some (.int (nI 0))], [])) rfl ?_
  exact lp_Mm_count C q hD hF hz hs ⟨rfl, rfl, rfl⟩ 37 0 (by omega) (by omega)
set_option maxRecDepth 20000 in
theorem lp_Mm_leader {E : zE} {G : zG} {O : zO} (C : zCx E G c_Mm_leader 4 y_Mm_leader.cls y_Mm_leader.name (some .int) rm_Mm_leader) (q : zEndX E G O rm_Mm_leader.cells rm_Mm_leader.slots)  {D : zD} (hD : zDok E D) {V : Nat → Nat → Int32} {P : Nat → Nat → Value} {PH : aH} {F : Nat → Nat} (hF : okF F) (hz : ∀ k, k < 36 → V 38 k = nI (mo (F k))) {s : Nat} (hs : s < 2) {sz : Nat} (hO : O (.inl (some (.int (oI (lls (fun k => hld F k s && ldr (F k)) 36))))) (HM D V P PH) sz) : ∀ (j i : Nat), 36 - i < j → i ≤ 36 → Z E G (HM D V P PH) sz 0 0 (4, [some (.ref (D.1 37)), some (.int (nI s)), some (.int (oI (lls (fun k => hld F k s && ldr (F k)) i))), some (.int (nI i))], []) := by
  intro j
  induction j with
  | zero =>
    intro i h1 h2
    omega
  | succ j ih =>
    intro i h1 h2
    refine Z_run C it_Mm_leader 2 (f2 := (7, [some (.ref (D.1 37)), some (.int (nI s)), some (.int (oI (lls (fun k => hld F k s && ldr (F k)) i))), some (.int (nI i))], [.int (nI 36), .int (nI i)])) rfl ?_
    refine Z_br C it_Mm_leader rfl rfl (fun hc1 => ?_) (fun hc1 => ?_)
    · replace hc1 := (nI_leI (a := 36) (b := i) (by omega) (by omega)).mp hc1
      refine Z_run C it_Mm_leader 1 (f2 := (48, [some (.ref (D.1 37)), some (.int (nI s)), some (.int (oI (lls (fun k => hld F k s && ldr (F k)) i))), some (.int (nI i))], [.int (oI (lls (fun k => hld F k s && ldr (F k)) i))])) rfl ?_
      exact Z_iret C q.e it_Mm_leader rfl ((show i = 36 by omega) ▸ hO) (by decide) (by decide)
    · replace hc1 : ¬ _ := fun z9 => hc1 ((nI_leI (a := 36) (b := i) (by omega) (by omega)).mpr z9)
      refine Z_run C it_Mm_leader 1 (f2 := (11, [some (.ref (D.1 37)), some (.int (nI s)), some (.int (oI (lls (fun k => hld F k s && ldr (F k)) i))), some (.int (nI i))], [.ref (D.1 37)])) rfl ?_
      refine Zm_get C it_Mm_leader hD rfl 37 wi_Mm (by decide) rfl rfl (j := 0) (by decide) fl_Mm_7 (v := .ref (D.1 38)) rfl ?_
      refine Z_run C it_Mm_leader 1 (f2 := (15, [some (.ref (D.1 37)), some (.int (nI s)), some (.int (oI (lls (fun k => hld F k s && ldr (F k)) i))), some (.int (nI i))], [.int (nI i), .ref (D.1 38)])) rfl ?_
      refine Zm_ald C it_Mm_leader hD 38 10 rfl (by decide) rfl (by decide) (by decide) rfl (j := i) (by omega) (v := .int (nI (mo (F i)))) (congrArg Value.int (hz i (by omega))) ?_
      refine Zr_callS C it_Mm_leader rfl p_Mm_sideOf ml_Mm_58 [.int (nI (mo (F i)))] (ct_Mm_sideOf C.ev C.l (F i) (by first | assumption | omega | exact hF _ (by omega)) (HM D V P PH) _) rfl rfl ⟨by decide, by decide, by decide, by decide⟩ (Nat.le_of_ble_eq_true rfl) rfl ?_
      show Z E G (HM D V P PH) sz 0 0 (19, [some (.ref (D.1 37)), some (.int (nI s)), some (.int (oI (lls (fun k => hld F k s && ldr (F k)) i))), some (.int (nI i))], [.int (oI (sdo (F i)))])
      refine Z_run C it_Mm_leader 1 (f2 := (20, [some (.ref (D.1 37)), some (.int (nI s)), some (.int (oI (lls (fun k => hld F k s && ldr (F k)) i))), some (.int (nI i))], [.int (nI s), .int (oI (sdo (F i)))])) rfl ?_
      refine Z_br C it_Mm_leader rfl rfl (fun hc2 => ?_) (fun hc2 => ?_)
      · replace hc2 := (sdo_n (hF i (by omega)) hs).mp hc2
        refine Z_run C it_Mm_leader 3 (f2 := (44, [some (.ref (D.1 37)), some (.int (nI s)), some (.int (oI (lls (fun k => hld F k s && ldr (F k)) i))), some (.int (nI i + nI 1))], [])) rfl ?_
        rw [nI_add i 1]
        refine Z_run C it_Mm_leader 1 (f2 := (4, [some (.ref (D.1 37)), some (.int (nI s)), some (.int (oI (lls (fun k => hld F k s && ldr (F k)) i))), some (.int (nI (i + 1)))], [])) rfl ?_
        have e1 : oI (lls (fun k => hld F k s && ldr (F k)) i) = oI (lls (fun k => hld F k s && ldr (F k)) (i + 1)) := by first | (simp [lls, hc2]; done) | (simp [lls, hc2, hc3]; done)
        refine (congrArg (fun z9 => Z E G (HM D V P PH) sz 0 0 (4, [some (.ref (D.1 37)), some (.int (nI s)), some (.int z9), some (.int (nI (i + 1)))], [])) e1).mpr ?_
        exact ih (i + 1) (by omega) (by omega)
      · replace hc2 := (sdo_hld (hF i (by omega)) hs).mp (Classical.not_not.mp hc2)
        refine Z_run C it_Mm_leader 1 (f2 := (24, [some (.ref (D.1 37)), some (.int (nI s)), some (.int (oI (lls (fun k => hld F k s && ldr (F k)) i))), some (.int (nI i))], [.ref (D.1 37)])) rfl ?_
        refine Zm_get C it_Mm_leader hD rfl 37 wi_Mm (by decide) rfl rfl (j := 0) (by decide) fl_Mm_7 (v := .ref (D.1 38)) rfl ?_
        refine Z_run C it_Mm_leader 1 (f2 := (28, [some (.ref (D.1 37)), some (.int (nI s)), some (.int (oI (lls (fun k => hld F k s && ldr (F k)) i))), some (.int (nI i))], [.int (nI i), .ref (D.1 38)])) rfl ?_
        refine Zm_ald C it_Mm_leader hD 38 10 rfl (by decide) rfl (by decide) (by decide) rfl (j := i) (by omega) (v := .int (nI (mo (F i)))) (congrArg Value.int (hz i (by omega))) ?_
        refine Zr_callS C it_Mm_leader rfl p_Mm_leads ml_Mm_54 [.int (nI (mo (F i)))] (ct_Mm_leads C.ev C.l (F i) (by first | assumption | omega | exact hF _ (by omega)) (HM D V P PH) _) rfl rfl ⟨by decide, by decide, by decide, by decide⟩ (Nat.le_of_ble_eq_true rfl) rfl ?_
        show Z E G (HM D V P PH) sz 0 0 (32, [some (.ref (D.1 37)), some (.int (nI s)), some (.int (oI (lls (fun k => hld F k s && ldr (F k)) i))), some (.int (nI i))], [.int (bI (ldr (F i)))])
        refine Z_br C it_Mm_leader rfl rfl (fun hc3 => ?_) (fun hc3 => ?_)
        · replace hc3 := bI_0.mp hc3
          refine Z_run C it_Mm_leader 3 (f2 := (44, [some (.ref (D.1 37)), some (.int (nI s)), some (.int (oI (lls (fun k => hld F k s && ldr (F k)) i))), some (.int (nI i + nI 1))], [])) rfl ?_
          rw [nI_add i 1]
          refine Z_run C it_Mm_leader 1 (f2 := (4, [some (.ref (D.1 37)), some (.int (nI s)), some (.int (oI (lls (fun k => hld F k s && ldr (F k)) i))), some (.int (nI (i + 1)))], [])) rfl ?_
          have e2 : oI (lls (fun k => hld F k s && ldr (F k)) i) = oI (lls (fun k => hld F k s && ldr (F k)) (i + 1)) := by first | (simp [lls, hc2]; done) | (simp [lls, hc2, hc3]; done)
          refine (congrArg (fun z9 => Z E G (HM D V P PH) sz 0 0 (4, [some (.ref (D.1 37)), some (.int (nI s)), some (.int z9), some (.int (nI (i + 1)))], [])) e2).mpr ?_
          exact ih (i + 1) (by omega) (by omega)
        · replace hc3 := bI_1.mp hc3
          refine Z_run C it_Mm_leader 4 (f2 := (44, [some (.ref (D.1 37)), some (.int (nI s)), some (.int (nI i)), some (.int (nI i + nI 1))], [])) rfl ?_
          rw [nI_add i 1]
          refine Z_run C it_Mm_leader 1 (f2 := (4, [some (.ref (D.1 37)), some (.int (nI s)), some (.int (nI i)), some (.int (nI (i + 1)))], [])) rfl ?_
          have e3 : nI i = oI (lls (fun k => hld F k s && ldr (F k)) (i + 1)) := by simp [lls, hc2, hc3, oI]
          refine (congrArg (fun z9 => Z E G (HM D V P PH) sz 0 0 (4, [some (.ref (D.1 37)), some (.int (nI s)), some (.int z9), some (.int (nI (i + 1)))], [])) e3).mpr ?_
          exact ih (i + 1) (by omega) (by omega)
set_option maxRecDepth 20000 in
theorem ct_Mm_leader_z {E : zE} (hE : zEv E) {l : Launch} (hl : l.stackTraces = false) {D : zD} (hD : zDok E D) (V : Nat → Nat → Int32) (P : Nat → Nat → Value) (PH : aH) (F : Nat → Nat) (hF : okF F) (hz : ∀ k, k < 36 → V 38 k = nI (mo (F k))) (s : Nat) (hs : s < 2) (sz : Nat) : zM E l y_Mm_leader [.code y_Mm_leader c_Mm_leader 4 (some .int)] rm_Mm_leader [.ref (D.1 37), .int (nI s)] (HM D V P PH) sz (zRet (some (.int (oI (lls (fun k => hld F k s && ldr (F k)) 36)))) (HM D V P PH) sz) := by
  refine zM_of hE hl (by decide +kernel) [some (.ref (D.1 37)), some (.int (nI s)), none, none] ⟨rfl, rfl, Nat.le_of_ble_eq_true rfl⟩ ?_
  intro G C q htb
  refine Z_run C it_Mm_leader 4 (f2 := (4, [some (.ref (D.1 37)), some (.int (nI s)), some (.int ((-1))), some (.int (nI 0))], [])) rfl ?_
  exact lp_Mm_leader C q hD hF hz hs ⟨rfl, rfl, rfl⟩ 37 0 (by omega) (by omega)
set_option maxRecDepth 20000 in
theorem lp_Mm_all {E : zE} {G : zG} {O : zO} (C : zCx E G c_Mm_all 4 y_Mm_all.cls y_Mm_all.name (some .int) rm_Mm_all) (q : zEndX E G O rm_Mm_all.cells rm_Mm_all.slots)  {D : zD} (hD : zDok E D) {V : Nat → Nat → Int32} {P : Nat → Nat → Value} {PH : aH} {F : Nat → Nat} (hF : okF F) (hz : ∀ k, k < 36 → V 38 k = nI (mo (F k))) {s : Nat} (hs : s < 2) {sz : Nat} (hO : O (.inl (some (.int (nI (wos F s 36))))) (HM D V P PH) sz) : ∀ (j i : Nat), 36 - i < j → i ≤ 36 → Z E G (HM D V P PH) sz 0 0 (4, [some (.ref (D.1 37)), some (.int (nI s)), some (.int (nI (wos F s i))), some (.int (nI i))], []) := by
  intro j
  induction j with
  | zero =>
    intro i h1 h2
    omega
  | succ j ih =>
    intro i h1 h2
    refine Z_run C it_Mm_all 2 (f2 := (7, [some (.ref (D.1 37)), some (.int (nI s)), some (.int (nI (wos F s i))), some (.int (nI i))], [.int (nI 36), .int (nI i)])) rfl ?_
    refine Z_br C it_Mm_all rfl rfl (fun hc1 => ?_) (fun hc1 => ?_)
    · replace hc1 := (nI_leI (a := 36) (b := i) (by omega) (by omega)).mp hc1
      refine Z_run C it_Mm_all 1 (f2 := (46, [some (.ref (D.1 37)), some (.int (nI s)), some (.int (nI (wos F s i))), some (.int (nI i))], [.int (nI (wos F s i))])) rfl ?_
      exact Z_iret C q.e it_Mm_all rfl ((show i = 36 by omega) ▸ hO) (by decide) (by decide)
    · replace hc1 : ¬ _ := fun z9 => hc1 ((nI_leI (a := 36) (b := i) (by omega) (by omega)).mpr z9)
      refine Z_run C it_Mm_all 2 (f2 := (12, [some (.ref (D.1 37)), some (.int (nI s)), some (.int (nI (wos F s i))), some (.int (nI i))], [.ref (D.1 37), .int (nI (wos F s i))])) rfl ?_
      refine Zm_get C it_Mm_all hD rfl 37 wi_Mm (by decide) rfl rfl (j := 0) (by decide) fl_Mm_7 (v := .ref (D.1 38)) rfl ?_
      refine Z_run C it_Mm_all 1 (f2 := (16, [some (.ref (D.1 37)), some (.int (nI s)), some (.int (nI (wos F s i))), some (.int (nI i))], [.int (nI i), .ref (D.1 38), .int (nI (wos F s i))])) rfl ?_
      refine Zm_ald C it_Mm_all hD 38 10 rfl (by decide) rfl (by decide) (by decide) rfl (j := i) (by omega) (v := .int (nI (mo (F i)))) (congrArg Value.int (hz i (by omega))) ?_
      refine Zr_callS C it_Mm_all rfl p_Mm_sideOf ml_Mm_58 [.int (nI (mo (F i)))] (ct_Mm_sideOf C.ev C.l (F i) (by first | assumption | omega | exact hF _ (by omega)) (HM D V P PH) _) rfl rfl ⟨by decide, by decide, by decide, by decide⟩ (Nat.le_of_ble_eq_true rfl) rfl ?_
      show Z E G (HM D V P PH) sz 0 0 (20, [some (.ref (D.1 37)), some (.int (nI s)), some (.int (nI (wos F s i))), some (.int (nI i))], [.int (oI (sdo (F i))), .int (nI (wos F s i))])
      refine Z_run C it_Mm_all 1 (f2 := (21, [some (.ref (D.1 37)), some (.int (nI s)), some (.int (nI (wos F s i))), some (.int (nI i))], [.int (nI s), .int (oI (sdo (F i))), .int (nI (wos F s i))])) rfl ?_
      refine Z_br C it_Mm_all rfl rfl (fun hc2 => ?_) (fun hc2 => ?_)
      · replace hc2 := (sdo_n (hF i (by omega)) hs).mp hc2
        refine Z_run C it_Mm_all 2 (f2 := (38, [some (.ref (D.1 37)), some (.int (nI s)), some (.int (nI (wos F s i))), some (.int (nI i))], [.int (nI (wos F s i) + nI 0)])) rfl ?_
        rw [nI_add (wos F s i) 0]
        refine Z_run C it_Mm_all 2 (f2 := (42, [some (.ref (D.1 37)), some (.int (nI s)), some (.int (nI (wos F s i + 0))), some (.int (nI i + nI 1))], [])) rfl ?_
        rw [nI_add i 1]
        refine Z_run C it_Mm_all 1 (f2 := (4, [some (.ref (D.1 37)), some (.int (nI s)), some (.int (nI (wos F s i + 0))), some (.int (nI (i + 1)))], [])) rfl ?_
        have e1 : nI (wos F s i + 0) = nI (wos F s (i + 1)) := by simp [wos, smp, hc2]
        refine (congrArg (fun z9 => Z E G (HM D V P PH) sz 0 0 (4, [some (.ref (D.1 37)), some (.int (nI s)), some (.int z9), some (.int (nI (i + 1)))], [])) e1).mpr ?_
        exact ih (i + 1) (by omega) (by omega)
      · replace hc2 := (sdo_hld (hF i (by omega)) hs).mp (Classical.not_not.mp hc2)
        refine Z_run C it_Mm_all 1 (f2 := (25, [some (.ref (D.1 37)), some (.int (nI s)), some (.int (nI (wos F s i))), some (.int (nI i))], [.ref (D.1 37), .int (nI (wos F s i))])) rfl ?_
        refine Zm_get C it_Mm_all hD rfl 37 wi_Mm (by decide) rfl rfl (j := 0) (by decide) fl_Mm_7 (v := .ref (D.1 38)) rfl ?_
        refine Z_run C it_Mm_all 1 (f2 := (29, [some (.ref (D.1 37)), some (.int (nI s)), some (.int (nI (wos F s i))), some (.int (nI i))], [.int (nI i), .ref (D.1 38), .int (nI (wos F s i))])) rfl ?_
        refine Zm_ald C it_Mm_all hD 38 10 rfl (by decide) rfl (by decide) (by decide) rfl (j := i) (by omega) (v := .int (nI (mo (F i)))) (congrArg Value.int (hz i (by omega))) ?_
        refine Zr_callS C it_Mm_all rfl p_Mm_worthOf ml_Mm_88 [.int (nI (mo (F i)))] (ct_Mm_worthOf C.ev C.l (F i) (by first | assumption | omega | exact hF _ (by omega)) (HM D V P PH) _) rfl rfl ⟨by decide, by decide, by decide, by decide⟩ (Nat.le_of_ble_eq_true rfl) rfl ?_
        show Z E G (HM D V P PH) sz 0 0 (33, [some (.ref (D.1 37)), some (.int (nI s)), some (.int (nI (wos F s i))), some (.int (nI i))], [.int (nI (wr (F i))), .int (nI (wos F s i))])
        refine Z_run C it_Mm_all 2 (f2 := (38, [some (.ref (D.1 37)), some (.int (nI s)), some (.int (nI (wos F s i))), some (.int (nI i))], [.int (nI (wos F s i) + nI (wr (F i)))])) rfl ?_
        rw [nI_add (wos F s i) (wr (F i))]
        refine Z_run C it_Mm_all 2 (f2 := (42, [some (.ref (D.1 37)), some (.int (nI s)), some (.int (nI (wos F s i + wr (F i)))), some (.int (nI i + nI 1))], [])) rfl ?_
        rw [nI_add i 1]
        refine Z_run C it_Mm_all 1 (f2 := (4, [some (.ref (D.1 37)), some (.int (nI s)), some (.int (nI (wos F s i + wr (F i)))), some (.int (nI (i + 1)))], [])) rfl ?_
        have e2 : nI (wos F s i + wr (F i)) = nI (wos F s (i + 1)) := by simp [wos, smp, hc2]
        refine (congrArg (fun z9 => Z E G (HM D V P PH) sz 0 0 (4, [some (.ref (D.1 37)), some (.int (nI s)), some (.int z9), some (.int (nI (i + 1)))], [])) e2).mpr ?_
        exact ih (i + 1) (by omega) (by omega)
set_option maxRecDepth 20000 in
theorem ct_Mm_all_z {E : zE} (hE : zEv E) {l : Launch} (hl : l.stackTraces = false) {D : zD} (hD : zDok E D) (V : Nat → Nat → Int32) (P : Nat → Nat → Value) (PH : aH) (F : Nat → Nat) (hF : okF F) (hz : ∀ k, k < 36 → V 38 k = nI (mo (F k))) (s : Nat) (hs : s < 2) (sz : Nat) : zM E l y_Mm_all [.code y_Mm_all c_Mm_all 4 (some .int)] rm_Mm_all [.ref (D.1 37), .int (nI s)] (HM D V P PH) sz (zRet (some (.int (nI (wos F s 36)))) (HM D V P PH) sz) := by
  refine zM_of hE hl (by decide +kernel) [some (.ref (D.1 37)), some (.int (nI s)), none, none] ⟨rfl, rfl, Nat.le_of_ble_eq_true rfl⟩ ?_
  intro G C q htb
  refine Z_run C it_Mm_all 4 (f2 := (4, [some (.ref (D.1 37)), some (.int (nI s)), some (.int (nI 0)), some (.int (nI 0))], [])) rfl ?_
  exact lp_Mm_all C q hD hF hz hs ⟨rfl, rfl, rfl⟩ 37 0 (by omega) (by omega)
set_option maxRecDepth 20000 in
theorem ct_Mm_canMove_z {E : zE} (hE : zEv E) {l : Launch} (hl : l.stackTraces = false) {D : zD} (hD : zDok E D) (V : Nat → Nat → Int32) (P : Nat → Nat → Value) (PH : aH) (F : Nat → Nat) (hF : okF F) (hz : ∀ k, k < 36 → V 38 k = nI (mo (F k))) (a : Nat) (ha : a < 36) (ha0 : F a ≠ 0) (b : Nat) (hb : b < 36) (sz : Nat) : zM E l y_Mm_canMove [.code y_Mm_canMove c_Mm_canMove 3 (some .boolean)] rm_Mm_canMove [.ref (D.1 37), .int (nI a), .int (nI b)] (HM D V P PH) sz (zRet (some (.int (bI (cmv F a b)))) (HM D V P PH) sz) := by
  refine zM_of hE hl (by decide +kernel) [some (.ref (D.1 37)), some (.int (nI a)), some (.int (nI b))] ⟨rfl, rfl, Nat.le_of_ble_eq_true rfl⟩ ?_
  intro G C q htb
  have hFa := hF a ha
  have hFb := hF b hb
  refine Z_run C it_Mm_canMove 1 (f2 := (1, [some (.ref (D.1 37)), some (.int (nI a)), some (.int (nI b))], [.ref (D.1 37)])) rfl ?_
  refine Zm_get C it_Mm_canMove hD rfl 37 wi_Mm (by decide) rfl rfl (j := 0) (by decide) fl_Mm_7 (v := .ref (D.1 38)) rfl ?_
  refine Z_run C it_Mm_canMove 1 (f2 := (5, [some (.ref (D.1 37)), some (.int (nI a)), some (.int (nI b))], [.int (nI a), .ref (D.1 38)])) rfl ?_
  refine Zm_ald C it_Mm_canMove hD 38 10 rfl (by decide) rfl (by decide) (by decide) rfl (j := a) (by omega) (v := .int (nI (mo (F a)))) (congrArg Value.int (hz a (by omega))) ?_
  refine Zr_callS C it_Mm_canMove rfl p_Mm_sideOf ml_Mm_58 [.int (nI (mo (F a)))] (ct_Mm_sideOf C.ev C.l (F a) (by first | assumption | omega | exact hF _ (by omega)) (HM D V P PH) _) rfl rfl ⟨by decide, by decide, by decide, by decide⟩ (Nat.le_of_ble_eq_true rfl) rfl ?_
  show Z E G (HM D V P PH) sz 0 0 (9, [some (.ref (D.1 37)), some (.int (nI a)), some (.int (nI b))], [.int (oI (sdo (F a)))])
  refine Z_run C it_Mm_canMove 1 (f2 := (10, [some (.ref (D.1 37)), some (.int (nI a)), some (.int (nI b))], [.ref (D.1 37), .int (oI (sdo (F a)))])) rfl ?_
  refine Zm_get C it_Mm_canMove hD rfl 37 wi_Mm (by decide) rfl rfl (j := 0) (by decide) fl_Mm_7 (v := .ref (D.1 38)) rfl ?_
  refine Z_run C it_Mm_canMove 1 (f2 := (14, [some (.ref (D.1 37)), some (.int (nI a)), some (.int (nI b))], [.int (nI b), .ref (D.1 38), .int (oI (sdo (F a)))])) rfl ?_
  refine Zm_ald C it_Mm_canMove hD 38 10 rfl (by decide) rfl (by decide) (by decide) rfl (j := b) (by omega) (v := .int (nI (mo (F b)))) (congrArg Value.int (hz b (by omega))) ?_
  refine Zr_callS C it_Mm_canMove rfl p_Mm_sideOf ml_Mm_58 [.int (nI (mo (F b)))] (ct_Mm_sideOf C.ev C.l (F b) (by first | assumption | omega | exact hF _ (by omega)) (HM D V P PH) _) rfl rfl ⟨by decide, by decide, by decide, by decide⟩ (Nat.le_of_ble_eq_true rfl) rfl ?_
  show Z E G (HM D V P PH) sz 0 0 (18, [some (.ref (D.1 37)), some (.int (nI a)), some (.int (nI b))], [.int (oI (sdo (F b))), .int (oI (sdo (F a)))])
  refine Z_br C it_Mm_canMove rfl rfl (fun hc1 => ?_) (fun hc1 => ?_)
  · replace hc1 := sdo_qn (hF a ha) (hF b hb) hc1
    refine Z_run C it_Mm_canMove 1 (f2 := (45, [some (.ref (D.1 37)), some (.int (nI a)), some (.int (nI b))], [.int (nI 0)])) rfl ?_
    exact Z_zret C q.e it_Mm_canMove rfl (Or.inl rfl) (zRet_i (bI_f (by unfold cmv; first | (simp [hc1]; done) | (simp [hc1, hc2]; done)))) (by decide) (by decide)
  · replace hc1 := sdo_qt (hF a ha) (hF b hb) hc1
    refine Z_run C it_Mm_canMove 2 (f2 := (23, [some (.ref (D.1 37)), some (.int (nI a)), some (.int (nI b))], [.ref (D.1 37), .ref (D.1 37)])) rfl ?_
    refine Zm_get C it_Mm_canMove hD rfl 37 wi_Mm (by decide) rfl rfl (j := 0) (by decide) fl_Mm_7 (v := .ref (D.1 38)) rfl ?_
    refine Z_run C it_Mm_canMove 1 (f2 := (27, [some (.ref (D.1 37)), some (.int (nI a)), some (.int (nI b))], [.int (nI a), .ref (D.1 38), .ref (D.1 37)])) rfl ?_
    refine Zm_ald C it_Mm_canMove hD 38 10 rfl (by decide) rfl (by decide) (by decide) rfl (j := a) (by omega) (v := .int (nI (mo (F a)))) (congrArg Value.int (hz a (by omega))) ?_
    refine Zr_callS C it_Mm_canMove rfl p_Mm_stepsOf ml_Mm_48 [.int (nI (mo (F a)))] (ct_Mm_stepsOf C.ev C.l (F a) (by first | assumption | omega | exact hF _ (by omega)) (by first | assumption | omega | exact hld_ne (by assumption)) (HM D V P PH) _) rfl rfl ⟨by decide, by decide, by decide, by decide⟩ (Nat.le_of_ble_eq_true rfl) rfl ?_
    show Z E G (HM D V P PH) sz 0 0 (31, [some (.ref (D.1 37)), some (.int (nI a)), some (.int (nI b))], [.int (nI (stp (F a))), .ref (D.1 37)])
    refine Z_run C it_Mm_canMove 3 (f2 := (34, [some (.ref (D.1 37)), some (.int (nI a)), some (.int (nI b))], [.int (nI 0), .int (nI b), .int (nI a), .int (nI (stp (F a))), .ref (D.1 37)])) rfl ?_
    refine Zr_callV C it_Mm_canMove hD rfl p_Mm_goes ml_Mm_75 37 (by decide) rfl rfl [.int (nI (stp (F a))), .int (nI a), .int (nI b), .int (nI 0)] (ct_Mm_goes_z C.ev C.l hD V P _ F hF hz (stp (F a)) (by first | exact stp_lt _ | omega) a (by first | assumption | omega) b (by first | assumption | omega) _) rfl rfl ⟨by decide, by decide, by decide, by decide⟩ (Nat.le_of_ble_eq_true rfl) rfl ?_
    show Z E G (HM D V P PH) sz 0 0 (37, [some (.ref (D.1 37)), some (.int (nI a)), some (.int (nI b))], [.int (bI (gop F (stp (F a)) a b 5))])
    refine Z_br C it_Mm_canMove rfl rfl (fun hc2 => ?_) (fun hc2 => ?_)
    · replace hc2 := bI_0.mp hc2
      refine Z_run C it_Mm_canMove 1 (f2 := (45, [some (.ref (D.1 37)), some (.int (nI a)), some (.int (nI b))], [.int (nI 0)])) rfl ?_
      exact Z_zret C q.e it_Mm_canMove rfl (Or.inl rfl) (zRet_i (bI_f (by unfold cmv; first | (simp [hc1]; done) | (simp [hc1, hc2]; done)))) (by decide) (by decide)
    · replace hc2 := bI_1.mp hc2
      refine Z_run C it_Mm_canMove 2 (f2 := (45, [some (.ref (D.1 37)), some (.int (nI a)), some (.int (nI b))], [.int (nI 1)])) rfl ?_
      exact Z_zret C q.e it_Mm_canMove rfl (Or.inr rfl) (zRet_i (bI_t (by unfold cmv; first | (simp [hc1]; done) | (simp [hc1, hc2]; done)))) (by decide) (by decide)
set_option maxRecDepth 20000 in
theorem lp_Mm_guarding {E : zE} {G : zG} {O : zO} (C : zCx E G c_Mm_guarding 5 y_Mm_guarding.cls y_Mm_guarding.name (some .int) rm_Mm_guarding) (q : zEndX E G O rm_Mm_guarding.cells rm_Mm_guarding.slots)  {D : zD} (hD : zDok E D) {V : Nat → Nat → Int32} {P : Nat → Nat → Value} {PH : aH} {F : Nat → Nat} (hF : okF F) (hz : ∀ k, k < 36 → V 38 k = nI (mo (F k))) {s : Nat} (hs : s < 2) {t : Nat} (ht : t < 36) {sz : Nat} (hO : O (.inl (some (.int (nI (cnt (fun k => hld F k s && gop F (stp (F k)) k t 5) 36))))) (HM D V P PH) sz) : ∀ (j i : Nat), 36 - i < j → i ≤ 36 → Z E G (HM D V P PH) sz 0 0 (5, [some (.ref (D.1 37)), some (.int (nI s)), some (.int (nI t)), some (.int (nI (cnt (fun k => hld F k s && gop F (stp (F k)) k t 5) i))), some (.int (nI i))], []) := by
  intro j
  induction j with
  | zero =>
    intro i h1 h2
    omega
  | succ j ih =>
    intro i h1 h2
    refine Z_run C it_Mm_guarding 2 (f2 := (9, [some (.ref (D.1 37)), some (.int (nI s)), some (.int (nI t)), some (.int (nI (cnt (fun k => hld F k s && gop F (stp (F k)) k t 5) i))), some (.int (nI i))], [.int (nI 36), .int (nI i)])) rfl ?_
    refine Z_br C it_Mm_guarding rfl rfl (fun hc1 => ?_) (fun hc1 => ?_)
    · replace hc1 := (nI_leI (a := 36) (b := i) (by omega) (by omega)).mp hc1
      refine Z_run C it_Mm_guarding 1 (f2 := (62, [some (.ref (D.1 37)), some (.int (nI s)), some (.int (nI t)), some (.int (nI (cnt (fun k => hld F k s && gop F (stp (F k)) k t 5) i))), some (.int (nI i))], [.int (nI (cnt (fun k => hld F k s && gop F (stp (F k)) k t 5) i))])) rfl ?_
      exact Z_iret C q.e it_Mm_guarding rfl ((show i = 36 by omega) ▸ hO) (by decide) (by decide)
    · replace hc1 : ¬ _ := fun z9 => hc1 ((nI_leI (a := 36) (b := i) (by omega) (by omega)).mpr z9)
      refine Z_run C it_Mm_guarding 2 (f2 := (14, [some (.ref (D.1 37)), some (.int (nI s)), some (.int (nI t)), some (.int (nI (cnt (fun k => hld F k s && gop F (stp (F k)) k t 5) i))), some (.int (nI i))], [.ref (D.1 37), .int (nI (cnt (fun k => hld F k s && gop F (stp (F k)) k t 5) i))])) rfl ?_
      refine Zm_get C it_Mm_guarding hD rfl 37 wi_Mm (by decide) rfl rfl (j := 0) (by decide) fl_Mm_7 (v := .ref (D.1 38)) rfl ?_
      refine Z_run C it_Mm_guarding 1 (f2 := (19, [some (.ref (D.1 37)), some (.int (nI s)), some (.int (nI t)), some (.int (nI (cnt (fun k => hld F k s && gop F (stp (F k)) k t 5) i))), some (.int (nI i))], [.int (nI i), .ref (D.1 38), .int (nI (cnt (fun k => hld F k s && gop F (stp (F k)) k t 5) i))])) rfl ?_
      refine Zm_ald C it_Mm_guarding hD 38 10 rfl (by decide) rfl (by decide) (by decide) rfl (j := i) (by omega) (v := .int (nI (mo (F i)))) (congrArg Value.int (hz i (by omega))) ?_
      refine Zr_callS C it_Mm_guarding rfl p_Mm_sideOf ml_Mm_58 [.int (nI (mo (F i)))] (ct_Mm_sideOf C.ev C.l (F i) (by first | assumption | omega | exact hF _ (by omega)) (HM D V P PH) _) rfl rfl ⟨by decide, by decide, by decide, by decide⟩ (Nat.le_of_ble_eq_true rfl) rfl ?_
      show Z E G (HM D V P PH) sz 0 0 (23, [some (.ref (D.1 37)), some (.int (nI s)), some (.int (nI t)), some (.int (nI (cnt (fun k => hld F k s && gop F (stp (F k)) k t 5) i))), some (.int (nI i))], [.int (oI (sdo (F i))), .int (nI (cnt (fun k => hld F k s && gop F (stp (F k)) k t 5) i))])
      refine Z_run C it_Mm_guarding 1 (f2 := (24, [some (.ref (D.1 37)), some (.int (nI s)), some (.int (nI t)), some (.int (nI (cnt (fun k => hld F k s && gop F (stp (F k)) k t 5) i))), some (.int (nI i))], [.int (nI s), .int (oI (sdo (F i))), .int (nI (cnt (fun k => hld F k s && gop F (stp (F k)) k t 5) i))])) rfl ?_
      refine Z_br C it_Mm_guarding rfl rfl (fun hc2 => ?_) (fun hc2 => ?_)
      · replace hc2 := (sdo_n (hF i (by omega)) hs).mp hc2
        refine Z_run C it_Mm_guarding 2 (f2 := (54, [some (.ref (D.1 37)), some (.int (nI s)), some (.int (nI t)), some (.int (nI (cnt (fun k => hld F k s && gop F (stp (F k)) k t 5) i))), some (.int (nI i))], [.int (nI (cnt (fun k => hld F k s && gop F (stp (F k)) k t 5) i) + nI 0)])) rfl ?_
        rw [nI_add (cnt (fun k => hld F k s && gop F (stp (F k)) k t 5) i) 0]
        refine Z_run C it_Mm_guarding 2 (f2 := (58, [some (.ref (D.1 37)), some (.int (nI s)), some (.int (nI t)), some (.int (nI (cnt (fun k => hld F k s && gop F (stp (F k)) k t 5) i + 0))), some (.int (nI i + nI 1))], [])) rfl ?_
        rw [nI_add i 1]
        refine Z_run C it_Mm_guarding 1 (f2 := (5, [some (.ref (D.1 37)), some (.int (nI s)), some (.int (nI t)), some (.int (nI (cnt (fun k => hld F k s && gop F (stp (F k)) k t 5) i + 0))), some (.int (nI (i + 1)))], [])) rfl ?_
        have e1 : nI (cnt (fun k => hld F k s && gop F (stp (F k)) k t 5) i + 0) = nI (cnt (fun k => hld F k s && gop F (stp (F k)) k t 5) (i + 1)) := by first | (simp [cnt, smp, hc2]; done) | (simp [cnt, smp, hc2, hc3]; done)
        refine (congrArg (fun z9 => Z E G (HM D V P PH) sz 0 0 (5, [some (.ref (D.1 37)), some (.int (nI s)), some (.int (nI t)), some (.int z9), some (.int (nI (i + 1)))], [])) e1).mpr ?_
        exact ih (i + 1) (by omega) (by omega)
      · replace hc2 := (sdo_hld (hF i (by omega)) hs).mp (Classical.not_not.mp hc2)
        refine Z_run C it_Mm_guarding 2 (f2 := (29, [some (.ref (D.1 37)), some (.int (nI s)), some (.int (nI t)), some (.int (nI (cnt (fun k => hld F k s && gop F (stp (F k)) k t 5) i))), some (.int (nI i))], [.ref (D.1 37), .ref (D.1 37), .int (nI (cnt (fun k => hld F k s && gop F (stp (F k)) k t 5) i))])) rfl ?_
        refine Zm_get C it_Mm_guarding hD rfl 37 wi_Mm (by decide) rfl rfl (j := 0) (by decide) fl_Mm_7 (v := .ref (D.1 38)) rfl ?_
        refine Z_run C it_Mm_guarding 1 (f2 := (34, [some (.ref (D.1 37)), some (.int (nI s)), some (.int (nI t)), some (.int (nI (cnt (fun k => hld F k s && gop F (stp (F k)) k t 5) i))), some (.int (nI i))], [.int (nI i), .ref (D.1 38), .ref (D.1 37), .int (nI (cnt (fun k => hld F k s && gop F (stp (F k)) k t 5) i))])) rfl ?_
        refine Zm_ald C it_Mm_guarding hD 38 10 rfl (by decide) rfl (by decide) (by decide) rfl (j := i) (by omega) (v := .int (nI (mo (F i)))) (congrArg Value.int (hz i (by omega))) ?_
        refine Zr_callS C it_Mm_guarding rfl p_Mm_stepsOf ml_Mm_48 [.int (nI (mo (F i)))] (ct_Mm_stepsOf C.ev C.l (F i) (by first | assumption | omega | exact hF _ (by omega)) (by first | assumption | omega | exact hld_ne (by assumption)) (HM D V P PH) _) rfl rfl ⟨by decide, by decide, by decide, by decide⟩ (Nat.le_of_ble_eq_true rfl) rfl ?_
        show Z E G (HM D V P PH) sz 0 0 (38, [some (.ref (D.1 37)), some (.int (nI s)), some (.int (nI t)), some (.int (nI (cnt (fun k => hld F k s && gop F (stp (F k)) k t 5) i))), some (.int (nI i))], [.int (nI (stp (F i))), .ref (D.1 37), .int (nI (cnt (fun k => hld F k s && gop F (stp (F k)) k t 5) i))])
        refine Z_run C it_Mm_guarding 3 (f2 := (42, [some (.ref (D.1 37)), some (.int (nI s)), some (.int (nI t)), some (.int (nI (cnt (fun k => hld F k s && gop F (stp (F k)) k t 5) i))), some (.int (nI i))], [.int (nI 0), .int (nI t), .int (nI i), .int (nI (stp (F i))), .ref (D.1 37), .int (nI (cnt (fun k => hld F k s && gop F (stp (F k)) k t 5) i))])) rfl ?_
        refine Zr_callV C it_Mm_guarding hD rfl p_Mm_goes ml_Mm_75 37 (by decide) rfl rfl [.int (nI (stp (F i))), .int (nI i), .int (nI t), .int (nI 0)] (ct_Mm_goes_z C.ev C.l hD V P _ F hF hz (stp (F i)) (by first | exact stp_lt _ | omega) i (by first | assumption | omega) t (by first | assumption | omega) _) rfl rfl ⟨by decide, by decide, by decide, by decide⟩ (Nat.le_of_ble_eq_true rfl) rfl ?_
        show Z E G (HM D V P PH) sz 0 0 (45, [some (.ref (D.1 37)), some (.int (nI s)), some (.int (nI t)), some (.int (nI (cnt (fun k => hld F k s && gop F (stp (F k)) k t 5) i))), some (.int (nI i))], [.int (bI (gop F (stp (F i)) i t 5)), .int (nI (cnt (fun k => hld F k s && gop F (stp (F k)) k t 5) i))])
        refine Z_br C it_Mm_guarding rfl rfl (fun hc3 => ?_) (fun hc3 => ?_)
        · replace hc3 := bI_0.mp hc3
          refine Z_run C it_Mm_guarding 2 (f2 := (54, [some (.ref (D.1 37)), some (.int (nI s)), some (.int (nI t)), some (.int (nI (cnt (fun k => hld F k s && gop F (stp (F k)) k t 5) i))), some (.int (nI i))], [.int (nI (cnt (fun k => hld F k s && gop F (stp (F k)) k t 5) i) + nI 0)])) rfl ?_
          rw [nI_add (cnt (fun k => hld F k s && gop F (stp (F k)) k t 5) i) 0]
          refine Z_run C it_Mm_guarding 2 (f2 := (58, [some (.ref (D.1 37)), some (.int (nI s)), some (.int (nI t)), some (.int (nI (cnt (fun k => hld F k s && gop F (stp (F k)) k t 5) i + 0))), some (.int (nI i + nI 1))], [])) rfl ?_
          rw [nI_add i 1]
          refine Z_run C it_Mm_guarding 1 (f2 := (5, [some (.ref (D.1 37)), some (.int (nI s)), some (.int (nI t)), some (.int (nI (cnt (fun k => hld F k s && gop F (stp (F k)) k t 5) i + 0))), some (.int (nI (i + 1)))], [])) rfl ?_
          have e2 : nI (cnt (fun k => hld F k s && gop F (stp (F k)) k t 5) i + 0) = nI (cnt (fun k => hld F k s && gop F (stp (F k)) k t 5) (i + 1)) := by first | (simp [cnt, smp, hc2]; done) | (simp [cnt, smp, hc2, hc3]; done)
          refine (congrArg (fun z9 => Z E G (HM D V P PH) sz 0 0 (5, [some (.ref (D.1 37)), some (.int (nI s)), some (.int (nI t)), some (.int z9), some (.int (nI (i + 1)))], [])) e2).mpr ?_
          exact ih (i + 1) (by omega) (by omega)
        · replace hc3 := bI_1.mp hc3
          refine Z_run C it_Mm_guarding 3 (f2 := (54, [some (.ref (D.1 37)), some (.int (nI s)), some (.int (nI t)), some (.int (nI (cnt (fun k => hld F k s && gop F (stp (F k)) k t 5) i))), some (.int (nI i))], [.int (nI (cnt (fun k => hld F k s && gop F (stp (F k)) k t 5) i) + nI 1)])) rfl ?_
          rw [nI_add (cnt (fun k => hld F k s && gop F (stp (F k)) k t 5) i) 1]
          refine Z_run C it_Mm_guarding 2 (f2 := (58, [some (.ref (D.1 37)), some (.int (nI s)), some (.int (nI t)), some (.int (nI (cnt (fun k => hld F k s && gop F (stp (F k)) k t 5) i + 1))), some (.int (nI i + nI 1))], [])) rfl ?_
          rw [nI_add i 1]
          refine Z_run C it_Mm_guarding 1 (f2 := (5, [some (.ref (D.1 37)), some (.int (nI s)), some (.int (nI t)), some (.int (nI (cnt (fun k => hld F k s && gop F (stp (F k)) k t 5) i + 1))), some (.int (nI (i + 1)))], [])) rfl ?_
          have e3 : nI (cnt (fun k => hld F k s && gop F (stp (F k)) k t 5) i + 1) = nI (cnt (fun k => hld F k s && gop F (stp (F k)) k t 5) (i + 1)) := by first | (simp [cnt, smp, hc2]; done) | (simp [cnt, smp, hc2, hc3]; done)
          refine (congrArg (fun z9 => Z E G (HM D V P PH) sz 0 0 (5, [some (.ref (D.1 37)), some (.int (nI s)), some (.int (nI t)), some (.int z9), some (.int (nI (i + 1)))], [])) e3).mpr ?_
          exact ih (i + 1) (by omega) (by omega)
set_option maxRecDepth 20000 in
theorem ct_Mm_guarding_z {E : zE} (hE : zEv E) {l : Launch} (hl : l.stackTraces = false) {D : zD} (hD : zDok E D) (V : Nat → Nat → Int32) (P : Nat → Nat → Value) (PH : aH) (F : Nat → Nat) (hF : okF F) (hz : ∀ k, k < 36 → V 38 k = nI (mo (F k))) (s : Nat) (hs : s < 2) (t : Nat) (ht : t < 36) (sz : Nat) : zM E l y_Mm_guarding [.code y_Mm_guarding c_Mm_guarding 5 (some .int)] rm_Mm_guarding [.ref (D.1 37), .int (nI s), .int (nI t)] (HM D V P PH) sz (zRet (some (.int (nI (cnt (fun k => hld F k s && gop F (stp (F k)) k t 5) 36)))) (HM D V P PH) sz) := by
  refine zM_of hE hl (by decide +kernel) [some (.ref (D.1 37)), some (.int (nI s)), some (.int (nI t)), none, none] ⟨rfl, rfl, Nat.le_of_ble_eq_true rfl⟩ ?_
  intro G C q htb
  refine Z_run C it_Mm_guarding 4 (f2 := (5, [some (.ref (D.1 37)), some (.int (nI s)), some (.int (nI t)), some (.int (nI 0)), some (.int (nI 0))], [])) rfl ?_
  exact lp_Mm_guarding C q hD hF hz hs ht ⟨rfl, rfl, rfl⟩ 37 0 (by omega) (by omega)
set_option maxRecDepth 20000 in
theorem lp_Mm_reached {E : zE} {G : zG} {O : zO} (C : zCx E G c_Mm_reached 5 y_Mm_reached.cls y_Mm_reached.name (some .long) rm_Mm_reached) (q : zEndX E G O rm_Mm_reached.cells rm_Mm_reached.slots)  {D : zD} (hD : zDok E D) {V : Nat → Nat → Int32} {P : Nat → Nat → Value} {PH : aH} {F : Nat → Nat} (hF : okF F) (hz : ∀ k, k < 36 → V 38 k = nI (mo (F k))) {a : Nat} (ha : a < 36) (ha0 : F a ≠ 0) {sz : Nat} (hO : O (.inl (some (.long (lN (bm (cmv F a) 36))))) (HM D V P PH) sz) : ∀ (j i : Nat), 36 - i < j → i ≤ 36 → Z E G (HM D V P PH) sz 0 0 (5, [some (.ref (D.1 37)), some (.int (nI a)), some (.long (lN (bm (cmv F a) i))), none, some (.int (nI i))], []) := by
  intro j
  induction j with
  | zero =>
    intro i h1 h2
    omega
  | succ j ih =>
    intro i h1 h2
    refine Z_run C it_Mm_reached 2 (f2 := (9, [some (.ref (D.1 37)), some (.int (nI a)), some (.long (lN (bm (cmv F a) i))), none, some (.int (nI i))], [.int (nI 36), .int (nI i)])) rfl ?_
    refine Z_br C it_Mm_reached rfl rfl (fun hc1 => ?_) (fun hc1 => ?_)
    · replace hc1 := (nI_leI (a := 36) (b := i) (by omega) (by omega)).mp hc1
      refine Z_run C it_Mm_reached 1 (f2 := (40, [some (.ref (D.1 37)), some (.int (nI a)), some (.long (lN (bm (cmv F a) i))), none, some (.int (nI i))], [.long (lN (bm (cmv F a) i))])) rfl ?_
      exact Z_lret C q.e it_Mm_reached rfl ((show i = 36 by omega) ▸ hO) (by decide) (by decide)
    · replace hc1 : ¬ _ := fun z9 => hc1 ((nI_leI (a := 36) (b := i) (by omega) (by omega)).mpr z9)
      refine Z_run C it_Mm_reached 4 (f2 := (17, [some (.ref (D.1 37)), some (.int (nI a)), some (.long (lN (bm (cmv F a) i))), none, some (.int (nI i))], [.int (nI i), .int (nI a), .ref (D.1 37), .long (lN (bm (cmv F a) i))])) rfl ?_
      refine Zr_callV C it_Mm_reached hD rfl p_Mm_canMove ml_Mm_78 37 (by decide) rfl rfl [.int (nI a), .int (nI i)] (ct_Mm_canMove_z C.ev C.l hD V P _ F hF hz a (by first | assumption | omega) (by first | assumption | exact hld_ne (by assumption)) i (by first | assumption | omega) _) rfl rfl ⟨by decide, by decide, by decide, by decide⟩ (Nat.le_of_ble_eq_true rfl) rfl ?_
      show Z E G (HM D V P PH) sz 0 0 (20, [some (.ref (D.1 37)), some (.int (nI a)), some (.long (lN (bm (cmv F a) i))), none, some (.int (nI i))], [.int (bI (cmv F a i)), .long (lN (bm (cmv F a) i))])
      refine Z_br C it_Mm_reached rfl rfl (fun hc2 => ?_) (fun hc2 => ?_)
      · replace hc2 := bI_0.mp hc2
        refine Z_run C it_Mm_reached 4 (f2 := (36, [some (.ref (D.1 37)), some (.int (nI a)), some (.long (lN (bm (cmv F a) i) ||| lN 0)), none, some (.int (nI i + nI 1))], [])) rfl ?_
        rw [nI_add i 1]
        refine Z_run C it_Mm_reached 1 (f2 := (5, [some (.ref (D.1 37)), some (.int (nI a)), some (.long (lN (bm (cmv F a) i) ||| lN 0)), none, some (.int (nI (i + 1)))], [])) rfl ?_
        have e1 : lN (bm (cmv F a) i) ||| lN 0 = lN (bm (cmv F a) (i + 1)) := by rw [← bm_f (b := (cmv F a)) hc2]; exact lN_or0 (by have := bm_lt (cmv F a) i; have h9 : 2 ^ i ≤ 2 ^ 36 := Nat.pow_le_pow_right (by decide) (by omega); omega)
        refine (congrArg (fun z9 => Z E G (HM D V P PH) sz 0 0 (5, [some (.ref (D.1 37)), some (.int (nI a)), some (.long z9), none, some (.int (nI (i + 1)))], [])) e1).mpr ?_
        exact ih (i + 1) (by omega) (by omega)
      · replace hc2 := bI_1.mp hc2
        refine Z_run C it_Mm_reached 7 (f2 := (36, [some (.ref (D.1 37)), some (.int (nI a)), some (.long (lN (bm (cmv F a) i) ||| (lN 1 <<< ((nI i).toInt64 &&& 63)))), none, some (.int (nI i + nI 1))], [])) rfl ?_
        rw [nI_add i 1]
        refine Z_run C it_Mm_reached 1 (f2 := (5, [some (.ref (D.1 37)), some (.int (nI a)), some (.long (lN (bm (cmv F a) i) ||| (lN 1 <<< ((nI i).toInt64 &&& 63)))), none, some (.int (nI (i + 1)))], [])) rfl ?_
        have e2 : lN (bm (cmv F a) i) ||| (lN 1 <<< ((nI i).toInt64 &&& 63)) = lN (bm (cmv F a) (i + 1)) := bm_t (b := (cmv F a)) (by omega) hc2
        refine (congrArg (fun z9 => Z E G (HM D V P PH) sz 0 0 (5, [some (.ref (D.1 37)), some (.int (nI a)), some (.long z9), none, some (.int (nI (i + 1)))], [])) e2).mpr ?_
        exact ih (i + 1) (by omega) (by omega)
set_option maxRecDepth 20000 in
theorem ct_Mm_reached_z {E : zE} (hE : zEv E) {l : Launch} (hl : l.stackTraces = false) {D : zD} (hD : zDok E D) (V : Nat → Nat → Int32) (P : Nat → Nat → Value) (PH : aH) (F : Nat → Nat) (hF : okF F) (hz : ∀ k, k < 36 → V 38 k = nI (mo (F k))) (a : Nat) (ha : a < 36) (ha0 : F a ≠ 0) (sz : Nat) : zM E l y_Mm_reached [.code y_Mm_reached c_Mm_reached 5 (some .long)] rm_Mm_reached [.ref (D.1 37), .int (nI a)] (HM D V P PH) sz (zRet (some (.long (lN (bm (cmv F a) 36)))) (HM D V P PH) sz) := by
  refine zM_of hE hl (by decide +kernel) [some (.ref (D.1 37)), some (.int (nI a)), none, none, none] ⟨rfl, rfl, Nat.le_of_ble_eq_true rfl⟩ ?_
  intro G C q htb
  refine Z_run C it_Mm_reached 4 (f2 := (5, [some (.ref (D.1 37)), some (.int (nI a)), some (.long (lN 0)), none, some (.int (nI 0))], [])) rfl ?_
  exact lp_Mm_reached C q hD hF hz ha ha0 ⟨rfl, rfl, rfl⟩ 37 0 (by omega) (by omega)
set_option maxRecDepth 20000 in
theorem lp_Mm_movesOf1 {E : zE} {G : zG} {O : zO} (C : zCx E G c_Mm_movesOf 5 y_Mm_movesOf.cls y_Mm_movesOf.name (some .int) rm_Mm_movesOf) (q : zEndX E G O rm_Mm_movesOf.cells rm_Mm_movesOf.slots)  {D : zD} (hD : zDok E D) {V : Nat → Nat → Int32} {P : Nat → Nat → Value} {PH : aH} {F : Nat → Nat} (hF : okF F) (hz : ∀ k, k < 36 → V 38 k = nI (mo (F k))) {s : Nat} (hs : s < 2) {a : Nat} (ha : a < 36) {sz : Nat} (kk : Z E G (HM D V P PH) sz 0 0 (4, [some (.ref (D.1 37)), some (.int (nI s)), some (.int (nI (mvo F s (a + 1)))), some (.int (nI (a + 1))), none], [])) : ∀ (j i : Nat), 36 - i < j → i ≤ 36 → Z E G (HM D V P PH) sz 0 0 (13, [some (.ref (D.1 37)), some (.int (nI s)), some (.int (nI (mvo F s a + cnt (fun b => hld F a s && cmv F a b) i))), some (.int (nI a)), some (.int (nI i))], []) := by
  intro j
  induction j with
  | zero =>
    intro i h1 h2
    omega
  | succ j ih =>
    intro i h1 h2
    have hm9 := mvo_le (F := F) (s := s) (n := a)
    have hm8 := cnt_le (b := (fun b => hld F a s && cmv F a b)) (n := i)
    refine Z_run C it_Mm_movesOf 2 (f2 := (17, [some (.ref (D.1 37)), some (.int (nI s)), some (.int (nI (mvo F s a + cnt (fun b => hld F a s && cmv F a b) i))), some (.int (nI a)), some (.int (nI i))], [.int (nI 36), .int (nI i)])) rfl ?_
    refine Z_br C it_Mm_movesOf rfl rfl (fun hc1 => ?_) (fun hc1 => ?_)
    · replace hc1 := (nI_leI (a := 36) (b := i) (by omega) (by omega)).mp hc1
      refine Z_run C it_Mm_movesOf 1 (f2 := (60, [some (.ref (D.1 37)), some (.int (nI s)), some (.int (nI (mvo F s a + cnt (fun b => hld F a s && cmv F a b) i))), some (.int (nI a + nI 1)), some (.int (nI i))], [])) rfl ?_
      rw [nI_add a 1]
      refine Z_run C it_Mm_movesOf 1 (f2 := (4, [some (.ref (D.1 37)), some (.int (nI s)), some (.int (nI (mvo F s a + cnt (fun b => hld F a s && cmv F a b) i))), some (.int (nI (a + 1))), some (.int (nI i))], [])) rfl ?_
      have h36 : i = 36 := by omega
      have e9 : mvo F s a + cnt (fun b => hld F a s && cmv F a b) i = mvo F s (a + 1) := by rw [h36]; rfl
      rw [e9]
      refine Z_sub (ls2 := [some (.ref (D.1 37)), some (.int (nI s)), some (.int (nI (mvo F s (a + 1)))), some (.int (nI (a + 1))), none]) (by simp [zsubl]) ?_
      exact kk
    · replace hc1 : ¬ _ := fun z9 => hc1 ((nI_leI (a := 36) (b := i) (by omega) (by omega)).mpr z9)
      refine Z_run C it_Mm_movesOf 2 (f2 := (22, [some (.ref (D.1 37)), some (.int (nI s)), some (.int (nI (mvo F s a + cnt (fun b => hld F a s && cmv F a b) i))), some (.int (nI a)), some (.int (nI i))], [.ref (D.1 37), .int (nI (mvo F s a + cnt (fun b => hld F a s && cmv F a b) i))])) rfl ?_
      refine Zm_get C it_Mm_movesOf hD rfl 37 wi_Mm (by decide) rfl rfl (j := 0) (by decide) fl_Mm_7 (v := .ref (D.1 38)) rfl ?_
      refine Z_run C it_Mm_movesOf 1 (f2 := (26, [some (.ref (D.1 37)), some (.int (nI s)), some (.int (nI (mvo F s a + cnt (fun b => hld F a s && cmv F a b) i))), some (.int (nI a)), some (.int (nI i))], [.int (nI a), .ref (D.1 38), .int (nI (mvo F s a + cnt (fun b => hld F a s && cmv F a b) i))])) rfl ?_
      refine Zm_ald C it_Mm_movesOf hD 38 10 rfl (by decide) rfl (by decide) (by decide) rfl (j := a) (by omega) (v := .int (nI (mo (F a)))) (congrArg Value.int (hz a (by omega))) ?_
      refine Zr_callS C it_Mm_movesOf rfl p_Mm_sideOf ml_Mm_58 [.int (nI (mo (F a)))] (ct_Mm_sideOf C.ev C.l (F a) (by first | assumption | omega | exact hF _ (by omega)) (HM D V P PH) _) rfl rfl ⟨by decide, by decide, by decide, by decide⟩ (Nat.le_of_ble_eq_true rfl) rfl ?_
      show Z E G (HM D V P PH) sz 0 0 (30, [some (.ref (D.1 37)), some (.int (nI s)), some (.int (nI (mvo F s a + cnt (fun b => hld F a s && cmv F a b) i))), some (.int (nI a)), some (.int (nI i))], [.int (oI (sdo (F a))), .int (nI (mvo F s a + cnt (fun b => hld F a s && cmv F a b) i))])
      refine Z_run C it_Mm_movesOf 1 (f2 := (31, [some (.ref (D.1 37)), some (.int (nI s)), some (.int (nI (mvo F s a + cnt (fun b => hld F a s && cmv F a b) i))), some (.int (nI a)), some (.int (nI i))], [.int (nI s), .int (oI (sdo (F a))), .int (nI (mvo F s a + cnt (fun b => hld F a s && cmv F a b) i))])) rfl ?_
      refine Z_br C it_Mm_movesOf rfl rfl (fun hc2 => ?_) (fun hc2 => ?_)
      · replace hc2 := (sdo_n (hF a (by omega)) hs).mp hc2
        refine Z_run C it_Mm_movesOf 2 (f2 := (50, [some (.ref (D.1 37)), some (.int (nI s)), some (.int (nI (mvo F s a + cnt (fun b => hld F a s && cmv F a b) i))), some (.int (nI a)), some (.int (nI i))], [.int (nI (mvo F s a + cnt (fun b => hld F a s && cmv F a b) i) + nI 0)])) rfl ?_
        rw [nI_add (mvo F s a + cnt (fun b => hld F a s && cmv F a b) i) 0]
        refine Z_run C it_Mm_movesOf 2 (f2 := (54, [some (.ref (D.1 37)), some (.int (nI s)), some (.int (nI (mvo F s a + cnt (fun b => hld F a s && cmv F a b) i + 0))), some (.int (nI a)), some (.int (nI i + nI 1))], [])) rfl ?_
        rw [nI_add i 1]
        refine Z_run C it_Mm_movesOf 1 (f2 := (13, [some (.ref (D.1 37)), some (.int (nI s)), some (.int (nI (mvo F s a + cnt (fun b => hld F a s && cmv F a b) i + 0))), some (.int (nI a)), some (.int (nI (i + 1)))], [])) rfl ?_
        have e1 : nI (mvo F s a + cnt (fun b => hld F a s && cmv F a b) i + 0) = nI (mvo F s a + cnt (fun b => hld F a s && cmv F a b) (i + 1)) := by first | (simp [cnt, smp, hc2, hc3, Nat.add_assoc]; done) | (simp [cnt, smp, hc2, Nat.add_assoc]; done)
        refine (congrArg (fun z9 => Z E G (HM D V P PH) sz 0 0 (13, [some (.ref (D.1 37)), some (.int (nI s)), some (.int z9), some (.int (nI a)), some (.int (nI (i + 1)))], [])) e1).mpr ?_
        exact ih (i + 1) (by omega) (by omega)
      · replace hc2 := (sdo_hld (hF a (by omega)) hs).mp (Classical.not_not.mp hc2)
        refine Z_run C it_Mm_movesOf 3 (f2 := (38, [some (.ref (D.1 37)), some (.int (nI s)), some (.int (nI (mvo F s a + cnt (fun b => hld F a s && cmv F a b) i))), some (.int (nI a)), some (.int (nI i))], [.int (nI i), .int (nI a), .ref (D.1 37), .int (nI (mvo F s a + cnt (fun b => hld F a s && cmv F a b) i))])) rfl ?_
        refine Zr_callV C it_Mm_movesOf hD rfl p_Mm_canMove ml_Mm_78 37 (by decide) rfl rfl [.int (nI a), .int (nI i)] (ct_Mm_canMove_z C.ev C.l hD V P _ F hF hz a (by first | assumption | omega) (by first | assumption | exact hld_ne (by assumption)) i (by first | assumption | omega) _) rfl rfl ⟨by decide, by decide, by decide, by decide⟩ (Nat.le_of_ble_eq_true rfl) rfl ?_
        show Z E G (HM D V P PH) sz 0 0 (41, [some (.ref (D.1 37)), some (.int (nI s)), some (.int (nI (mvo F s a + cnt (fun b => hld F a s && cmv F a b) i))), some (.int (nI a)), some (.int (nI i))], [.int (bI (cmv F a i)), .int (nI (mvo F s a + cnt (fun b => hld F a s && cmv F a b) i))])
        refine Z_br C it_Mm_movesOf rfl rfl (fun hc3 => ?_) (fun hc3 => ?_)
        · replace hc3 := bI_0.mp hc3
          refine Z_run C it_Mm_movesOf 2 (f2 := (50, [some (.ref (D.1 37)), some (.int (nI s)), some (.int (nI (mvo F s a + cnt (fun b => hld F a s && cmv F a b) i))), some (.int (nI a)), some (.int (nI i))], [.int (nI (mvo F s a + cnt (fun b => hld F a s && cmv F a b) i) + nI 0)])) rfl ?_
          rw [nI_add (mvo F s a + cnt (fun b => hld F a s && cmv F a b) i) 0]
          refine Z_run C it_Mm_movesOf 2 (f2 := (54, [some (.ref (D.1 37)), some (.int (nI s)), some (.int (nI (mvo F s a + cnt (fun b => hld F a s && cmv F a b) i + 0))), some (.int (nI a)), some (.int (nI i + nI 1))], [])) rfl ?_
          rw [nI_add i 1]
          refine Z_run C it_Mm_movesOf 1 (f2 := (13, [some (.ref (D.1 37)), some (.int (nI s)), some (.int (nI (mvo F s a + cnt (fun b => hld F a s && cmv F a b) i + 0))), some (.int (nI a)), some (.int (nI (i + 1)))], [])) rfl ?_
          have e2 : nI (mvo F s a + cnt (fun b => hld F a s && cmv F a b) i + 0) = nI (mvo F s a + cnt (fun b => hld F a s && cmv F a b) (i + 1)) := by first | (simp [cnt, smp, hc2, hc3, Nat.add_assoc]; done) | (simp [cnt, smp, hc2, Nat.add_assoc]; done)
          refine (congrArg (fun z9 => Z E G (HM D V P PH) sz 0 0 (13, [some (.ref (D.1 37)), some (.int (nI s)), some (.int z9), some (.int (nI a)), some (.int (nI (i + 1)))], [])) e2).mpr ?_
          exact ih (i + 1) (by omega) (by omega)
        · replace hc3 := bI_1.mp hc3
          refine Z_run C it_Mm_movesOf 3 (f2 := (50, [some (.ref (D.1 37)), some (.int (nI s)), some (.int (nI (mvo F s a + cnt (fun b => hld F a s && cmv F a b) i))), some (.int (nI a)), some (.int (nI i))], [.int (nI (mvo F s a + cnt (fun b => hld F a s && cmv F a b) i) + nI 1)])) rfl ?_
          rw [nI_add (mvo F s a + cnt (fun b => hld F a s && cmv F a b) i) 1]
          refine Z_run C it_Mm_movesOf 2 (f2 := (54, [some (.ref (D.1 37)), some (.int (nI s)), some (.int (nI (mvo F s a + cnt (fun b => hld F a s && cmv F a b) i + 1))), some (.int (nI a)), some (.int (nI i + nI 1))], [])) rfl ?_
          rw [nI_add i 1]
          refine Z_run C it_Mm_movesOf 1 (f2 := (13, [some (.ref (D.1 37)), some (.int (nI s)), some (.int (nI (mvo F s a + cnt (fun b => hld F a s && cmv F a b) i + 1))), some (.int (nI a)), some (.int (nI (i + 1)))], [])) rfl ?_
          have e3 : nI (mvo F s a + cnt (fun b => hld F a s && cmv F a b) i + 1) = nI (mvo F s a + cnt (fun b => hld F a s && cmv F a b) (i + 1)) := by first | (simp [cnt, smp, hc2, hc3, Nat.add_assoc]; done) | (simp [cnt, smp, hc2, Nat.add_assoc]; done)
          refine (congrArg (fun z9 => Z E G (HM D V P PH) sz 0 0 (13, [some (.ref (D.1 37)), some (.int (nI s)), some (.int z9), some (.int (nI a)), some (.int (nI (i + 1)))], [])) e3).mpr ?_
          exact ih (i + 1) (by omega) (by omega)
set_option maxRecDepth 20000 in
theorem lp_Mm_movesOf2 {E : zE} {G : zG} {O : zO} (C : zCx E G c_Mm_movesOf 5 y_Mm_movesOf.cls y_Mm_movesOf.name (some .int) rm_Mm_movesOf) (q : zEndX E G O rm_Mm_movesOf.cells rm_Mm_movesOf.slots)  {D : zD} (hD : zDok E D) {V : Nat → Nat → Int32} {P : Nat → Nat → Value} {PH : aH} {F : Nat → Nat} (hF : okF F) (hz : ∀ k, k < 36 → V 38 k = nI (mo (F k))) {s : Nat} (hs : s < 2) {sz : Nat} (hO : O (.inl (some (.int (nI (mvo F s 36))))) (HM D V P PH) sz) : ∀ (j i : Nat), 36 - i < j → i ≤ 36 → Z E G (HM D V P PH) sz 0 0 (4, [some (.ref (D.1 37)), some (.int (nI s)), some (.int (nI (mvo F s i))), some (.int (nI i)), none], []) := by
  intro j
  induction j with
  | zero =>
    intro i h1 h2
    omega
  | succ j ih =>
    intro i h1 h2
    refine Z_run C it_Mm_movesOf 2 (f2 := (7, [some (.ref (D.1 37)), some (.int (nI s)), some (.int (nI (mvo F s i))), some (.int (nI i)), none], [.int (nI 36), .int (nI i)])) rfl ?_
    refine Z_br C it_Mm_movesOf rfl rfl (fun hc1 => ?_) (fun hc1 => ?_)
    · replace hc1 := (nI_leI (a := 36) (b := i) (by omega) (by omega)).mp hc1
      refine Z_run C it_Mm_movesOf 1 (f2 := (64, [some (.ref (D.1 37)), some (.int (nI s)), some (.int (nI (mvo F s i))), some (.int (nI i)), none], [.int (nI (mvo F s i))])) rfl ?_
      exact Z_iret C q.e it_Mm_movesOf rfl ((show i = 36 by omega) ▸ hO) (by decide) (by decide)
    · replace hc1 : ¬ _ := fun z9 => hc1 ((nI_leI (a := 36) (b := i) (by omega) (by omega)).mpr z9)
      refine Z_run C it_Mm_movesOf 2 (f2 := (13, [some (.ref (D.1 37)), some (.int (nI s)), some (.int (nI (mvo F s i))), some (.int (nI i)), some (.int (nI 0))], [])) rfl ?_
      refine lp_Mm_movesOf1 C q hD hF hz hs (a := i) (by omega) ?_ 37 0 (by omega) (by omega)
      exact ih (i + 1) (by omega) (by omega)
set_option maxRecDepth 20000 in
theorem ct_Mm_movesOf_z {E : zE} (hE : zEv E) {l : Launch} (hl : l.stackTraces = false) {D : zD} (hD : zDok E D) (V : Nat → Nat → Int32) (P : Nat → Nat → Value) (PH : aH) (F : Nat → Nat) (hF : okF F) (hz : ∀ k, k < 36 → V 38 k = nI (mo (F k))) (s : Nat) (hs : s < 2) (sz : Nat) : zM E l y_Mm_movesOf [.code y_Mm_movesOf c_Mm_movesOf 5 (some .int)] rm_Mm_movesOf [.ref (D.1 37), .int (nI s)] (HM D V P PH) sz (zRet (some (.int (nI (mvo F s 36)))) (HM D V P PH) sz) := by
  refine zM_of hE hl (by decide +kernel) [some (.ref (D.1 37)), some (.int (nI s)), none, none, none] ⟨rfl, rfl, Nat.le_of_ble_eq_true rfl⟩ ?_
  intro G C q htb
  refine Z_run C it_Mm_movesOf 4 (f2 := (4, [some (.ref (D.1 37)), some (.int (nI s)), some (.int (nI 0)), some (.int (nI 0)), none], [])) rfl ?_
  exact lp_Mm_movesOf2 C q hD hF hz hs ⟨rfl, rfl, rfl⟩ 37 0 (by omega) (by omega)
set_option maxRecDepth 20000 in
theorem ct_Mm_why_z {E : zE} (hE : zEv E) {l : Launch} (hl : l.stackTraces = false) {D : zD} (hD : zDok E D) (V : Nat → Nat → Int32) (P : Nat → Nat → Value) (PH : aH) (F : Nat → Nat) (hF : okF F) (hz : ∀ k, k < 36 → V 38 k = nI (mo (F k))) (st : Bool) (hst : V 38 36 = bI st) (ov : Bool) (hov : V 38 37 = bI ov) (tn : Nat) (htn : tn < 2) (htn9 : V 38 39 = nI tn) (a : Nat) (ha : a < 36) (b : Nat) (hb : b < 36) (sz : Nat) : zM E l y_Mm_why [.code y_Mm_why c_Mm_why 3 (some .int)] rm_Mm_why [.ref (D.1 37), .int (nI a), .int (nI b)] (HM D V P PH) sz (zRet (some (.int (nI (whm st ov F tn a b)))) (HM D V P PH) sz) := by
  refine zM_of hE hl (by decide +kernel) [some (.ref (D.1 37)), some (.int (nI a)), some (.int (nI b))] ⟨rfl, rfl, Nat.le_of_ble_eq_true rfl⟩ ?_
  intro G C q htb
  have hFa := hF a ha
  have hFb := hF b hb
  refine Z_run C it_Mm_why 1 (f2 := (1, [some (.ref (D.1 37)), some (.int (nI a)), some (.int (nI b))], [.ref (D.1 37)])) rfl ?_
  refine Zm_get C it_Mm_why hD rfl 37 wi_Mm (by decide) rfl rfl (j := 0) (by decide) fl_Mm_7 (v := .ref (D.1 38)) rfl ?_
  refine Z_run C it_Mm_why 1 (f2 := (6, [some (.ref (D.1 37)), some (.int (nI a)), some (.int (nI b))], [.int (nI 36), .ref (D.1 38)])) rfl ?_
  refine Zm_ald C it_Mm_why hD 38 10 rfl (by decide) rfl (by decide) (by decide) rfl (j := 36) (by omega) (v := .int (bI st)) (congrArg Value.int hst) ?_
  refine Z_br C it_Mm_why rfl rfl (fun hc1 => ?_) (fun hc1 => ?_)
  · replace hc1 := bI_0.mp hc1
    refine Z_run C it_Mm_why 1 (f2 := (22, [some (.ref (D.1 37)), some (.int (nI a)), some (.int (nI b))], [.int (nI 1)])) rfl ?_
    exact Z_iret C q.e it_Mm_why rfl (zRet_i (by have z9 : whm st ov F tn a b = 1 := (by unfold whm; first | (simp [hc1]; done) | (simp [hc1, hc2]; done) | (simp [hc1, hc2, hc3]; done) | (simp [hc1, hc2, hc3, hc4]; done) | (simp [hc1, hc2, hc3, hc4, hc5]; done)); rw [z9])) (by decide) (by decide)
  · replace hc1 := bI_1.mp hc1
    refine Z_run C it_Mm_why 1 (f2 := (11, [some (.ref (D.1 37)), some (.int (nI a)), some (.int (nI b))], [.ref (D.1 37)])) rfl ?_
    refine Zm_get C it_Mm_why hD rfl 37 wi_Mm (by decide) rfl rfl (j := 0) (by decide) fl_Mm_7 (v := .ref (D.1 38)) rfl ?_
    refine Z_run C it_Mm_why 1 (f2 := (16, [some (.ref (D.1 37)), some (.int (nI a)), some (.int (nI b))], [.int (nI 37), .ref (D.1 38)])) rfl ?_
    refine Zm_ald C it_Mm_why hD 38 10 rfl (by decide) rfl (by decide) (by decide) rfl (j := 37) (by omega) (v := .int (bI ov)) (congrArg Value.int hov) ?_
    refine Z_run C it_Mm_why 1 (f2 := (18, [some (.ref (D.1 37)), some (.int (nI a)), some (.int (nI b))], [.int (nI 1), .int (bI ov)])) rfl ?_
    refine Z_br C it_Mm_why rfl rfl (fun hc2 => ?_) (fun hc2 => ?_)
    · replace hc2 : ov = false := by rw [← Bool.not_eq_true]; exact fun z9 => hc2 (bI_eq1.mpr z9)
      refine Z_run C it_Mm_why 1 (f2 := (24, [some (.ref (D.1 37)), some (.int (nI a)), some (.int (nI b))], [.ref (D.1 37)])) rfl ?_
      refine Zm_get C it_Mm_why hD rfl 37 wi_Mm (by decide) rfl rfl (j := 0) (by decide) fl_Mm_7 (v := .ref (D.1 38)) rfl ?_
      refine Z_run C it_Mm_why 1 (f2 := (28, [some (.ref (D.1 37)), some (.int (nI a)), some (.int (nI b))], [.int (nI a), .ref (D.1 38)])) rfl ?_
      refine Zm_ald C it_Mm_why hD 38 10 rfl (by decide) rfl (by decide) (by decide) rfl (j := a) (by omega) (v := .int (nI (mo (F a)))) (congrArg Value.int (hz a (by omega))) ?_
      refine Zr_callS C it_Mm_why rfl p_Mm_sideOf ml_Mm_58 [.int (nI (mo (F a)))] (ct_Mm_sideOf C.ev C.l (F a) (by first | assumption | omega | exact hF _ (by omega)) (HM D V P PH) _) rfl rfl ⟨by decide, by decide, by decide, by decide⟩ (Nat.le_of_ble_eq_true rfl) rfl ?_
      show Z E G (HM D V P PH) sz 0 0 (32, [some (.ref (D.1 37)), some (.int (nI a)), some (.int (nI b))], [.int (oI (sdo (F a)))])
      refine Z_run C it_Mm_why 1 (f2 := (33, [some (.ref (D.1 37)), some (.int (nI a)), some (.int (nI b))], [.ref (D.1 37), .int (oI (sdo (F a)))])) rfl ?_
      refine Zm_get C it_Mm_why hD rfl 37 wi_Mm (by decide) rfl rfl (j := 0) (by decide) fl_Mm_7 (v := .ref (D.1 38)) rfl ?_
      refine Z_run C it_Mm_why 1 (f2 := (38, [some (.ref (D.1 37)), some (.int (nI a)), some (.int (nI b))], [.int (nI 39), .ref (D.1 38), .int (oI (sdo (F a)))])) rfl ?_
      refine Zm_ald C it_Mm_why hD 38 10 rfl (by decide) rfl (by decide) (by decide) rfl (j := 39) (by omega) (v := .int (nI tn)) (congrArg Value.int htn9) ?_
      refine Z_br C it_Mm_why rfl rfl (fun hc3 => ?_) (fun hc3 => ?_)
      · replace hc3 := (sdo_hld (hF a (by omega)) htn).mp hc3
        refine Z_run C it_Mm_why 1 (f2 := (45, [some (.ref (D.1 37)), some (.int (nI a)), some (.int (nI b))], [.ref (D.1 37)])) rfl ?_
        refine Zm_get C it_Mm_why hD rfl 37 wi_Mm (by decide) rfl rfl (j := 0) (by decide) fl_Mm_7 (v := .ref (D.1 38)) rfl ?_
        refine Z_run C it_Mm_why 1 (f2 := (49, [some (.ref (D.1 37)), some (.int (nI a)), some (.int (nI b))], [.int (nI b), .ref (D.1 38)])) rfl ?_
        refine Zm_ald C it_Mm_why hD 38 10 rfl (by decide) rfl (by decide) (by decide) rfl (j := b) (by omega) (v := .int (nI (mo (F b)))) (congrArg Value.int (hz b (by omega))) ?_
        refine Zr_callS C it_Mm_why rfl p_Mm_sideOf ml_Mm_58 [.int (nI (mo (F b)))] (ct_Mm_sideOf C.ev C.l (F b) (by first | assumption | omega | exact hF _ (by omega)) (HM D V P PH) _) rfl rfl ⟨by decide, by decide, by decide, by decide⟩ (Nat.le_of_ble_eq_true rfl) rfl ?_
        show Z E G (HM D V P PH) sz 0 0 (53, [some (.ref (D.1 37)), some (.int (nI a)), some (.int (nI b))], [.int (oI (sdo (F b)))])
        refine Z_run C it_Mm_why 1 (f2 := (54, [some (.ref (D.1 37)), some (.int (nI a)), some (.int (nI b))], [.ref (D.1 37), .int (oI (sdo (F b)))])) rfl ?_
        refine Zm_get C it_Mm_why hD rfl 37 wi_Mm (by decide) rfl rfl (j := 0) (by decide) fl_Mm_7 (v := .ref (D.1 38)) rfl ?_
        refine Z_run C it_Mm_why 1 (f2 := (59, [some (.ref (D.1 37)), some (.int (nI a)), some (.int (nI b))], [.int (nI 39), .ref (D.1 38), .int (oI (sdo (F b)))])) rfl ?_
        refine Zm_ald C it_Mm_why hD 38 10 rfl (by decide) rfl (by decide) (by decide) rfl (j := 39) (by omega) (v := .int (nI tn)) (congrArg Value.int htn9) ?_
        refine Z_br C it_Mm_why rfl rfl (fun hc4 => ?_) (fun hc4 => ?_)
        · replace hc4 := (sdo_n (hF b (by omega)) htn).mp hc4
          refine Z_run C it_Mm_why 3 (f2 := (70, [some (.ref (D.1 37)), some (.int (nI a)), some (.int (nI b))], [.int (nI b), .int (nI a), .ref (D.1 37)])) rfl ?_
          refine Zr_callV C it_Mm_why hD rfl p_Mm_canMove ml_Mm_78 37 (by decide) rfl rfl [.int (nI a), .int (nI b)] (ct_Mm_canMove_z C.ev C.l hD V P _ F hF hz a (by first | assumption | omega) (by first | assumption | exact hld_ne (by assumption)) b (by first | assumption | omega) _) rfl rfl ⟨by decide, by decide, by decide, by decide⟩ (Nat.le_of_ble_eq_true rfl) rfl ?_
          show Z E G (HM D V P PH) sz 0 0 (73, [some (.ref (D.1 37)), some (.int (nI a)), some (.int (nI b))], [.int (bI (cmv F a b))])
          refine Z_br C it_Mm_why rfl rfl (fun hc5 => ?_) (fun hc5 => ?_)
          · replace hc5 := bI_0.mp hc5
            refine Z_run C it_Mm_why 1 (f2 := (81, [some (.ref (D.1 37)), some (.int (nI a)), some (.int (nI b))], [.int (nI 4)])) rfl ?_
            exact Z_iret C q.e it_Mm_why rfl (zRet_i (by have z9 : whm st ov F tn a b = 4 := (by unfold whm; first | (simp [hc1]; done) | (simp [hc1, hc2]; done) | (simp [hc1, hc2, hc3]; done) | (simp [hc1, hc2, hc3, hc4]; done) | (simp [hc1, hc2, hc3, hc4, hc5]; done)); rw [z9])) (by decide) (by decide)
          · replace hc5 := bI_1.mp hc5
            refine Z_run C it_Mm_why 2 (f2 := (81, [some (.ref (D.1 37)), some (.int (nI a)), some (.int (nI b))], [.int (nI 0)])) rfl ?_
            exact Z_iret C q.e it_Mm_why rfl (zRet_i (by have z9 : whm st ov F tn a b = 0 := (by unfold whm; first | (simp [hc1]; done) | (simp [hc1, hc2]; done) | (simp [hc1, hc2, hc3]; done) | (simp [hc1, hc2, hc3, hc4]; done) | (simp [hc1, hc2, hc3, hc4, hc5]; done)); rw [z9])) (by decide) (by decide)
        · replace hc4 := (sdo_hld (hF b (by omega)) htn).mp (Classical.not_not.mp hc4)
          refine Z_run C it_Mm_why 2 (f2 := (81, [some (.ref (D.1 37)), some (.int (nI a)), some (.int (nI b))], [.int (nI 3)])) rfl ?_
          exact Z_iret C q.e it_Mm_why rfl (zRet_i (by have z9 : whm st ov F tn a b = 3 := (by unfold whm; first | (simp [hc1]; done) | (simp [hc1, hc2]; done) | (simp [hc1, hc2, hc3]; done) | (simp [hc1, hc2, hc3, hc4]; done) | (simp [hc1, hc2, hc3, hc4, hc5]; done)); rw [z9])) (by decide) (by decide)
      · replace hc3 := (sdo_n (hF a (by omega)) htn).mp hc3
        refine Z_run C it_Mm_why 1 (f2 := (43, [some (.ref (D.1 37)), some (.int (nI a)), some (.int (nI b))], [.int (nI 2)])) rfl ?_
        exact Z_iret C q.e it_Mm_why rfl (zRet_i (by have z9 : whm st ov F tn a b = 2 := (by unfold whm; first | (simp [hc1]; done) | (simp [hc1, hc2]; done) | (simp [hc1, hc2, hc3]; done) | (simp [hc1, hc2, hc3, hc4]; done) | (simp [hc1, hc2, hc3, hc4, hc5]; done)); rw [z9])) (by decide) (by decide)
    · replace hc2 := bI_eq1.mp (Classical.not_not.mp hc2)
      refine Z_run C it_Mm_why 1 (f2 := (22, [some (.ref (D.1 37)), some (.int (nI a)), some (.int (nI b))], [.int (nI 1)])) rfl ?_
      exact Z_iret C q.e it_Mm_why rfl (zRet_i (by have z9 : whm st ov F tn a b = 1 := (by unfold whm; first | (simp [hc1]; done) | (simp [hc1, hc2]; done) | (simp [hc1, hc2, hc3]; done) | (simp [hc1, hc2, hc3, hc4]; done) | (simp [hc1, hc2, hc3, hc4, hc5]; done)); rw [z9])) (by decide) (by decide)
set_option maxRecDepth 20000 in
theorem ct_Mm_canPut_z {E : zE} (hE : zEv E) {l : Launch} (hl : l.stackTraces = false) {D : zD} (hD : zDok E D) (V : Nat → Nat → Int32) (P : Nat → Nat → Value) (PH : aH) (F : Nat → Nat) (hF : okF F) (hz : ∀ k, k < 36 → V 38 k = nI (mo (F k))) (st : Bool) (hst : V 38 36 = bI st) (a : Nat) (ha : a < 2) (b : Nat) (hb : b < 36) (sz : Nat) : zM E l y_Mm_canPut [.code y_Mm_canPut c_Mm_canPut 3 (some .boolean)] rm_Mm_canPut [.ref (D.1 37), .int (nI a), .int (nI b)] (HM D V P PH) sz (zRet (some (.int (bI (cpt st F a b)))) (HM D V P PH) sz) := by
  refine zM_of hE hl (by decide +kernel) [some (.ref (D.1 37)), some (.int (nI a)), some (.int (nI b))] ⟨rfl, rfl, Nat.le_of_ble_eq_true rfl⟩ ?_
  intro G C q htb
  have hcl := cnt_le (b := fun k => hld F k a) (n := 36)
  refine Z_run C it_Mm_canPut 1 (f2 := (1, [some (.ref (D.1 37)), some (.int (nI a)), some (.int (nI b))], [.ref (D.1 37)])) rfl ?_
  refine Zm_get C it_Mm_canPut hD rfl 37 wi_Mm (by decide) rfl rfl (j := 0) (by decide) fl_Mm_7 (v := .ref (D.1 38)) rfl ?_
  refine Z_run C it_Mm_canPut 1 (f2 := (6, [some (.ref (D.1 37)), some (.int (nI a)), some (.int (nI b))], [.int (nI 36), .ref (D.1 38)])) rfl ?_
  refine Zm_ald C it_Mm_canPut hD 38 10 rfl (by decide) rfl (by decide) (by decide) rfl (j := 36) (by omega) (v := .int (bI st)) (congrArg Value.int hst) ?_
  refine Z_br C it_Mm_canPut rfl rfl (fun hc1 => ?_) (fun hc1 => ?_)
  · replace hc1 := bI_1.mp hc1
    refine Z_run C it_Mm_canPut 1 (f2 := (34, [some (.ref (D.1 37)), some (.int (nI a)), some (.int (nI b))], [.int (nI 0)])) rfl ?_
    exact Z_zret C q.e it_Mm_canPut rfl (Or.inl rfl) (zRet_i (bI_f (by unfold cpt; first | (simp [hc1]; done) | (simp [hc1, hc2]; done) | (simp [hc1, hc2]; omega)))) (by decide) (by decide)
  · replace hc1 := Classical.not_not.mp hc1
    replace hc1 := bI_0.mp hc1
    refine Z_run C it_Mm_canPut 1 (f2 := (11, [some (.ref (D.1 37)), some (.int (nI a)), some (.int (nI b))], [.ref (D.1 37)])) rfl ?_
    refine Zm_get C it_Mm_canPut hD rfl 37 wi_Mm (by decide) rfl rfl (j := 0) (by decide) fl_Mm_7 (v := .ref (D.1 38)) rfl ?_
    refine Z_run C it_Mm_canPut 1 (f2 := (15, [some (.ref (D.1 37)), some (.int (nI a)), some (.int (nI b))], [.int (nI b), .ref (D.1 38)])) rfl ?_
    refine Zm_ald C it_Mm_canPut hD 38 10 rfl (by decide) rfl (by decide) (by decide) rfl (j := b) (by omega) (v := .int (nI (mo (F b)))) (congrArg Value.int (hz b (by omega))) ?_
    refine Z_br C it_Mm_canPut rfl rfl (fun hc2 => ?_) (fun hc2 => ?_)
    · replace hc2 : ¬ F b = 0 := fun z9 => hc2 ((mo_e0 (hF b hb)).mpr z9)
      refine Z_run C it_Mm_canPut 1 (f2 := (34, [some (.ref (D.1 37)), some (.int (nI a)), some (.int (nI b))], [.int (nI 0)])) rfl ?_
      exact Z_zret C q.e it_Mm_canPut rfl (Or.inl rfl) (zRet_i (bI_f (by unfold cpt; first | (simp [hc1]; done) | (simp [hc1, hc2]; done) | (simp [hc1, hc2]; omega)))) (by decide) (by decide)
    · replace hc2 := (mo_e0 (hF b hb)).mp (Classical.not_not.mp hc2)
      refine Z_run C it_Mm_canPut 2 (f2 := (21, [some (.ref (D.1 37)), some (.int (nI a)), some (.int (nI b))], [.int (nI a), .ref (D.1 37)])) rfl ?_
      refine Zr_callV C it_Mm_canPut hD rfl p_Mm_count ml_Mm_82 37 (by decide) rfl rfl [.int (nI a)] (ct_Mm_count_z C.ev C.l hD V P _ F hF hz a (by first | assumption | omega) _) rfl rfl ⟨by decide, by decide, by decide, by decide⟩ (Nat.le_of_ble_eq_true rfl) rfl ?_
      show Z E G (HM D V P PH) sz 0 0 (24, [some (.ref (D.1 37)), some (.int (nI a)), some (.int (nI b))], [.int (nI (cnt (fun k => hld F k a) 36))])
      refine Z_run C it_Mm_canPut 1 (f2 := (26, [some (.ref (D.1 37)), some (.int (nI a)), some (.int (nI b))], [.int (nI 8), .int (nI (cnt (fun k => hld F k a) 36))])) rfl ?_
      refine Z_br C it_Mm_canPut rfl rfl (fun hc3 => ?_) (fun hc3 => ?_)
      · replace hc3 := (nI_leI (a := 8) (b := cnt (fun k => hld F k a) 36) (by omega) (by omega)).mp hc3
        refine Z_run C it_Mm_canPut 1 (f2 := (34, [some (.ref (D.1 37)), some (.int (nI a)), some (.int (nI b))], [.int (nI 0)])) rfl ?_
        exact Z_zret C q.e it_Mm_canPut rfl (Or.inl rfl) (zRet_i (bI_f (by unfold cpt; first | (simp [hc1]; done) | (simp [hc1, hc2]; done) | (simp [hc1, hc2]; omega)))) (by decide) (by decide)
      · replace hc3 : ¬ _ := fun z9 => hc3 ((nI_leI (a := 8) (b := cnt (fun k => hld F k a) 36) (by omega) (by omega)).mpr z9)
        refine Z_run C it_Mm_canPut 2 (f2 := (34, [some (.ref (D.1 37)), some (.int (nI a)), some (.int (nI b))], [.int (nI 1)])) rfl ?_
        exact Z_zret C q.e it_Mm_canPut rfl (Or.inr rfl) (zRet_i (bI_t (by unfold cpt; first | (simp [hc1]; done) | (simp [hc1, hc2]; done) | (simp [hc1, hc2]; omega)))) (by decide) (by decide)
set_option maxRecDepth 20000 in
theorem ct_Mm_in_a {E : zE} (hE : zEv E) {l : Launch} (hl : l.stackTraces = false) (x lo hi : Int32) (h : aH) (sz : Nat) : zM E l y_Mm_in [.code y_Mm_in c_Mm_in 3 (some .boolean)] rm_Mm_in [.int x, .int lo, .int hi] h sz (zRet (some (.int (inI x lo hi))) h sz) := by
  refine zM_of hE hl (by decide +kernel) [some (.int x), some (.int lo), some (.int hi)] ⟨rfl, rfl, Nat.le_of_ble_eq_true rfl⟩ ?_
  intro G C q htb
  refine Z_run C it_Mm_in 2 (f2 := (2, [some (.int x), some (.int lo), some (.int hi)], [.int lo, .int x])) rfl ?_
  refine Z_br C it_Mm_in rfl rfl (fun hc1 => ?_) (fun hc1 => ?_)
  · skip
    refine Z_run C it_Mm_in 1 (f2 := (15, [some (.int x), some (.int lo), some (.int hi)], [.int (nI 0)])) rfl ?_
    exact Z_zret C q.e it_Mm_in rfl (Or.inl rfl) (zRet_i (by first | (simp [inI, hc1]; done) | (simp [inI, hc1, hc2]; done))) (by decide) (by decide)
  · skip
    refine Z_run C it_Mm_in 2 (f2 := (7, [some (.int x), some (.int lo), some (.int hi)], [.int hi, .int x])) rfl ?_
    refine Z_br C it_Mm_in rfl rfl (fun hc2 => ?_) (fun hc2 => ?_)
    · skip
      refine Z_run C it_Mm_in 1 (f2 := (15, [some (.int x), some (.int lo), some (.int hi)], [.int (nI 0)])) rfl ?_
      exact Z_zret C q.e it_Mm_in rfl (Or.inl rfl) (zRet_i (by first | (simp [inI, hc1]; done) | (simp [inI, hc1, hc2]; done))) (by decide) (by decide)
    · skip
      refine Z_run C it_Mm_in 2 (f2 := (15, [some (.int x), some (.int lo), some (.int hi)], [.int (nI 1)])) rfl ?_
      exact Z_zret C q.e it_Mm_in rfl (Or.inr rfl) (zRet_i (by simp [inI, hc1, hc2])) (by decide) (by decide)
theorem zRet_lH {h h2 : aH} {sz : Nat} {v w : Int64} (e : v = w) (e2 : h = h2) : zRet (some (.long w)) h2 sz (.inl (some (.long v))) h sz := ⟨by rw [e], e2, rfl⟩
set_option maxRecDepth 20000 in
theorem ct_Mm_asksPiece {E : zE} (hE : zEv E) {l : Launch} (hl : l.stackTraces = false) {D : zD} (hD : zDok E D) (V : Nat → Nat → Int32) (P : Nat → Nat → Value) (PH : aH) (F : Nat → Nat) (hF : okF F) (hz : ∀ k, k < 36 → V 38 k = nI (mo (F k))) (a : Nat) (ha : a < 36) (ha0 : F a ≠ 0) (sz : Nat) : zM E l y_Mm_asksPiece [.code y_Mm_asksPiece c_Mm_asksPiece 2 (some .boolean)] rm_Mm_asksPiece [.ref (D.1 37), .int (nI a)] (HM D V P PH) sz (zRet (some (.int (nI 1))) (HM D (vset V 37 8 (nI 0)) P PH) sz) := by
  refine zM_of hE hl (by decide +kernel) [some (.ref (D.1 37)), some (.int (nI a))] ⟨rfl, rfl, Nat.le_of_ble_eq_true rfl⟩ ?_
  intro G C q htb
  refine Z_run C it_Mm_asksPiece 2 (f2 := (2, [some (.ref (D.1 37)), some (.int (nI a))], [.int (nI a), .ref (D.1 37)])) rfl ?_
  refine Zr_callS C it_Mm_asksPiece rfl p_Mm_isSquare ml_Mm_94 [.int (nI a)] (ct_Mm_isSquare_t C.ev C.l a (by omega) (HM D V P PH) _) rfl rfl ⟨by decide, by decide, by decide, by decide⟩ (Nat.le_of_ble_eq_true rfl) rfl ?_
  show Z E G (HM D V P PH) sz 0 0 (5, [some (.ref (D.1 37)), some (.int (nI a))], [.int (nI 1), .ref (D.1 37)])
  refine Zr_callV C it_Mm_asksPiece hD rfl p_Mm_asks ml_Mm_40 37 (by decide) rfl rfl [.int (nI 1)] (ct_Mm_asks_t C.ev C.l hD V P _ _) rfl rfl ⟨by decide, by decide, by decide, by decide⟩ (Nat.le_of_ble_eq_true rfl) rfl ?_
  show Z E G (HM D (vset V 37 8 (nI 0)) P PH) sz 0 0 (8, [some (.ref (D.1 37)), some (.int (nI a))], [.int (nI 1)])
  refine Z_run C it_Mm_asksPiece 3 (f2 := (11, [some (.ref (D.1 37)), some (.int (nI a))], [.ref (D.1 37), .ref (D.1 37)])) rfl ?_
  refine Zm_get C it_Mm_asksPiece hD rfl 37 wi_Mm (by decide) rfl rfl (j := 8) (by decide) fl_Mm_29 (v := .int (nI 0)) rfl ?_
  refine Z_br C it_Mm_asksPiece rfl rfl (fun hc1 => absurd hc1 (by decide)) (fun hc1 => ?_)
  refine Z_run C it_Mm_asksPiece 1 (f2 := (18, [some (.ref (D.1 37)), some (.int (nI a))], [.ref (D.1 37), .ref (D.1 37)])) rfl ?_
  refine Zm_get C it_Mm_asksPiece hD rfl 37 wi_Mm (by decide) rfl rfl (j := 0) (by decide) fl_Mm_7 (v := .ref (D.1 38)) rfl ?_
  refine Z_run C it_Mm_asksPiece 1 (f2 := (22, [some (.ref (D.1 37)), some (.int (nI a))], [.int (nI a), .ref (D.1 38), .ref (D.1 37)])) rfl ?_
  refine Zm_ald C it_Mm_asksPiece hD 38 10 rfl (by decide) rfl (by decide) (by decide) rfl (j := a) (by omega) (v := .int (nI (mo (F a)))) (congrArg Value.int (hz a (by omega))) ?_
  refine Z_br C it_Mm_asksPiece rfl rfl (fun hc2 => ?_) (fun hc2 => ?_)
  · exact absurd ((mo_le0 (hF a ha)).mp hc2) ha0
  · skip
    refine Z_run C it_Mm_asksPiece 3 (f2 := (32, [some (.ref (D.1 37)), some (.int (nI a))], [.int (nI 2), .int (nI 1), .ref (D.1 37)])) rfl ?_
    refine Zr_callV C it_Mm_asksPiece hD rfl p_Mm_asksThen ml_Mm_97 37 (by decide) rfl rfl [.int (nI 1), .int (nI 2)] (ct_Mm_asksThen_t C.ev C.l hD (vset V 37 8 (nI 0)) P _ 2 rfl _) rfl rfl ⟨by decide, by decide, by decide, by decide⟩ (Nat.le_of_ble_eq_true rfl) rfl ?_
    show Z E G (HM D (vset (vset V 37 8 (nI 0)) 37 8 (nI 0)) P PH) sz 0 0 (35, [some (.ref (D.1 37)), some (.int (nI a))], [.int (nI 1)])
    exact Z_zret C q.e it_Mm_asksPiece rfl (Or.inr rfl) (zRet_iH rfl (by first | rfl | (simp only [vset_2]))) (by decide) (by decide)
set_option maxRecDepth 20000 in
theorem ct_Mm_asksPiece_x2 {E : zE} (hE : zEv E) {l : Launch} (hl : l.stackTraces = false) {D : zD} (hD : zDok E D) (V : Nat → Nat → Int32) (P : Nat → Nat → Value) (PH : aH) (F : Nat → Nat) (hF : okF F) (hz : ∀ k, k < 36 → V 38 k = nI (mo (F k))) (a : Nat) (ha : a < 36) (ha0 : F a = 0) (sz : Nat) : zM E l y_Mm_asksPiece [.code y_Mm_asksPiece c_Mm_asksPiece 2 (some .boolean)] rm_Mm_asksPiece [.ref (D.1 37), .int (nI a)] (HM D V P PH) sz (zRet (some (.int (nI 0))) (HM D (vset V 37 8 (nI 2)) P PH) sz) := by
  refine zM_of hE hl (by decide +kernel) [some (.ref (D.1 37)), some (.int (nI a))] ⟨rfl, rfl, Nat.le_of_ble_eq_true rfl⟩ ?_
  intro G C q htb
  refine Z_run C it_Mm_asksPiece 2 (f2 := (2, [some (.ref (D.1 37)), some (.int (nI a))], [.int (nI a), .ref (D.1 37)])) rfl ?_
  refine Zr_callS C it_Mm_asksPiece rfl p_Mm_isSquare ml_Mm_94 [.int (nI a)] (ct_Mm_isSquare_t C.ev C.l a (by omega) (HM D V P PH) _) rfl rfl ⟨by decide, by decide, by decide, by decide⟩ (Nat.le_of_ble_eq_true rfl) rfl ?_
  show Z E G (HM D V P PH) sz 0 0 (5, [some (.ref (D.1 37)), some (.int (nI a))], [.int (nI 1), .ref (D.1 37)])
  refine Zr_callV C it_Mm_asksPiece hD rfl p_Mm_asks ml_Mm_40 37 (by decide) rfl rfl [.int (nI 1)] (ct_Mm_asks_t C.ev C.l hD V P _ _) rfl rfl ⟨by decide, by decide, by decide, by decide⟩ (Nat.le_of_ble_eq_true rfl) rfl ?_
  show Z E G (HM D (vset V 37 8 (nI 0)) P PH) sz 0 0 (8, [some (.ref (D.1 37)), some (.int (nI a))], [.int (nI 1)])
  refine Z_run C it_Mm_asksPiece 3 (f2 := (11, [some (.ref (D.1 37)), some (.int (nI a))], [.ref (D.1 37), .ref (D.1 37)])) rfl ?_
  refine Zm_get C it_Mm_asksPiece hD rfl 37 wi_Mm (by decide) rfl rfl (j := 8) (by decide) fl_Mm_29 (v := .int (nI 0)) rfl ?_
  refine Z_br C it_Mm_asksPiece rfl rfl (fun hc1 => absurd hc1 (by decide)) (fun hc1 => ?_)
  refine Z_run C it_Mm_asksPiece 1 (f2 := (18, [some (.ref (D.1 37)), some (.int (nI a))], [.ref (D.1 37), .ref (D.1 37)])) rfl ?_
  refine Zm_get C it_Mm_asksPiece hD rfl 37 wi_Mm (by decide) rfl rfl (j := 0) (by decide) fl_Mm_7 (v := .ref (D.1 38)) rfl ?_
  refine Z_run C it_Mm_asksPiece 1 (f2 := (22, [some (.ref (D.1 37)), some (.int (nI a))], [.int (nI a), .ref (D.1 38), .ref (D.1 37)])) rfl ?_
  refine Zm_ald C it_Mm_asksPiece hD 38 10 rfl (by decide) rfl (by decide) (by decide) rfl (j := a) (by omega) (v := .int (nI (mo (F a)))) (congrArg Value.int (hz a (by omega))) ?_
  refine Z_br C it_Mm_asksPiece rfl rfl (fun hc2 => ?_) (fun hc2 => ?_)
  · skip
    refine Z_run C it_Mm_asksPiece 2 (f2 := (32, [some (.ref (D.1 37)), some (.int (nI a))], [.int (nI 2), .int (nI 0), .ref (D.1 37)])) rfl ?_
    refine Zr_callV C it_Mm_asksPiece hD rfl p_Mm_asksThen ml_Mm_97 37 (by decide) rfl rfl [.int (nI 0), .int (nI 2)] (ct_Mm_asksThen_f C.ev C.l hD (vset V 37 8 (nI 0)) P _ 2 (by decide) (by decide) rfl _) rfl rfl ⟨by decide, by decide, by decide, by decide⟩ (Nat.le_of_ble_eq_true rfl) rfl ?_
    show Z E G (HM D (vset (vset V 37 8 (nI 0)) 37 8 (nI 2)) P PH) sz 0 0 (35, [some (.ref (D.1 37)), some (.int (nI a))], [.int (nI 0)])
    exact Z_zret C q.e it_Mm_asksPiece rfl (Or.inl rfl) (zRet_iH rfl (by first | rfl | (simp only [vset_2]))) (by decide) (by decide)
  · exact absurd ((mo_le0 (hF a ha)).mpr ha0) hc2
set_option maxRecDepth 20000 in
theorem ct_Mm_asksPiece_x1 {E : zE} (hE : zEv E) {l : Launch} (hl : l.stackTraces = false) {D : zD} (hD : zDok E D) (V : Nat → Nat → Int32) (P : Nat → Nat → Value) (PH : aH) (a : Nat) (h32 : a < 4294967296) (ha : 36 ≤ a) (sz : Nat) : zM E l y_Mm_asksPiece [.code y_Mm_asksPiece c_Mm_asksPiece 2 (some .boolean)] rm_Mm_asksPiece [.ref (D.1 37), .int (nI a)] (HM D V P PH) sz (zRet (some (.int (nI 0))) (HM D (vset V 37 8 (nI 1)) P PH) sz) := by
  refine zM_of hE hl (by decide +kernel) [some (.ref (D.1 37)), some (.int (nI a))] ⟨rfl, rfl, Nat.le_of_ble_eq_true rfl⟩ ?_
  intro G C q htb
  refine Z_run C it_Mm_asksPiece 2 (f2 := (2, [some (.ref (D.1 37)), some (.int (nI a))], [.int (nI a), .ref (D.1 37)])) rfl ?_
  refine Zr_callS C it_Mm_asksPiece rfl p_Mm_isSquare ml_Mm_94 [.int (nI a)] (ct_Mm_isSquare_f C.ev C.l a (by omega) (by omega) (HM D V P PH) _) rfl rfl ⟨by decide, by decide, by decide, by decide⟩ (Nat.le_of_ble_eq_true rfl) rfl ?_
  show Z E G (HM D V P PH) sz 0 0 (5, [some (.ref (D.1 37)), some (.int (nI a))], [.int (nI 0), .ref (D.1 37)])
  refine Zr_callV C it_Mm_asksPiece hD rfl p_Mm_asks ml_Mm_40 37 (by decide) rfl rfl [.int (nI 0)] (ct_Mm_asks_f C.ev C.l hD V P _ _) rfl rfl ⟨by decide, by decide, by decide, by decide⟩ (Nat.le_of_ble_eq_true rfl) rfl ?_
  show Z E G (HM D (vset V 37 8 (nI 1)) P PH) sz 0 0 (8, [some (.ref (D.1 37)), some (.int (nI a))], [.int (nI 0)])
  refine Z_run C it_Mm_asksPiece 3 (f2 := (11, [some (.ref (D.1 37)), some (.int (nI a))], [.ref (D.1 37), .ref (D.1 37)])) rfl ?_
  refine Zm_get C it_Mm_asksPiece hD rfl 37 wi_Mm (by decide) rfl rfl (j := 8) (by decide) fl_Mm_29 (v := .int (nI 1)) rfl ?_
  refine Z_br C it_Mm_asksPiece rfl rfl (fun hc1 => ?_) (fun hc1 => absurd (by decide) hc1)
  refine Z_run C it_Mm_asksPiece 3 (f2 := (32, [some (.ref (D.1 37)), some (.int (nI a))], [.int (nI 2), .int (nI 1), .ref (D.1 37)])) rfl ?_
  refine Zr_callV C it_Mm_asksPiece hD rfl p_Mm_asksThen ml_Mm_97 37 (by decide) rfl rfl [.int (nI 1), .int (nI 2)] (ct_Mm_asksThen_k C.ev C.l hD (vset V 37 8 (nI 1)) P _ 1 (by decide) (by decide) (nI 1) 2 rfl _) rfl rfl ⟨by decide, by decide, by decide, by decide⟩ (Nat.le_of_ble_eq_true rfl) rfl ?_
  show Z E G (HM D (vset (vset V 37 8 (nI 1)) 37 8 (nI 1)) P PH) sz 0 0 (35, [some (.ref (D.1 37)), some (.int (nI a))], [.int (nI 0)])
  exact Z_zret C q.e it_Mm_asksPiece rfl (Or.inl rfl) (zRet_iH rfl (by first | rfl | (simp only [vset_2]))) (by decide) (by decide)
set_option maxRecDepth 20000 in
theorem ct_Mm_sideAt {E : zE} (hE : zEv E) {l : Launch} (hl : l.stackTraces = false) {D : zD} (hD : zDok E D) (V : Nat → Nat → Int32) (P : Nat → Nat → Value) (PH : aH) (F : Nat → Nat) (hF : okF F) (hz : ∀ k, k < 36 → V 38 k = nI (mo (F k))) (a : Nat) (ha : a < 36) (ha0 : F a ≠ 0) (sz : Nat) : zM E l y_Mm_sideAt [.code y_Mm_sideAt c_Mm_sideAt 2 (some .int)] rm_Mm_sideAt [.ref (D.1 37), .int (nI a)] (HM D V P PH) sz (zRet (some (.int (oI (sdo (F a))))) (HM D (vset V 37 8 (nI 0)) P PH) sz) := by
  refine zM_of hE hl (by decide +kernel) [some (.ref (D.1 37)), some (.int (nI a))] ⟨rfl, rfl, Nat.le_of_ble_eq_true rfl⟩ ?_
  intro G C q htb
  have hFa := hF a ha
  refine Z_run C it_Mm_sideAt 2 (f2 := (2, [some (.ref (D.1 37)), some (.int (nI a))], [.int (nI a), .ref (D.1 37)])) rfl ?_
  refine Zr_callV C it_Mm_sideAt hD rfl p_Mm_asksPiece ml_Mm_136 37 (by decide) rfl rfl [.int (nI a)] (ct_Mm_asksPiece C.ev C.l hD V P _ F hF hz a (by omega) (by assumption) _) rfl rfl ⟨by decide, by decide, by decide, by decide⟩ (Nat.le_of_ble_eq_true rfl) rfl ?_
  show Z E G (HM D (vset V 37 8 (nI 0)) P PH) sz 0 0 (5, [some (.ref (D.1 37)), some (.int (nI a))], [.int (nI 1)])
  refine Z_br C it_Mm_sideAt rfl rfl (fun hc1 => absurd hc1 (by decide)) (fun hc1 => ?_)
  refine Z_run C it_Mm_sideAt 1 (f2 := (9, [some (.ref (D.1 37)), some (.int (nI a))], [.ref (D.1 37)])) rfl ?_
  refine Zm_get C it_Mm_sideAt hD rfl 37 wi_Mm (by decide) rfl rfl (j := 0) (by decide) fl_Mm_7 (v := .ref (D.1 38)) rfl ?_
  refine Z_run C it_Mm_sideAt 1 (f2 := (13, [some (.ref (D.1 37)), some (.int (nI a))], [.int (nI a), .ref (D.1 38)])) rfl ?_
  refine Zm_ald C it_Mm_sideAt hD 38 10 rfl (by decide) rfl (by decide) (by decide) rfl (j := a) (by omega) (v := .int (nI (mo (F a)))) (congrArg Value.int (hz a (by omega))) ?_
  refine Zr_callS C it_Mm_sideAt rfl p_Mm_sideOf ml_Mm_58 [.int (nI (mo (F a)))] (ct_Mm_sideOf C.ev C.l (F a) (by first | assumption | omega | exact hF _ (by omega)) (HM D (vset V 37 8 (nI 0)) P PH) _) rfl rfl ⟨by decide, by decide, by decide, by decide⟩ (Nat.le_of_ble_eq_true rfl) rfl ?_
  show Z E G (HM D (vset V 37 8 (nI 0)) P PH) sz 0 0 (17, [some (.ref (D.1 37)), some (.int (nI a))], [.int (oI (sdo (F a)))])
  refine Z_run C it_Mm_sideAt 1 (f2 := (21, [some (.ref (D.1 37)), some (.int (nI a))], [.int (oI (sdo (F a)))])) rfl ?_
  exact Z_iret C q.e it_Mm_sideAt rfl (zRet_iH rfl (by first | rfl | (simp only [vset_2]))) (by decide) (by decide)
set_option maxRecDepth 20000 in
theorem ct_Mm_sideAt_x2 {E : zE} (hE : zEv E) {l : Launch} (hl : l.stackTraces = false) {D : zD} (hD : zDok E D) (V : Nat → Nat → Int32) (P : Nat → Nat → Value) (PH : aH) (F : Nat → Nat) (hF : okF F) (hz : ∀ k, k < 36 → V 38 k = nI (mo (F k))) (a : Nat) (ha : a < 36) (ha0 : F a = 0) (sz : Nat) : zM E l y_Mm_sideAt [.code y_Mm_sideAt c_Mm_sideAt 2 (some .int)] rm_Mm_sideAt [.ref (D.1 37), .int (nI a)] (HM D V P PH) sz (zRet (some (.int (nI 0))) (HM D (vset V 37 8 (nI 2)) P PH) sz) := by
  refine zM_of hE hl (by decide +kernel) [some (.ref (D.1 37)), some (.int (nI a))] ⟨rfl, rfl, Nat.le_of_ble_eq_true rfl⟩ ?_
  intro G C q htb
  refine Z_run C it_Mm_sideAt 2 (f2 := (2, [some (.ref (D.1 37)), some (.int (nI a))], [.int (nI a), .ref (D.1 37)])) rfl ?_
  refine Zr_callV C it_Mm_sideAt hD rfl p_Mm_asksPiece ml_Mm_136 37 (by decide) rfl rfl [.int (nI a)] (ct_Mm_asksPiece_x2 C.ev C.l hD V P _ F hF hz a (by omega) (by assumption) _) rfl rfl ⟨by decide, by decide, by decide, by decide⟩ (Nat.le_of_ble_eq_true rfl) rfl ?_
  show Z E G (HM D (vset V 37 8 (nI 2)) P PH) sz 0 0 (5, [some (.ref (D.1 37)), some (.int (nI a))], [.int (nI 0)])
  refine Z_br C it_Mm_sideAt rfl rfl (fun hc1 => ?_) (fun hc1 => absurd (by decide) hc1)
  refine Z_run C it_Mm_sideAt 1 (f2 := (21, [some (.ref (D.1 37)), some (.int (nI a))], [.int (nI 0)])) rfl ?_
  exact Z_iret C q.e it_Mm_sideAt rfl (zRet_iH rfl (by first | rfl | (simp only [vset_2]))) (by decide) (by decide)
set_option maxRecDepth 20000 in
theorem ct_Mm_sideAt_x1 {E : zE} (hE : zEv E) {l : Launch} (hl : l.stackTraces = false) {D : zD} (hD : zDok E D) (V : Nat → Nat → Int32) (P : Nat → Nat → Value) (PH : aH) (a : Nat) (h32 : a < 4294967296) (ha : 36 ≤ a) (sz : Nat) : zM E l y_Mm_sideAt [.code y_Mm_sideAt c_Mm_sideAt 2 (some .int)] rm_Mm_sideAt [.ref (D.1 37), .int (nI a)] (HM D V P PH) sz (zRet (some (.int (nI 0))) (HM D (vset V 37 8 (nI 1)) P PH) sz) := by
  refine zM_of hE hl (by decide +kernel) [some (.ref (D.1 37)), some (.int (nI a))] ⟨rfl, rfl, Nat.le_of_ble_eq_true rfl⟩ ?_
  intro G C q htb
  refine Z_run C it_Mm_sideAt 2 (f2 := (2, [some (.ref (D.1 37)), some (.int (nI a))], [.int (nI a), .ref (D.1 37)])) rfl ?_
  refine Zr_callV C it_Mm_sideAt hD rfl p_Mm_asksPiece ml_Mm_136 37 (by decide) rfl rfl [.int (nI a)] (ct_Mm_asksPiece_x1 C.ev C.l hD V P _ a (by omega) (by omega) _) rfl rfl ⟨by decide, by decide, by decide, by decide⟩ (Nat.le_of_ble_eq_true rfl) rfl ?_
  show Z E G (HM D (vset V 37 8 (nI 1)) P PH) sz 0 0 (5, [some (.ref (D.1 37)), some (.int (nI a))], [.int (nI 0)])
  refine Z_br C it_Mm_sideAt rfl rfl (fun hc1 => ?_) (fun hc1 => absurd (by decide) hc1)
  refine Z_run C it_Mm_sideAt 1 (f2 := (21, [some (.ref (D.1 37)), some (.int (nI a))], [.int (nI 0)])) rfl ?_
  exact Z_iret C q.e it_Mm_sideAt rfl (zRet_iH rfl (by first | rfl | (simp only [vset_2]))) (by decide) (by decide)
set_option maxRecDepth 20000 in
theorem ct_Mm_stepsAt {E : zE} (hE : zEv E) {l : Launch} (hl : l.stackTraces = false) {D : zD} (hD : zDok E D) (V : Nat → Nat → Int32) (P : Nat → Nat → Value) (PH : aH) (F : Nat → Nat) (hF : okF F) (hz : ∀ k, k < 36 → V 38 k = nI (mo (F k))) (a : Nat) (ha : a < 36) (ha0 : F a ≠ 0) (sz : Nat) : zM E l y_Mm_stepsAt [.code y_Mm_stepsAt c_Mm_stepsAt 2 (some .int)] rm_Mm_stepsAt [.ref (D.1 37), .int (nI a)] (HM D V P PH) sz (zRet (some (.int (nI (stp (F a))))) (HM D (vset V 37 8 (nI 0)) P PH) sz) := by
  refine zM_of hE hl (by decide +kernel) [some (.ref (D.1 37)), some (.int (nI a))] ⟨rfl, rfl, Nat.le_of_ble_eq_true rfl⟩ ?_
  intro G C q htb
  have hFa := hF a ha
  refine Z_run C it_Mm_stepsAt 2 (f2 := (2, [some (.ref (D.1 37)), some (.int (nI a))], [.int (nI a), .ref (D.1 37)])) rfl ?_
  refine Zr_callV C it_Mm_stepsAt hD rfl p_Mm_asksPiece ml_Mm_136 37 (by decide) rfl rfl [.int (nI a)] (ct_Mm_asksPiece C.ev C.l hD V P _ F hF hz a (by omega) (by assumption) _) rfl rfl ⟨by decide, by decide, by decide, by decide⟩ (Nat.le_of_ble_eq_true rfl) rfl ?_
  show Z E G (HM D (vset V 37 8 (nI 0)) P PH) sz 0 0 (5, [some (.ref (D.1 37)), some (.int (nI a))], [.int (nI 1)])
  refine Z_br C it_Mm_stepsAt rfl rfl (fun hc1 => absurd hc1 (by decide)) (fun hc1 => ?_)
  refine Z_run C it_Mm_stepsAt 1 (f2 := (9, [some (.ref (D.1 37)), some (.int (nI a))], [.ref (D.1 37)])) rfl ?_
  refine Zm_get C it_Mm_stepsAt hD rfl 37 wi_Mm (by decide) rfl rfl (j := 0) (by decide) fl_Mm_7 (v := .ref (D.1 38)) rfl ?_
  refine Z_run C it_Mm_stepsAt 1 (f2 := (13, [some (.ref (D.1 37)), some (.int (nI a))], [.int (nI a), .ref (D.1 38)])) rfl ?_
  refine Zm_ald C it_Mm_stepsAt hD 38 10 rfl (by decide) rfl (by decide) (by decide) rfl (j := a) (by omega) (v := .int (nI (mo (F a)))) (congrArg Value.int (hz a (by omega))) ?_
  refine Zr_callS C it_Mm_stepsAt rfl p_Mm_stepsOf ml_Mm_48 [.int (nI (mo (F a)))] (ct_Mm_stepsOf C.ev C.l (F a) (by first | assumption | omega | exact hF _ (by omega)) (by first | assumption | omega | exact hld_ne (by assumption)) (HM D (vset V 37 8 (nI 0)) P PH) _) rfl rfl ⟨by decide, by decide, by decide, by decide⟩ (Nat.le_of_ble_eq_true rfl) rfl ?_
  show Z E G (HM D (vset V 37 8 (nI 0)) P PH) sz 0 0 (17, [some (.ref (D.1 37)), some (.int (nI a))], [.int (nI (stp (F a)))])
  refine Z_run C it_Mm_stepsAt 1 (f2 := (21, [some (.ref (D.1 37)), some (.int (nI a))], [.int (nI (stp (F a)))])) rfl ?_
  exact Z_iret C q.e it_Mm_stepsAt rfl (zRet_iH rfl (by first | rfl | (simp only [vset_2]))) (by decide) (by decide)
set_option maxRecDepth 20000 in
theorem ct_Mm_stepsAt_x2 {E : zE} (hE : zEv E) {l : Launch} (hl : l.stackTraces = false) {D : zD} (hD : zDok E D) (V : Nat → Nat → Int32) (P : Nat → Nat → Value) (PH : aH) (F : Nat → Nat) (hF : okF F) (hz : ∀ k, k < 36 → V 38 k = nI (mo (F k))) (a : Nat) (ha : a < 36) (ha0 : F a = 0) (sz : Nat) : zM E l y_Mm_stepsAt [.code y_Mm_stepsAt c_Mm_stepsAt 2 (some .int)] rm_Mm_stepsAt [.ref (D.1 37), .int (nI a)] (HM D V P PH) sz (zRet (some (.int (nI 0))) (HM D (vset V 37 8 (nI 2)) P PH) sz) := by
  refine zM_of hE hl (by decide +kernel) [some (.ref (D.1 37)), some (.int (nI a))] ⟨rfl, rfl, Nat.le_of_ble_eq_true rfl⟩ ?_
  intro G C q htb
  refine Z_run C it_Mm_stepsAt 2 (f2 := (2, [some (.ref (D.1 37)), some (.int (nI a))], [.int (nI a), .ref (D.1 37)])) rfl ?_
  refine Zr_callV C it_Mm_stepsAt hD rfl p_Mm_asksPiece ml_Mm_136 37 (by decide) rfl rfl [.int (nI a)] (ct_Mm_asksPiece_x2 C.ev C.l hD V P _ F hF hz a (by omega) (by assumption) _) rfl rfl ⟨by decide, by decide, by decide, by decide⟩ (Nat.le_of_ble_eq_true rfl) rfl ?_
  show Z E G (HM D (vset V 37 8 (nI 2)) P PH) sz 0 0 (5, [some (.ref (D.1 37)), some (.int (nI a))], [.int (nI 0)])
  refine Z_br C it_Mm_stepsAt rfl rfl (fun hc1 => ?_) (fun hc1 => absurd (by decide) hc1)
  refine Z_run C it_Mm_stepsAt 1 (f2 := (21, [some (.ref (D.1 37)), some (.int (nI a))], [.int (nI 0)])) rfl ?_
  exact Z_iret C q.e it_Mm_stepsAt rfl (zRet_iH rfl (by first | rfl | (simp only [vset_2]))) (by decide) (by decide)
set_option maxRecDepth 20000 in
theorem ct_Mm_stepsAt_x1 {E : zE} (hE : zEv E) {l : Launch} (hl : l.stackTraces = false) {D : zD} (hD : zDok E D) (V : Nat → Nat → Int32) (P : Nat → Nat → Value) (PH : aH) (a : Nat) (h32 : a < 4294967296) (ha : 36 ≤ a) (sz : Nat) : zM E l y_Mm_stepsAt [.code y_Mm_stepsAt c_Mm_stepsAt 2 (some .int)] rm_Mm_stepsAt [.ref (D.1 37), .int (nI a)] (HM D V P PH) sz (zRet (some (.int (nI 0))) (HM D (vset V 37 8 (nI 1)) P PH) sz) := by
  refine zM_of hE hl (by decide +kernel) [some (.ref (D.1 37)), some (.int (nI a))] ⟨rfl, rfl, Nat.le_of_ble_eq_true rfl⟩ ?_
  intro G C q htb
  refine Z_run C it_Mm_stepsAt 2 (f2 := (2, [some (.ref (D.1 37)), some (.int (nI a))], [.int (nI a), .ref (D.1 37)])) rfl ?_
  refine Zr_callV C it_Mm_stepsAt hD rfl p_Mm_asksPiece ml_Mm_136 37 (by decide) rfl rfl [.int (nI a)] (ct_Mm_asksPiece_x1 C.ev C.l hD V P _ a (by omega) (by omega) _) rfl rfl ⟨by decide, by decide, by decide, by decide⟩ (Nat.le_of_ble_eq_true rfl) rfl ?_
  show Z E G (HM D (vset V 37 8 (nI 1)) P PH) sz 0 0 (5, [some (.ref (D.1 37)), some (.int (nI a))], [.int (nI 0)])
  refine Z_br C it_Mm_stepsAt rfl rfl (fun hc1 => ?_) (fun hc1 => absurd (by decide) hc1)
  refine Z_run C it_Mm_stepsAt 1 (f2 := (21, [some (.ref (D.1 37)), some (.int (nI a))], [.int (nI 0)])) rfl ?_
  exact Z_iret C q.e it_Mm_stepsAt rfl (zRet_iH rfl (by first | rfl | (simp only [vset_2]))) (by decide) (by decide)
set_option maxRecDepth 20000 in
theorem ct_Mm_worthAt {E : zE} (hE : zEv E) {l : Launch} (hl : l.stackTraces = false) {D : zD} (hD : zDok E D) (V : Nat → Nat → Int32) (P : Nat → Nat → Value) (PH : aH) (F : Nat → Nat) (hF : okF F) (hz : ∀ k, k < 36 → V 38 k = nI (mo (F k))) (a : Nat) (ha : a < 36) (ha0 : F a ≠ 0) (sz : Nat) : zM E l y_Mm_worthAt [.code y_Mm_worthAt c_Mm_worthAt 2 (some .int)] rm_Mm_worthAt [.ref (D.1 37), .int (nI a)] (HM D V P PH) sz (zRet (some (.int (nI (wr (F a))))) (HM D (vset V 37 8 (nI 0)) P PH) sz) := by
  refine zM_of hE hl (by decide +kernel) [some (.ref (D.1 37)), some (.int (nI a))] ⟨rfl, rfl, Nat.le_of_ble_eq_true rfl⟩ ?_
  intro G C q htb
  have hFa := hF a ha
  refine Z_run C it_Mm_worthAt 2 (f2 := (2, [some (.ref (D.1 37)), some (.int (nI a))], [.int (nI a), .ref (D.1 37)])) rfl ?_
  refine Zr_callV C it_Mm_worthAt hD rfl p_Mm_asksPiece ml_Mm_136 37 (by decide) rfl rfl [.int (nI a)] (ct_Mm_asksPiece C.ev C.l hD V P _ F hF hz a (by omega) (by assumption) _) rfl rfl ⟨by decide, by decide, by decide, by decide⟩ (Nat.le_of_ble_eq_true rfl) rfl ?_
  show Z E G (HM D (vset V 37 8 (nI 0)) P PH) sz 0 0 (5, [some (.ref (D.1 37)), some (.int (nI a))], [.int (nI 1)])
  refine Z_br C it_Mm_worthAt rfl rfl (fun hc1 => absurd hc1 (by decide)) (fun hc1 => ?_)
  refine Z_run C it_Mm_worthAt 1 (f2 := (9, [some (.ref (D.1 37)), some (.int (nI a))], [.ref (D.1 37)])) rfl ?_
  refine Zm_get C it_Mm_worthAt hD rfl 37 wi_Mm (by decide) rfl rfl (j := 0) (by decide) fl_Mm_7 (v := .ref (D.1 38)) rfl ?_
  refine Z_run C it_Mm_worthAt 1 (f2 := (13, [some (.ref (D.1 37)), some (.int (nI a))], [.int (nI a), .ref (D.1 38)])) rfl ?_
  refine Zm_ald C it_Mm_worthAt hD 38 10 rfl (by decide) rfl (by decide) (by decide) rfl (j := a) (by omega) (v := .int (nI (mo (F a)))) (congrArg Value.int (hz a (by omega))) ?_
  refine Zr_callS C it_Mm_worthAt rfl p_Mm_worthOf ml_Mm_88 [.int (nI (mo (F a)))] (ct_Mm_worthOf C.ev C.l (F a) (by first | assumption | omega | exact hF _ (by omega)) (HM D (vset V 37 8 (nI 0)) P PH) _) rfl rfl ⟨by decide, by decide, by decide, by decide⟩ (Nat.le_of_ble_eq_true rfl) rfl ?_
  show Z E G (HM D (vset V 37 8 (nI 0)) P PH) sz 0 0 (17, [some (.ref (D.1 37)), some (.int (nI a))], [.int (nI (wr (F a)))])
  refine Z_run C it_Mm_worthAt 1 (f2 := (21, [some (.ref (D.1 37)), some (.int (nI a))], [.int (nI (wr (F a)))])) rfl ?_
  exact Z_iret C q.e it_Mm_worthAt rfl (zRet_iH rfl (by first | rfl | (simp only [vset_2]))) (by decide) (by decide)
set_option maxRecDepth 20000 in
theorem ct_Mm_worthAt_x2 {E : zE} (hE : zEv E) {l : Launch} (hl : l.stackTraces = false) {D : zD} (hD : zDok E D) (V : Nat → Nat → Int32) (P : Nat → Nat → Value) (PH : aH) (F : Nat → Nat) (hF : okF F) (hz : ∀ k, k < 36 → V 38 k = nI (mo (F k))) (a : Nat) (ha : a < 36) (ha0 : F a = 0) (sz : Nat) : zM E l y_Mm_worthAt [.code y_Mm_worthAt c_Mm_worthAt 2 (some .int)] rm_Mm_worthAt [.ref (D.1 37), .int (nI a)] (HM D V P PH) sz (zRet (some (.int (nI 0))) (HM D (vset V 37 8 (nI 2)) P PH) sz) := by
  refine zM_of hE hl (by decide +kernel) [some (.ref (D.1 37)), some (.int (nI a))] ⟨rfl, rfl, Nat.le_of_ble_eq_true rfl⟩ ?_
  intro G C q htb
  refine Z_run C it_Mm_worthAt 2 (f2 := (2, [some (.ref (D.1 37)), some (.int (nI a))], [.int (nI a), .ref (D.1 37)])) rfl ?_
  refine Zr_callV C it_Mm_worthAt hD rfl p_Mm_asksPiece ml_Mm_136 37 (by decide) rfl rfl [.int (nI a)] (ct_Mm_asksPiece_x2 C.ev C.l hD V P _ F hF hz a (by omega) (by assumption) _) rfl rfl ⟨by decide, by decide, by decide, by decide⟩ (Nat.le_of_ble_eq_true rfl) rfl ?_
  show Z E G (HM D (vset V 37 8 (nI 2)) P PH) sz 0 0 (5, [some (.ref (D.1 37)), some (.int (nI a))], [.int (nI 0)])
  refine Z_br C it_Mm_worthAt rfl rfl (fun hc1 => ?_) (fun hc1 => absurd (by decide) hc1)
  refine Z_run C it_Mm_worthAt 1 (f2 := (21, [some (.ref (D.1 37)), some (.int (nI a))], [.int (nI 0)])) rfl ?_
  exact Z_iret C q.e it_Mm_worthAt rfl (zRet_iH rfl (by first | rfl | (simp only [vset_2]))) (by decide) (by decide)
set_option maxRecDepth 20000 in
theorem ct_Mm_worthAt_x1 {E : zE} (hE : zEv E) {l : Launch} (hl : l.stackTraces = false) {D : zD} (hD : zDok E D) (V : Nat → Nat → Int32) (P : Nat → Nat → Value) (PH : aH) (a : Nat) (h32 : a < 4294967296) (ha : 36 ≤ a) (sz : Nat) : zM E l y_Mm_worthAt [.code y_Mm_worthAt c_Mm_worthAt 2 (some .int)] rm_Mm_worthAt [.ref (D.1 37), .int (nI a)] (HM D V P PH) sz (zRet (some (.int (nI 0))) (HM D (vset V 37 8 (nI 1)) P PH) sz) := by
  refine zM_of hE hl (by decide +kernel) [some (.ref (D.1 37)), some (.int (nI a))] ⟨rfl, rfl, Nat.le_of_ble_eq_true rfl⟩ ?_
  intro G C q htb
  refine Z_run C it_Mm_worthAt 2 (f2 := (2, [some (.ref (D.1 37)), some (.int (nI a))], [.int (nI a), .ref (D.1 37)])) rfl ?_
  refine Zr_callV C it_Mm_worthAt hD rfl p_Mm_asksPiece ml_Mm_136 37 (by decide) rfl rfl [.int (nI a)] (ct_Mm_asksPiece_x1 C.ev C.l hD V P _ a (by omega) (by omega) _) rfl rfl ⟨by decide, by decide, by decide, by decide⟩ (Nat.le_of_ble_eq_true rfl) rfl ?_
  show Z E G (HM D (vset V 37 8 (nI 1)) P PH) sz 0 0 (5, [some (.ref (D.1 37)), some (.int (nI a))], [.int (nI 0)])
  refine Z_br C it_Mm_worthAt rfl rfl (fun hc1 => ?_) (fun hc1 => absurd (by decide) hc1)
  refine Z_run C it_Mm_worthAt 1 (f2 := (21, [some (.ref (D.1 37)), some (.int (nI a))], [.int (nI 0)])) rfl ?_
  exact Z_iret C q.e it_Mm_worthAt rfl (zRet_iH rfl (by first | rfl | (simp only [vset_2]))) (by decide) (by decide)
set_option maxRecDepth 20000 in
theorem ct_Mm_reach {E : zE} (hE : zEv E) {l : Launch} (hl : l.stackTraces = false) {D : zD} (hD : zDok E D) (V : Nat → Nat → Int32) (P : Nat → Nat → Value) (PH : aH) (F : Nat → Nat) (hF : okF F) (hz : ∀ k, k < 36 → V 38 k = nI (mo (F k))) (a : Nat) (ha : a < 36) (ha0 : F a ≠ 0) (sz : Nat) : zM E l y_Mm_reach [.code y_Mm_reach c_Mm_reach 2 (some .long)] rm_Mm_reach [.ref (D.1 37), .int (nI a)] (HM D V P PH) sz (zRet (some (.long (lN (bm (cmv F a) 36)))) (HM D (vset V 37 8 (nI 0)) P PH) sz) := by
  refine zM_of hE hl (by decide +kernel) [some (.ref (D.1 37)), some (.int (nI a))] ⟨rfl, rfl, Nat.le_of_ble_eq_true rfl⟩ ?_
  intro G C q htb
  have hFa := hF a ha
  refine Z_run C it_Mm_reach 2 (f2 := (2, [some (.ref (D.1 37)), some (.int (nI a))], [.int (nI a), .ref (D.1 37)])) rfl ?_
  refine Zr_callV C it_Mm_reach hD rfl p_Mm_asksPiece ml_Mm_136 37 (by decide) rfl rfl [.int (nI a)] (ct_Mm_asksPiece C.ev C.l hD V P _ F hF hz a (by omega) (by assumption) _) rfl rfl ⟨by decide, by decide, by decide, by decide⟩ (Nat.le_of_ble_eq_true rfl) rfl ?_
  show Z E G (HM D (vset V 37 8 (nI 0)) P PH) sz 0 0 (5, [some (.ref (D.1 37)), some (.int (nI a))], [.int (nI 1)])
  refine Z_br C it_Mm_reach rfl rfl (fun hc1 => absurd hc1 (by decide)) (fun hc1 => ?_)
  refine Z_run C it_Mm_reach 2 (f2 := (10, [some (.ref (D.1 37)), some (.int (nI a))], [.int (nI a), .ref (D.1 37)])) rfl ?_
  refine Zr_callV C it_Mm_reach hD rfl p_Mm_reached ml_Mm_139 37 (by decide) rfl rfl [.int (nI a)] (ct_Mm_reached_z C.ev C.l hD (vset V 37 8 (nI 0)) P _ F hF hz a (by first | assumption | omega) (by first | assumption | omega) _) rfl rfl ⟨by decide, by decide, by decide, by decide⟩ (Nat.le_of_ble_eq_true rfl) rfl ?_
  show Z E G (HM D (vset V 37 8 (nI 0)) P PH) sz 0 0 (13, [some (.ref (D.1 37)), some (.int (nI a))], [.long (lN (bm (cmv F a) 36))])
  refine Z_run C it_Mm_reach 1 (f2 := (17, [some (.ref (D.1 37)), some (.int (nI a))], [.long (lN (bm (cmv F a) 36))])) rfl ?_
  exact Z_lret C q.e it_Mm_reach rfl (zRet_lH rfl (by first | rfl | (simp only [vset_2]))) (by decide) (by decide)
set_option maxRecDepth 20000 in
theorem ct_Mm_reach_x2 {E : zE} (hE : zEv E) {l : Launch} (hl : l.stackTraces = false) {D : zD} (hD : zDok E D) (V : Nat → Nat → Int32) (P : Nat → Nat → Value) (PH : aH) (F : Nat → Nat) (hF : okF F) (hz : ∀ k, k < 36 → V 38 k = nI (mo (F k))) (a : Nat) (ha : a < 36) (ha0 : F a = 0) (sz : Nat) : zM E l y_Mm_reach [.code y_Mm_reach c_Mm_reach 2 (some .long)] rm_Mm_reach [.ref (D.1 37), .int (nI a)] (HM D V P PH) sz (zRet (some (.long (lN 0))) (HM D (vset V 37 8 (nI 2)) P PH) sz) := by
  refine zM_of hE hl (by decide +kernel) [some (.ref (D.1 37)), some (.int (nI a))] ⟨rfl, rfl, Nat.le_of_ble_eq_true rfl⟩ ?_
  intro G C q htb
  refine Z_run C it_Mm_reach 2 (f2 := (2, [some (.ref (D.1 37)), some (.int (nI a))], [.int (nI a), .ref (D.1 37)])) rfl ?_
  refine Zr_callV C it_Mm_reach hD rfl p_Mm_asksPiece ml_Mm_136 37 (by decide) rfl rfl [.int (nI a)] (ct_Mm_asksPiece_x2 C.ev C.l hD V P _ F hF hz a (by omega) (by assumption) _) rfl rfl ⟨by decide, by decide, by decide, by decide⟩ (Nat.le_of_ble_eq_true rfl) rfl ?_
  show Z E G (HM D (vset V 37 8 (nI 2)) P PH) sz 0 0 (5, [some (.ref (D.1 37)), some (.int (nI a))], [.int (nI 0)])
  refine Z_br C it_Mm_reach rfl rfl (fun hc1 => ?_) (fun hc1 => absurd (by decide) hc1)
  refine Z_run C it_Mm_reach 1 (f2 := (17, [some (.ref (D.1 37)), some (.int (nI a))], [.long (lN 0)])) rfl ?_
  exact Z_lret C q.e it_Mm_reach rfl (zRet_lH rfl (by first | rfl | (simp only [vset_2]))) (by decide) (by decide)
set_option maxRecDepth 20000 in
theorem ct_Mm_reach_x1 {E : zE} (hE : zEv E) {l : Launch} (hl : l.stackTraces = false) {D : zD} (hD : zDok E D) (V : Nat → Nat → Int32) (P : Nat → Nat → Value) (PH : aH) (a : Nat) (h32 : a < 4294967296) (ha : 36 ≤ a) (sz : Nat) : zM E l y_Mm_reach [.code y_Mm_reach c_Mm_reach 2 (some .long)] rm_Mm_reach [.ref (D.1 37), .int (nI a)] (HM D V P PH) sz (zRet (some (.long (lN 0))) (HM D (vset V 37 8 (nI 1)) P PH) sz) := by
  refine zM_of hE hl (by decide +kernel) [some (.ref (D.1 37)), some (.int (nI a))] ⟨rfl, rfl, Nat.le_of_ble_eq_true rfl⟩ ?_
  intro G C q htb
  refine Z_run C it_Mm_reach 2 (f2 := (2, [some (.ref (D.1 37)), some (.int (nI a))], [.int (nI a), .ref (D.1 37)])) rfl ?_
  refine Zr_callV C it_Mm_reach hD rfl p_Mm_asksPiece ml_Mm_136 37 (by decide) rfl rfl [.int (nI a)] (ct_Mm_asksPiece_x1 C.ev C.l hD V P _ a (by omega) (by omega) _) rfl rfl ⟨by decide, by decide, by decide, by decide⟩ (Nat.le_of_ble_eq_true rfl) rfl ?_
  show Z E G (HM D (vset V 37 8 (nI 1)) P PH) sz 0 0 (5, [some (.ref (D.1 37)), some (.int (nI a))], [.int (nI 0)])
  refine Z_br C it_Mm_reach rfl rfl (fun hc1 => ?_) (fun hc1 => absurd (by decide) hc1)
  refine Z_run C it_Mm_reach 1 (f2 := (17, [some (.ref (D.1 37)), some (.int (nI a))], [.long (lN 0)])) rfl ?_
  exact Z_lret C q.e it_Mm_reach rfl (zRet_lH rfl (by first | rfl | (simp only [vset_2]))) (by decide) (by decide)
set_option maxRecDepth 20000 in
theorem ct_Mm_pieces {E : zE} (hE : zEv E) {l : Launch} (hl : l.stackTraces = false) {D : zD} (hD : zDok E D) (V : Nat → Nat → Int32) (P : Nat → Nat → Value) (PH : aH) (F : Nat → Nat) (hF : okF F) (hz : ∀ k, k < 36 → V 38 k = nI (mo (F k)))  (a : Nat) (ha : a < 2) (sz : Nat) : zM E l y_Mm_pieces [.code y_Mm_pieces c_Mm_pieces 2 (some .int)] rm_Mm_pieces [.ref (D.1 37), .int (nI a)] (HM D V P PH) sz (zRet (some (.int (nI (cnt (fun k => hld F k a) 36)))) (HM D (vset V 37 8 (nI 0)) P PH) sz) := by
  refine zM_of hE hl (by decide +kernel) [some (.ref (D.1 37)), some (.int (nI a))] ⟨rfl, rfl, Nat.le_of_ble_eq_true rfl⟩ ?_
  intro G C q htb
  refine Z_run C it_Mm_pieces 2 (f2 := (2, [some (.ref (D.1 37)), some (.int (nI a))], [.int (nI a), .ref (D.1 37)])) rfl ?_
  refine Zr_callS C it_Mm_pieces rfl p_Mm_isSide ml_Mm_91 [.int (nI a)] (ct_Mm_isSide_t C.ev C.l a (by omega) (HM D V P PH) _) rfl rfl ⟨by decide, by decide, by decide, by decide⟩ (Nat.le_of_ble_eq_true rfl) rfl ?_
  show Z E G (HM D V P PH) sz 0 0 (5, [some (.ref (D.1 37)), some (.int (nI a))], [.int (nI 1), .ref (D.1 37)])
  refine Zr_callV C it_Mm_pieces hD rfl p_Mm_asks ml_Mm_40 37 (by decide) rfl rfl [.int (nI 1)] (ct_Mm_asks_t C.ev C.l hD V P _ _) rfl rfl ⟨by decide, by decide, by decide, by decide⟩ (Nat.le_of_ble_eq_true rfl) rfl ?_
  show Z E G (HM D (vset V 37 8 (nI 0)) P PH) sz 0 0 (8, [some (.ref (D.1 37)), some (.int (nI a))], [.int (nI 1)])
  refine Z_br C it_Mm_pieces rfl rfl (fun hc1 => absurd hc1 (by decide)) (fun hc1 => ?_)
  refine Z_run C it_Mm_pieces 2 (f2 := (13, [some (.ref (D.1 37)), some (.int (nI a))], [.int (nI a), .ref (D.1 37)])) rfl ?_
  refine Zr_callV C it_Mm_pieces hD rfl p_Mm_count ml_Mm_82 37 (by decide) rfl rfl [.int (nI a)] (ct_Mm_count_z C.ev C.l hD (vset V 37 8 (nI 0)) P _ F hF hz a (by first | assumption | omega) _) rfl rfl ⟨by decide, by decide, by decide, by decide⟩ (Nat.le_of_ble_eq_true rfl) rfl ?_
  show Z E G (HM D (vset V 37 8 (nI 0)) P PH) sz 0 0 (16, [some (.ref (D.1 37)), some (.int (nI a))], [.int (nI (cnt (fun k => hld F k a) 36))])
  refine Z_run C it_Mm_pieces 1 (f2 := (20, [some (.ref (D.1 37)), some (.int (nI a))], [.int (nI (cnt (fun k => hld F k a) 36))])) rfl ?_
  exact Z_iret C q.e it_Mm_pieces rfl (zRet_iH rfl (by first | rfl | (simp only [vset_2]))) (by decide) (by decide)
set_option maxRecDepth 20000 in
theorem ct_Mm_pieces_x1 {E : zE} (hE : zEv E) {l : Launch} (hl : l.stackTraces = false) {D : zD} (hD : zDok E D) (V : Nat → Nat → Int32) (P : Nat → Nat → Value) (PH : aH) (a : Nat) (h32 : a < 4294967296) (ha : 2 ≤ a) (sz : Nat) : zM E l y_Mm_pieces [.code y_Mm_pieces c_Mm_pieces 2 (some .int)] rm_Mm_pieces [.ref (D.1 37), .int (nI a)] (HM D V P PH) sz (zRet (some (.int (nI 0))) (HM D (vset V 37 8 (nI 1)) P PH) sz) := by
  refine zM_of hE hl (by decide +kernel) [some (.ref (D.1 37)), some (.int (nI a))] ⟨rfl, rfl, Nat.le_of_ble_eq_true rfl⟩ ?_
  intro G C q htb
  refine Z_run C it_Mm_pieces 2 (f2 := (2, [some (.ref (D.1 37)), some (.int (nI a))], [.int (nI a), .ref (D.1 37)])) rfl ?_
  refine Zr_callS C it_Mm_pieces rfl p_Mm_isSide ml_Mm_91 [.int (nI a)] (ct_Mm_isSide_f C.ev C.l a (by omega) (by omega) (HM D V P PH) _) rfl rfl ⟨by decide, by decide, by decide, by decide⟩ (Nat.le_of_ble_eq_true rfl) rfl ?_
  show Z E G (HM D V P PH) sz 0 0 (5, [some (.ref (D.1 37)), some (.int (nI a))], [.int (nI 0), .ref (D.1 37)])
  refine Zr_callV C it_Mm_pieces hD rfl p_Mm_asks ml_Mm_40 37 (by decide) rfl rfl [.int (nI 0)] (ct_Mm_asks_f C.ev C.l hD V P _ _) rfl rfl ⟨by decide, by decide, by decide, by decide⟩ (Nat.le_of_ble_eq_true rfl) rfl ?_
  show Z E G (HM D (vset V 37 8 (nI 1)) P PH) sz 0 0 (8, [some (.ref (D.1 37)), some (.int (nI a))], [.int (nI 0)])
  refine Z_br C it_Mm_pieces rfl rfl (fun hc1 => ?_) (fun hc1 => absurd (by decide) hc1)
  refine Z_run C it_Mm_pieces 1 (f2 := (20, [some (.ref (D.1 37)), some (.int (nI a))], [.int (nI 0)])) rfl ?_
  exact Z_iret C q.e it_Mm_pieces rfl (zRet_iH rfl (by first | rfl | (simp only [vset_2]))) (by decide) (by decide)
set_option maxRecDepth 20000 in
theorem ct_Mm_moveCount {E : zE} (hE : zEv E) {l : Launch} (hl : l.stackTraces = false) {D : zD} (hD : zDok E D) (V : Nat → Nat → Int32) (P : Nat → Nat → Value) (PH : aH) (F : Nat → Nat) (hF : okF F) (hz : ∀ k, k < 36 → V 38 k = nI (mo (F k)))  (a : Nat) (ha : a < 2) (sz : Nat) : zM E l y_Mm_moveCount [.code y_Mm_moveCount c_Mm_moveCount 2 (some .int)] rm_Mm_moveCount [.ref (D.1 37), .int (nI a)] (HM D V P PH) sz (zRet (some (.int (nI (mvo F a 36)))) (HM D (vset V 37 8 (nI 0)) P PH) sz) := by
  refine zM_of hE hl (by decide +kernel) [some (.ref (D.1 37)), some (.int (nI a))] ⟨rfl, rfl, Nat.le_of_ble_eq_true rfl⟩ ?_
  intro G C q htb
  refine Z_run C it_Mm_moveCount 2 (f2 := (2, [some (.ref (D.1 37)), some (.int (nI a))], [.int (nI a), .ref (D.1 37)])) rfl ?_
  refine Zr_callS C it_Mm_moveCount rfl p_Mm_isSide ml_Mm_91 [.int (nI a)] (ct_Mm_isSide_t C.ev C.l a (by omega) (HM D V P PH) _) rfl rfl ⟨by decide, by decide, by decide, by decide⟩ (Nat.le_of_ble_eq_true rfl) rfl ?_
  show Z E G (HM D V P PH) sz 0 0 (5, [some (.ref (D.1 37)), some (.int (nI a))], [.int (nI 1), .ref (D.1 37)])
  refine Zr_callV C it_Mm_moveCount hD rfl p_Mm_asks ml_Mm_40 37 (by decide) rfl rfl [.int (nI 1)] (ct_Mm_asks_t C.ev C.l hD V P _ _) rfl rfl ⟨by decide, by decide, by decide, by decide⟩ (Nat.le_of_ble_eq_true rfl) rfl ?_
  show Z E G (HM D (vset V 37 8 (nI 0)) P PH) sz 0 0 (8, [some (.ref (D.1 37)), some (.int (nI a))], [.int (nI 1)])
  refine Z_br C it_Mm_moveCount rfl rfl (fun hc1 => absurd hc1 (by decide)) (fun hc1 => ?_)
  refine Z_run C it_Mm_moveCount 2 (f2 := (13, [some (.ref (D.1 37)), some (.int (nI a))], [.int (nI a), .ref (D.1 37)])) rfl ?_
  refine Zr_callV C it_Mm_moveCount hD rfl p_Mm_movesOf ml_Mm_111 37 (by decide) rfl rfl [.int (nI a)] (ct_Mm_movesOf_z C.ev C.l hD (vset V 37 8 (nI 0)) P _ F hF hz a (by first | assumption | omega) _) rfl rfl ⟨by decide, by decide, by decide, by decide⟩ (Nat.le_of_ble_eq_true rfl) rfl ?_
  show Z E G (HM D (vset V 37 8 (nI 0)) P PH) sz 0 0 (16, [some (.ref (D.1 37)), some (.int (nI a))], [.int (nI (mvo F a 36))])
  refine Z_run C it_Mm_moveCount 1 (f2 := (20, [some (.ref (D.1 37)), some (.int (nI a))], [.int (nI (mvo F a 36))])) rfl ?_
  exact Z_iret C q.e it_Mm_moveCount rfl (zRet_iH rfl (by first | rfl | (simp only [vset_2]))) (by decide) (by decide)
set_option maxRecDepth 20000 in
theorem ct_Mm_moveCount_x1 {E : zE} (hE : zEv E) {l : Launch} (hl : l.stackTraces = false) {D : zD} (hD : zDok E D) (V : Nat → Nat → Int32) (P : Nat → Nat → Value) (PH : aH) (a : Nat) (h32 : a < 4294967296) (ha : 2 ≤ a) (sz : Nat) : zM E l y_Mm_moveCount [.code y_Mm_moveCount c_Mm_moveCount 2 (some .int)] rm_Mm_moveCount [.ref (D.1 37), .int (nI a)] (HM D V P PH) sz (zRet (some (.int (nI 0))) (HM D (vset V 37 8 (nI 1)) P PH) sz) := by
  refine zM_of hE hl (by decide +kernel) [some (.ref (D.1 37)), some (.int (nI a))] ⟨rfl, rfl, Nat.le_of_ble_eq_true rfl⟩ ?_
  intro G C q htb
  refine Z_run C it_Mm_moveCount 2 (f2 := (2, [some (.ref (D.1 37)), some (.int (nI a))], [.int (nI a), .ref (D.1 37)])) rfl ?_
  refine Zr_callS C it_Mm_moveCount rfl p_Mm_isSide ml_Mm_91 [.int (nI a)] (ct_Mm_isSide_f C.ev C.l a (by omega) (by omega) (HM D V P PH) _) rfl rfl ⟨by decide, by decide, by decide, by decide⟩ (Nat.le_of_ble_eq_true rfl) rfl ?_
  show Z E G (HM D V P PH) sz 0 0 (5, [some (.ref (D.1 37)), some (.int (nI a))], [.int (nI 0), .ref (D.1 37)])
  refine Zr_callV C it_Mm_moveCount hD rfl p_Mm_asks ml_Mm_40 37 (by decide) rfl rfl [.int (nI 0)] (ct_Mm_asks_f C.ev C.l hD V P _ _) rfl rfl ⟨by decide, by decide, by decide, by decide⟩ (Nat.le_of_ble_eq_true rfl) rfl ?_
  show Z E G (HM D (vset V 37 8 (nI 1)) P PH) sz 0 0 (8, [some (.ref (D.1 37)), some (.int (nI a))], [.int (nI 0)])
  refine Z_br C it_Mm_moveCount rfl rfl (fun hc1 => ?_) (fun hc1 => absurd (by decide) hc1)
  refine Z_run C it_Mm_moveCount 1 (f2 := (20, [some (.ref (D.1 37)), some (.int (nI a))], [.int (nI 0)])) rfl ?_
  exact Z_iret C q.e it_Mm_moveCount rfl (zRet_iH rfl (by first | rfl | (simp only [vset_2]))) (by decide) (by decide)
set_option maxRecDepth 20000 in
theorem ct_Mm_guards {E : zE} (hE : zEv E) {l : Launch} (hl : l.stackTraces = false) {D : zD} (hD : zDok E D) (V : Nat → Nat → Int32) (P : Nat → Nat → Value) (PH : aH) (F : Nat → Nat) (hF : okF F) (hz : ∀ k, k < 36 → V 38 k = nI (mo (F k)))  (a : Nat) (ha : a < 2) (b : Nat) (hb : b < 36) (sz : Nat) : zM E l y_Mm_guards [.code y_Mm_guards c_Mm_guards 3 (some .int)] rm_Mm_guards [.ref (D.1 37), .int (nI a), .int (nI b)] (HM D V P PH) sz (zRet (some (.int (nI (cnt (fun k => hld F k a && gop F (stp (F k)) k b 5) 36)))) (HM D (vset V 37 8 (nI 0)) P PH) sz) := by
  refine zM_of hE hl (by decide +kernel) [some (.ref (D.1 37)), some (.int (nI a)), some (.int (nI b))] ⟨rfl, rfl, Nat.le_of_ble_eq_true rfl⟩ ?_
  intro G C q htb
  refine Z_run C it_Mm_guards 2 (f2 := (2, [some (.ref (D.1 37)), some (.int (nI a)), some (.int (nI b))], [.int (nI a), .ref (D.1 37)])) rfl ?_
  refine Zr_callS C it_Mm_guards rfl p_Mm_isSide ml_Mm_91 [.int (nI a)] (ct_Mm_isSide_t C.ev C.l a (by omega) (HM D V P PH) _) rfl rfl ⟨by decide, by decide, by decide, by decide⟩ (Nat.le_of_ble_eq_true rfl) rfl ?_
  show Z E G (HM D V P PH) sz 0 0 (5, [some (.ref (D.1 37)), some (.int (nI a)), some (.int (nI b))], [.int (nI 1), .ref (D.1 37)])
  refine Z_br C it_Mm_guards rfl rfl (fun hc1 => absurd hc1 (by decide)) (fun hc1 => ?_)
  refine Z_run C it_Mm_guards 1 (f2 := (9, [some (.ref (D.1 37)), some (.int (nI a)), some (.int (nI b))], [.int (nI b), .ref (D.1 37)])) rfl ?_
  refine Zr_callS C it_Mm_guards rfl p_Mm_isSquare ml_Mm_94 [.int (nI b)] (ct_Mm_isSquare_t C.ev C.l b (by omega) (HM D V P PH) _) rfl rfl ⟨by decide, by decide, by decide, by decide⟩ (Nat.le_of_ble_eq_true rfl) rfl ?_
  show Z E G (HM D V P PH) sz 0 0 (12, [some (.ref (D.1 37)), some (.int (nI a)), some (.int (nI b))], [.int (nI 1), .ref (D.1 37)])
  refine Z_br C it_Mm_guards rfl rfl (fun hc2 => absurd hc2 (by decide)) (fun hc2 => ?_)
  refine Z_run C it_Mm_guards 2 (f2 := (20, [some (.ref (D.1 37)), some (.int (nI a)), some (.int (nI b))], [.int (nI 1), .ref (D.1 37)])) rfl ?_
  refine Zr_callV C it_Mm_guards hD rfl p_Mm_asks ml_Mm_40 37 (by decide) rfl rfl [.int (nI 1)] (ct_Mm_asks_t C.ev C.l hD V P _ _) rfl rfl ⟨by decide, by decide, by decide, by decide⟩ (Nat.le_of_ble_eq_true rfl) rfl ?_
  show Z E G (HM D (vset V 37 8 (nI 0)) P PH) sz 0 0 (23, [some (.ref (D.1 37)), some (.int (nI a)), some (.int (nI b))], [.int (nI 1)])
  refine Z_br C it_Mm_guards rfl rfl (fun hc3 => absurd hc3 (by decide)) (fun hc3 => ?_)
  refine Z_run C it_Mm_guards 3 (f2 := (29, [some (.ref (D.1 37)), some (.int (nI a)), some (.int (nI b))], [.int (nI b), .int (nI a), .ref (D.1 37)])) rfl ?_
  refine Zr_callV C it_Mm_guards hD rfl p_Mm_guarding ml_Mm_143 37 (by decide) rfl rfl [.int (nI a), .int (nI b)] (ct_Mm_guarding_z C.ev C.l hD (vset V 37 8 (nI 0)) P _ F hF hz a (by first | assumption | omega) b (by first | assumption | omega) _) rfl rfl ⟨by decide, by decide, by decide, by decide⟩ (Nat.le_of_ble_eq_true rfl) rfl ?_
  show Z E G (HM D (vset V 37 8 (nI 0)) P PH) sz 0 0 (32, [some (.ref (D.1 37)), some (.int (nI a)), some (.int (nI b))], [.int (nI (cnt (fun k => hld F k a && gop F (stp (F k)) k b 5) 36))])
  refine Z_run C it_Mm_guards 1 (f2 := (36, [some (.ref (D.1 37)), some (.int (nI a)), some (.int (nI b))], [.int (nI (cnt (fun k => hld F k a && gop F (stp (F k)) k b 5) 36))])) rfl ?_
  exact Z_iret C q.e it_Mm_guards rfl (zRet_iH rfl (by first | rfl | (simp only [vset_2]))) (by decide) (by decide)
set_option maxRecDepth 20000 in
theorem ct_Mm_guards_x1 {E : zE} (hE : zEv E) {l : Launch} (hl : l.stackTraces = false) {D : zD} (hD : zDok E D) (V : Nat → Nat → Int32) (P : Nat → Nat → Value) (PH : aH) (a : Nat) (h32 : a < 4294967296) (ha : 2 ≤ a) (xb : Int32) (sz : Nat) : zM E l y_Mm_guards [.code y_Mm_guards c_Mm_guards 3 (some .int)] rm_Mm_guards [.ref (D.1 37), .int (nI a), .int xb] (HM D V P PH) sz (zRet (some (.int (nI 0))) (HM D (vset V 37 8 (nI 1)) P PH) sz) := by
  refine zM_of hE hl (by decide +kernel) [some (.ref (D.1 37)), some (.int (nI a)), some (.int xb)] ⟨rfl, rfl, Nat.le_of_ble_eq_true rfl⟩ ?_
  intro G C q htb
  refine Z_run C it_Mm_guards 2 (f2 := (2, [some (.ref (D.1 37)), some (.int (nI a)), some (.int xb)], [.int (nI a), .ref (D.1 37)])) rfl ?_
  refine Zr_callS C it_Mm_guards rfl p_Mm_isSide ml_Mm_91 [.int (nI a)] (ct_Mm_isSide_f C.ev C.l a (by omega) (by omega) (HM D V P PH) _) rfl rfl ⟨by decide, by decide, by decide, by decide⟩ (Nat.le_of_ble_eq_true rfl) rfl ?_
  show Z E G (HM D V P PH) sz 0 0 (5, [some (.ref (D.1 37)), some (.int (nI a)), some (.int xb)], [.int (nI 0), .ref (D.1 37)])
  refine Z_br C it_Mm_guards rfl rfl (fun hc1 => ?_) (fun hc1 => absurd (by decide) hc1)
  refine Z_run C it_Mm_guards 1 (f2 := (20, [some (.ref (D.1 37)), some (.int (nI a)), some (.int xb)], [.int (nI 0), .ref (D.1 37)])) rfl ?_
  refine Zr_callV C it_Mm_guards hD rfl p_Mm_asks ml_Mm_40 37 (by decide) rfl rfl [.int (nI 0)] (ct_Mm_asks_f C.ev C.l hD V P _ _) rfl rfl ⟨by decide, by decide, by decide, by decide⟩ (Nat.le_of_ble_eq_true rfl) rfl ?_
  show Z E G (HM D (vset V 37 8 (nI 1)) P PH) sz 0 0 (23, [some (.ref (D.1 37)), some (.int (nI a)), some (.int xb)], [.int (nI 0)])
  refine Z_br C it_Mm_guards rfl rfl (fun hc2 => ?_) (fun hc2 => absurd (by decide) hc2)
  refine Z_run C it_Mm_guards 1 (f2 := (36, [some (.ref (D.1 37)), some (.int (nI a)), some (.int xb)], [.int (nI 0)])) rfl ?_
  exact Z_iret C q.e it_Mm_guards rfl (zRet_iH rfl (by first | rfl | (simp only [vset_2]))) (by decide) (by decide)
set_option maxRecDepth 20000 in
theorem ct_Mm_guards_x2 {E : zE} (hE : zEv E) {l : Launch} (hl : l.stackTraces = false) {D : zD} (hD : zDok E D) (V : Nat → Nat → Int32) (P : Nat → Nat → Value) (PH : aH) (a : Nat) (ha : a < 2) (b : Nat) (h32 : b < 4294967296) (hb : 36 ≤ b) (sz : Nat) : zM E l y_Mm_guards [.code y_Mm_guards c_Mm_guards 3 (some .int)] rm_Mm_guards [.ref (D.1 37), .int (nI a), .int (nI b)] (HM D V P PH) sz (zRet (some (.int (nI 0))) (HM D (vset V 37 8 (nI 1)) P PH) sz) := by
  refine zM_of hE hl (by decide +kernel) [some (.ref (D.1 37)), some (.int (nI a)), some (.int (nI b))] ⟨rfl, rfl, Nat.le_of_ble_eq_true rfl⟩ ?_
  intro G C q htb
  refine Z_run C it_Mm_guards 2 (f2 := (2, [some (.ref (D.1 37)), some (.int (nI a)), some (.int (nI b))], [.int (nI a), .ref (D.1 37)])) rfl ?_
  refine Zr_callS C it_Mm_guards rfl p_Mm_isSide ml_Mm_91 [.int (nI a)] (ct_Mm_isSide_t C.ev C.l a (by omega) (HM D V P PH) _) rfl rfl ⟨by decide, by decide, by decide, by decide⟩ (Nat.le_of_ble_eq_true rfl) rfl ?_
  show Z E G (HM D V P PH) sz 0 0 (5, [some (.ref (D.1 37)), some (.int (nI a)), some (.int (nI b))], [.int (nI 1), .ref (D.1 37)])
  refine Z_br C it_Mm_guards rfl rfl (fun hc1 => absurd hc1 (by decide)) (fun hc1 => ?_)
  refine Z_run C it_Mm_guards 1 (f2 := (9, [some (.ref (D.1 37)), some (.int (nI a)), some (.int (nI b))], [.int (nI b), .ref (D.1 37)])) rfl ?_
  refine Zr_callS C it_Mm_guards rfl p_Mm_isSquare ml_Mm_94 [.int (nI b)] (ct_Mm_isSquare_f C.ev C.l b (by omega) (by omega) (HM D V P PH) _) rfl rfl ⟨by decide, by decide, by decide, by decide⟩ (Nat.le_of_ble_eq_true rfl) rfl ?_
  show Z E G (HM D V P PH) sz 0 0 (12, [some (.ref (D.1 37)), some (.int (nI a)), some (.int (nI b))], [.int (nI 0), .ref (D.1 37)])
  refine Z_br C it_Mm_guards rfl rfl (fun hc2 => ?_) (fun hc2 => absurd (by decide) hc2)
  refine Z_run C it_Mm_guards 1 (f2 := (20, [some (.ref (D.1 37)), some (.int (nI a)), some (.int (nI b))], [.int (nI 0), .ref (D.1 37)])) rfl ?_
  refine Zr_callV C it_Mm_guards hD rfl p_Mm_asks ml_Mm_40 37 (by decide) rfl rfl [.int (nI 0)] (ct_Mm_asks_f C.ev C.l hD V P _ _) rfl rfl ⟨by decide, by decide, by decide, by decide⟩ (Nat.le_of_ble_eq_true rfl) rfl ?_
  show Z E G (HM D (vset V 37 8 (nI 1)) P PH) sz 0 0 (23, [some (.ref (D.1 37)), some (.int (nI a)), some (.int (nI b))], [.int (nI 0)])
  refine Z_br C it_Mm_guards rfl rfl (fun hc3 => ?_) (fun hc3 => absurd (by decide) hc3)
  refine Z_run C it_Mm_guards 1 (f2 := (36, [some (.ref (D.1 37)), some (.int (nI a)), some (.int (nI b))], [.int (nI 0)])) rfl ?_
  exact Z_iret C q.e it_Mm_guards rfl (zRet_iH rfl (by first | rfl | (simp only [vset_2]))) (by decide) (by decide)
set_option maxRecDepth 20000 in
theorem ct_Mm_guardsByLooking {E : zE} (hE : zEv E) {l : Launch} (hl : l.stackTraces = false) {D : zD} (hD : zDok E D) (V : Nat → Nat → Int32) (P : Nat → Nat → Value) (PH : aH) (F : Nat → Nat) (hF : okF F) (hz : ∀ k, k < 36 → V 38 k = nI (mo (F k)))  (a : Nat) (ha : a < 2) (b : Nat) (hb : b < 36) (sz : Nat) : zM E l y_Mm_guardsByLooking [.code y_Mm_guardsByLooking c_Mm_guardsByLooking 3 (some .int)] rm_Mm_guardsByLooking [.ref (D.1 37), .int (nI a), .int (nI b)] (HM D V P PH) sz (zRet (some (.int (nI (cnt (fun k => hld F k a && gop F (stp (F k)) k b 5) 36)))) (HM D (vset V 37 8 (nI 0)) P PH) sz) := by
  refine zM_of hE hl (by decide +kernel) [some (.ref (D.1 37)), some (.int (nI a)), some (.int (nI b))] ⟨rfl, rfl, Nat.le_of_ble_eq_true rfl⟩ ?_
  intro G C q htb
  refine Z_run C it_Mm_guardsByLooking 2 (f2 := (2, [some (.ref (D.1 37)), some (.int (nI a)), some (.int (nI b))], [.int (nI a), .ref (D.1 37)])) rfl ?_
  refine Zr_callS C it_Mm_guardsByLooking rfl p_Mm_isSide ml_Mm_91 [.int (nI a)] (ct_Mm_isSide_t C.ev C.l a (by omega) (HM D V P PH) _) rfl rfl ⟨by decide, by decide, by decide, by decide⟩ (Nat.le_of_ble_eq_true rfl) rfl ?_
  show Z E G (HM D V P PH) sz 0 0 (5, [some (.ref (D.1 37)), some (.int (nI a)), some (.int (nI b))], [.int (nI 1), .ref (D.1 37)])
  refine Z_br C it_Mm_guardsByLooking rfl rfl (fun hc1 => absurd hc1 (by decide)) (fun hc1 => ?_)
  refine Z_run C it_Mm_guardsByLooking 1 (f2 := (9, [some (.ref (D.1 37)), some (.int (nI a)), some (.int (nI b))], [.int (nI b), .ref (D.1 37)])) rfl ?_
  refine Zr_callS C it_Mm_guardsByLooking rfl p_Mm_isSquare ml_Mm_94 [.int (nI b)] (ct_Mm_isSquare_t C.ev C.l b (by omega) (HM D V P PH) _) rfl rfl ⟨by decide, by decide, by decide, by decide⟩ (Nat.le_of_ble_eq_true rfl) rfl ?_
  show Z E G (HM D V P PH) sz 0 0 (12, [some (.ref (D.1 37)), some (.int (nI a)), some (.int (nI b))], [.int (nI 1), .ref (D.1 37)])
  refine Z_br C it_Mm_guardsByLooking rfl rfl (fun hc2 => absurd hc2 (by decide)) (fun hc2 => ?_)
  refine Z_run C it_Mm_guardsByLooking 2 (f2 := (20, [some (.ref (D.1 37)), some (.int (nI a)), some (.int (nI b))], [.int (nI 1), .ref (D.1 37)])) rfl ?_
  refine Zr_callV C it_Mm_guardsByLooking hD rfl p_Mm_asks ml_Mm_40 37 (by decide) rfl rfl [.int (nI 1)] (ct_Mm_asks_t C.ev C.l hD V P _ _) rfl rfl ⟨by decide, by decide, by decide, by decide⟩ (Nat.le_of_ble_eq_true rfl) rfl ?_
  show Z E G (HM D (vset V 37 8 (nI 0)) P PH) sz 0 0 (23, [some (.ref (D.1 37)), some (.int (nI a)), some (.int (nI b))], [.int (nI 1)])
  refine Z_br C it_Mm_guardsByLooking rfl rfl (fun hc3 => absurd hc3 (by decide)) (fun hc3 => ?_)
  refine Z_run C it_Mm_guardsByLooking 3 (f2 := (29, [some (.ref (D.1 37)), some (.int (nI a)), some (.int (nI b))], [.int (nI b), .int (nI a), .ref (D.1 37)])) rfl ?_
  refine Zr_callV C it_Mm_guardsByLooking hD rfl p_Mm_guarding ml_Mm_143 37 (by decide) rfl rfl [.int (nI a), .int (nI b)] (ct_Mm_guarding_z C.ev C.l hD (vset V 37 8 (nI 0)) P _ F hF hz a (by first | assumption | omega) b (by first | assumption | omega) _) rfl rfl ⟨by decide, by decide, by decide, by decide⟩ (Nat.le_of_ble_eq_true rfl) rfl ?_
  show Z E G (HM D (vset V 37 8 (nI 0)) P PH) sz 0 0 (32, [some (.ref (D.1 37)), some (.int (nI a)), some (.int (nI b))], [.int (nI (cnt (fun k => hld F k a && gop F (stp (F k)) k b 5) 36))])
  refine Z_run C it_Mm_guardsByLooking 1 (f2 := (36, [some (.ref (D.1 37)), some (.int (nI a)), some (.int (nI b))], [.int (nI (cnt (fun k => hld F k a && gop F (stp (F k)) k b 5) 36))])) rfl ?_
  exact Z_iret C q.e it_Mm_guardsByLooking rfl (zRet_iH rfl (by first | rfl | (simp only [vset_2]))) (by decide) (by decide)
set_option maxRecDepth 20000 in
theorem ct_Mm_guardsByLooking_x1 {E : zE} (hE : zEv E) {l : Launch} (hl : l.stackTraces = false) {D : zD} (hD : zDok E D) (V : Nat → Nat → Int32) (P : Nat → Nat → Value) (PH : aH) (a : Nat) (h32 : a < 4294967296) (ha : 2 ≤ a) (xb : Int32) (sz : Nat) : zM E l y_Mm_guardsByLooking [.code y_Mm_guardsByLooking c_Mm_guardsByLooking 3 (some .int)] rm_Mm_guardsByLooking [.ref (D.1 37), .int (nI a), .int xb] (HM D V P PH) sz (zRet (some (.int (nI 0))) (HM D (vset V 37 8 (nI 1)) P PH) sz) := by
  refine zM_of hE hl (by decide +kernel) [some (.ref (D.1 37)), some (.int (nI a)), some (.int xb)] ⟨rfl, rfl, Nat.le_of_ble_eq_true rfl⟩ ?_
  intro G C q htb
  refine Z_run C it_Mm_guardsByLooking 2 (f2 := (2, [some (.ref (D.1 37)), some (.int (nI a)), some (.int xb)], [.int (nI a), .ref (D.1 37)])) rfl ?_
  refine Zr_callS C it_Mm_guardsByLooking rfl p_Mm_isSide ml_Mm_91 [.int (nI a)] (ct_Mm_isSide_f C.ev C.l a (by omega) (by omega) (HM D V P PH) _) rfl rfl ⟨by decide, by decide, by decide, by decide⟩ (Nat.le_of_ble_eq_true rfl) rfl ?_
  show Z E G (HM D V P PH) sz 0 0 (5, [some (.ref (D.1 37)), some (.int (nI a)), some (.int xb)], [.int (nI 0), .ref (D.1 37)])
  refine Z_br C it_Mm_guardsByLooking rfl rfl (fun hc1 => ?_) (fun hc1 => absurd (by decide) hc1)
  refine Z_run C it_Mm_guardsByLooking 1 (f2 := (20, [some (.ref (D.1 37)), some (.int (nI a)), some (.int xb)], [.int (nI 0), .ref (D.1 37)])) rfl ?_
  refine Zr_callV C it_Mm_guardsByLooking hD rfl p_Mm_asks ml_Mm_40 37 (by decide) rfl rfl [.int (nI 0)] (ct_Mm_asks_f C.ev C.l hD V P _ _) rfl rfl ⟨by decide, by decide, by decide, by decide⟩ (Nat.le_of_ble_eq_true rfl) rfl ?_
  show Z E G (HM D (vset V 37 8 (nI 1)) P PH) sz 0 0 (23, [some (.ref (D.1 37)), some (.int (nI a)), some (.int xb)], [.int (nI 0)])
  refine Z_br C it_Mm_guardsByLooking rfl rfl (fun hc2 => ?_) (fun hc2 => absurd (by decide) hc2)
  refine Z_run C it_Mm_guardsByLooking 1 (f2 := (36, [some (.ref (D.1 37)), some (.int (nI a)), some (.int xb)], [.int (nI 0)])) rfl ?_
  exact Z_iret C q.e it_Mm_guardsByLooking rfl (zRet_iH rfl (by first | rfl | (simp only [vset_2]))) (by decide) (by decide)
set_option maxRecDepth 20000 in
theorem ct_Mm_guardsByLooking_x2 {E : zE} (hE : zEv E) {l : Launch} (hl : l.stackTraces = false) {D : zD} (hD : zDok E D) (V : Nat → Nat → Int32) (P : Nat → Nat → Value) (PH : aH) (a : Nat) (ha : a < 2) (b : Nat) (h32 : b < 4294967296) (hb : 36 ≤ b) (sz : Nat) : zM E l y_Mm_guardsByLooking [.code y_Mm_guardsByLooking c_Mm_guardsByLooking 3 (some .int)] rm_Mm_guardsByLooking [.ref (D.1 37), .int (nI a), .int (nI b)] (HM D V P PH) sz (zRet (some (.int (nI 0))) (HM D (vset V 37 8 (nI 1)) P PH) sz) := by
  refine zM_of hE hl (by decide +kernel) [some (.ref (D.1 37)), some (.int (nI a)), some (.int (nI b))] ⟨rfl, rfl, Nat.le_of_ble_eq_true rfl⟩ ?_
  intro G C q htb
  refine Z_run C it_Mm_guardsByLooking 2 (f2 := (2, [some (.ref (D.1 37)), some (.int (nI a)), some (.int (nI b))], [.int (nI a), .ref (D.1 37)])) rfl ?_
  refine Zr_callS C it_Mm_guardsByLooking rfl p_Mm_isSide ml_Mm_91 [.int (nI a)] (ct_Mm_isSide_t C.ev C.l a (by omega) (HM D V P PH) _) rfl rfl ⟨by decide, by decide, by decide, by decide⟩ (Nat.le_of_ble_eq_true rfl) rfl ?_
  show Z E G (HM D V P PH) sz 0 0 (5, [some (.ref (D.1 37)), some (.int (nI a)), some (.int (nI b))], [.int (nI 1), .ref (D.1 37)])
  refine Z_br C it_Mm_guardsByLooking rfl rfl (fun hc1 => absurd hc1 (by decide)) (fun hc1 => ?_)
  refine Z_run C it_Mm_guardsByLooking 1 (f2 := (9, [some (.ref (D.1 37)), some (.int (nI a)), some (.int (nI b))], [.int (nI b), .ref (D.1 37)])) rfl ?_
  refine Zr_callS C it_Mm_guardsByLooking rfl p_Mm_isSquare ml_Mm_94 [.int (nI b)] (ct_Mm_isSquare_f C.ev C.l b (by omega) (by omega) (HM D V P PH) _) rfl rfl ⟨by decide, by decide, by decide, by decide⟩ (Nat.le_of_ble_eq_true rfl) rfl ?_
  show Z E G (HM D V P PH) sz 0 0 (12, [some (.ref (D.1 37)), some (.int (nI a)), some (.int (nI b))], [.int (nI 0), .ref (D.1 37)])
  refine Z_br C it_Mm_guardsByLooking rfl rfl (fun hc2 => ?_) (fun hc2 => absurd (by decide) hc2)
  refine Z_run C it_Mm_guardsByLooking 1 (f2 := (20, [some (.ref (D.1 37)), some (.int (nI a)), some (.int (nI b))], [.int (nI 0), .ref (D.1 37)])) rfl ?_
  refine Zr_callV C it_Mm_guardsByLooking hD rfl p_Mm_asks ml_Mm_40 37 (by decide) rfl rfl [.int (nI 0)] (ct_Mm_asks_f C.ev C.l hD V P _ _) rfl rfl ⟨by decide, by decide, by decide, by decide⟩ (Nat.le_of_ble_eq_true rfl) rfl ?_
  show Z E G (HM D (vset V 37 8 (nI 1)) P PH) sz 0 0 (23, [some (.ref (D.1 37)), some (.int (nI a)), some (.int (nI b))], [.int (nI 0)])
  refine Z_br C it_Mm_guardsByLooking rfl rfl (fun hc3 => ?_) (fun hc3 => absurd (by decide) hc3)
  refine Z_run C it_Mm_guardsByLooking 1 (f2 := (36, [some (.ref (D.1 37)), some (.int (nI a)), some (.int (nI b))], [.int (nI 0)])) rfl ?_
  exact Z_iret C q.e it_Mm_guardsByLooking rfl (zRet_iH rfl (by first | rfl | (simp only [vset_2]))) (by decide) (by decide)
set_option maxRecDepth 20000 in
theorem ct_Mm_worth {E : zE} (hE : zEv E) {l : Launch} (hl : l.stackTraces = false) {D : zD} (hD : zDok E D) (V : Nat → Nat → Int32) (P : Nat → Nat → Value) (PH : aH) (F : Nat → Nat) (hF : okF F) (hz : ∀ k, k < 36 → V 38 k = nI (mo (F k)))  (a : Nat) (ha : a < 2) (sz : Nat) : zM E l y_Mm_worth [.code y_Mm_worth c_Mm_worth 2 (some .int)] rm_Mm_worth [.ref (D.1 37), .int (nI a)] (HM D V P PH) sz (zRet (some (.int (nI (wos F a 36)))) (HM D (vset V 37 8 (nI 0)) P PH) sz) := by
  refine zM_of hE hl (by decide +kernel) [some (.ref (D.1 37)), some (.int (nI a))] ⟨rfl, rfl, Nat.le_of_ble_eq_true rfl⟩ ?_
  intro G C q htb
  refine Z_run C it_Mm_worth 2 (f2 := (2, [some (.ref (D.1 37)), some (.int (nI a))], [.int (nI a), .ref (D.1 37)])) rfl ?_
  refine Zr_callS C it_Mm_worth rfl p_Mm_isSide ml_Mm_91 [.int (nI a)] (ct_Mm_isSide_t C.ev C.l a (by omega) (HM D V P PH) _) rfl rfl ⟨by decide, by decide, by decide, by decide⟩ (Nat.le_of_ble_eq_true rfl) rfl ?_
  show Z E G (HM D V P PH) sz 0 0 (5, [some (.ref (D.1 37)), some (.int (nI a))], [.int (nI 1), .ref (D.1 37)])
  refine Zr_callV C it_Mm_worth hD rfl p_Mm_asks ml_Mm_40 37 (by decide) rfl rfl [.int (nI 1)] (ct_Mm_asks_t C.ev C.l hD V P _ _) rfl rfl ⟨by decide, by decide, by decide, by decide⟩ (Nat.le_of_ble_eq_true rfl) rfl ?_
  show Z E G (HM D (vset V 37 8 (nI 0)) P PH) sz 0 0 (8, [some (.ref (D.1 37)), some (.int (nI a))], [.int (nI 1)])
  refine Z_br C it_Mm_worth rfl rfl (fun hc1 => absurd hc1 (by decide)) (fun hc1 => ?_)
  refine Z_run C it_Mm_worth 2 (f2 := (13, [some (.ref (D.1 37)), some (.int (nI a))], [.int (nI a), .ref (D.1 37)])) rfl ?_
  refine Zr_callV C it_Mm_worth hD rfl p_Mm_all ml_Mm_155 37 (by decide) rfl rfl [.int (nI a)] (ct_Mm_all_z C.ev C.l hD (vset V 37 8 (nI 0)) P _ F hF hz a (by first | assumption | omega) _) rfl rfl ⟨by decide, by decide, by decide, by decide⟩ (Nat.le_of_ble_eq_true rfl) rfl ?_
  show Z E G (HM D (vset V 37 8 (nI 0)) P PH) sz 0 0 (16, [some (.ref (D.1 37)), some (.int (nI a))], [.int (nI (wos F a 36))])
  refine Z_run C it_Mm_worth 1 (f2 := (20, [some (.ref (D.1 37)), some (.int (nI a))], [.int (nI (wos F a 36))])) rfl ?_
  exact Z_iret C q.e it_Mm_worth rfl (zRet_iH rfl (by first | rfl | (simp only [vset_2]))) (by decide) (by decide)
set_option maxRecDepth 20000 in
theorem ct_Mm_worth_x1 {E : zE} (hE : zEv E) {l : Launch} (hl : l.stackTraces = false) {D : zD} (hD : zDok E D) (V : Nat → Nat → Int32) (P : Nat → Nat → Value) (PH : aH) (a : Nat) (h32 : a < 4294967296) (ha : 2 ≤ a) (sz : Nat) : zM E l y_Mm_worth [.code y_Mm_worth c_Mm_worth 2 (some .int)] rm_Mm_worth [.ref (D.1 37), .int (nI a)] (HM D V P PH) sz (zRet (some (.int (nI 0))) (HM D (vset V 37 8 (nI 1)) P PH) sz) := by
  refine zM_of hE hl (by decide +kernel) [some (.ref (D.1 37)), some (.int (nI a))] ⟨rfl, rfl, Nat.le_of_ble_eq_true rfl⟩ ?_
  intro G C q htb
  refine Z_run C it_Mm_worth 2 (f2 := (2, [some (.ref (D.1 37)), some (.int (nI a))], [.int (nI a), .ref (D.1 37)])) rfl ?_
  refine Zr_callS C it_Mm_worth rfl p_Mm_isSide ml_Mm_91 [.int (nI a)] (ct_Mm_isSide_f C.ev C.l a (by omega) (by omega) (HM D V P PH) _) rfl rfl ⟨by decide, by decide, by decide, by decide⟩ (Nat.le_of_ble_eq_true rfl) rfl ?_
  show Z E G (HM D V P PH) sz 0 0 (5, [some (.ref (D.1 37)), some (.int (nI a))], [.int (nI 0), .ref (D.1 37)])
  refine Zr_callV C it_Mm_worth hD rfl p_Mm_asks ml_Mm_40 37 (by decide) rfl rfl [.int (nI 0)] (ct_Mm_asks_f C.ev C.l hD V P _ _) rfl rfl ⟨by decide, by decide, by decide, by decide⟩ (Nat.le_of_ble_eq_true rfl) rfl ?_
  show Z E G (HM D (vset V 37 8 (nI 1)) P PH) sz 0 0 (8, [some (.ref (D.1 37)), some (.int (nI a))], [.int (nI 0)])
  refine Z_br C it_Mm_worth rfl rfl (fun hc1 => ?_) (fun hc1 => absurd (by decide) hc1)
  refine Z_run C it_Mm_worth 1 (f2 := (20, [some (.ref (D.1 37)), some (.int (nI a))], [.int (nI 0)])) rfl ?_
  exact Z_iret C q.e it_Mm_worth rfl (zRet_iH rfl (by first | rfl | (simp only [vset_2]))) (by decide) (by decide)
