/-! ===== the model: record, undo, the text ===== -/
theorem rcp_s0 {r src : Nat → Int32} {p i : Nat} {x : Int32} (h : x = src (i + p)) : upd (rcp r src 0 p i) i x = rcp r src 0 p (i + 1) := by
  have := rcp_s (r := r) (o := 0) h
  rw [Nat.zero_add] at this
  exact this
def recB (V : Nat → Nat → Int32) (m : Nat) : Nat → Nat → Int32 := vset (vrow V 39 (rcp (V 39) (V 38) (m * 60) 0 60)) 37 2 (nI (m + 1))
def recA (V : Nat → Nat → Int32) : Nat → Nat → Int32 := vset (vrow V 39 (rcp (V 39) (V 39) 0 60 240)) 37 2 (nI 4)
/-- the model's memory behind record, n states in the past -/
def recM (V : Nat → Nat → Int32) (n : Nat) : Nat → Nat → Int32 := if n = 5 then recB (recA V) 4 else recB V n
def undM (V : Nat → Nat → Int32) (n : Nat) : Nat → Nat → Int32 := vrow (vset (vset V 37 8 (nI 0)) 37 2 (nI (n - 1))) 38 (rcp (V 38) (V 39) 0 ((n - 1) * 60) 60)
/-- the first error of a text as the model finds it -/
def fl2 (n : Nat) : Option Nat → Option Nat
  | some k => some k
  | none => if n % 5 = 4 then none else some n
def flt (T : Nat → Nat) (n : Nat) : Option Nat := fl2 n (ffr (fun k => !fit T k) n 0)
def okU (V : Nat → Nat → Int32) (T : Nat → Nat) : Prop := ∀ k, k < 60 → V 43 k = nI (T k) ∧ T k < 65536
theorem inI_b {c lo hi : Nat} (h1 : c < 2 ^ 31) (h2 : lo < 2 ^ 31) (h3 : hi < 2 ^ 31) : inI (nI c) (nI lo) (nI hi) = bI (decide (lo ≤ c) && decide (c ≤ hi)) := by
  unfold inI
  by_cases g : lo ≤ c
  · rw [if_neg (fun z => absurd ((nI_ltI h1 h2).mp z) (by omega))]
    by_cases g2 : c ≤ hi
    · rw [if_neg (fun z => absurd ((nI_ltI h3 h1).mp z) (by omega))]
      simp [g, g2]
      rfl
    · rw [if_pos ((nI_ltI h3 h1).mpr (by omega))]
      simp [g2]
      rfl
  · rw [if_pos ((nI_ltI h1 h2).mpr (by omega))]
    simp [g]
    rfl
set_option maxRecDepth 20000 in
theorem lp_Mm_record2 {E : zE} {G : zG} {O : zO} (C : zCx E G c_Mm_record 2 y_Mm_record.cls y_Mm_record.name none rm_Mm_record) (q : zEndX E G O rm_Mm_record.cells rm_Mm_record.slots)  {D : zD} (hD : zDok E D) {V : Nat → Nat → Int32} {P : Nat → Nat → Value} {PH : aH} {m : Nat} (hm : V 37 2 = nI m) (hm5 : m < 5) {sz : Nat} (hO : O (.inl none) (HM D (recB V m) P PH) sz) : ∀ (j i : Nat), 60 - i < j → i ≤ 60 → Z E G (HM D (vrow V 39 (rcp (V 39) (V 38) (m * 60) 0 i)) P PH) sz 0 0 (50, [some (.ref (D.1 37)), some (.int (nI i))], []) := by
  intro j
  induction j with
  | zero =>
    intro i h1 h2
    omega
  | succ j ih =>
    intro i h1 h2
    refine Z_run C it_Mm_record 2 (f2 := (53, [some (.ref (D.1 37)), some (.int (nI i))], [.int (nI 60), .int (nI i)])) rfl ?_
    refine Z_br C it_Mm_record rfl rfl (fun hc1 => ?_) (fun hc1 => ?_)
    · replace hc1 := (nI_leI (a := 60) (b := i) (by omega) (by omega)).mp hc1
      have h60 : i = 60 := by omega
      rw [h60]
      refine Z_run C it_Mm_record 2 (f2 := (84, [some (.ref (D.1 37)), some (.int (nI 60))], [.ref (D.1 37), .ref (D.1 37)])) rfl ?_
      refine Zm_get C it_Mm_record hD rfl 37 wi_Mm (by decide) rfl rfl (j := 2) (by decide) fl_Mm_37 (v := .int (nI m)) (congrArg Value.int hm) ?_
      refine Z_run C it_Mm_record 2 (f2 := (89, [some (.ref (D.1 37)), some (.int (nI 60))], [.int (nI m + nI 1), .ref (D.1 37)])) rfl ?_
      rw [nI_add m 1]
      refine Zm_put C it_Mm_record hD rfl 37 wi_Mm t_Mm t_Mm_ok n_Mm (by first | decide | omega) rfl rfl (j := 2) (by decide) fl_Mm_37 rfl rfl rfl rfl ?_
      exact Z_vret C q.e it_Mm_record rfl (hO) (by decide) (by decide)
    · replace hc1 : ¬ _ := fun z9 => hc1 ((nI_leI (a := 60) (b := i) (by omega) (by omega)).mpr z9)
      refine Z_run C it_Mm_record 1 (f2 := (57, [some (.ref (D.1 37)), some (.int (nI i))], [.ref (D.1 37)])) rfl ?_
      refine Zm_get C it_Mm_record hD rfl 37 wi_Mm (by decide) rfl rfl (j := 1) (by decide) fl_Mm_13 (v := .ref (D.1 39)) rfl ?_
      refine Z_run C it_Mm_record 1 (f2 := (61, [some (.ref (D.1 37)), some (.int (nI i))], [.ref (D.1 37), .ref (D.1 39)])) rfl ?_
      refine Zm_get C it_Mm_record hD rfl 37 wi_Mm (by decide) rfl rfl (j := 2) (by decide) fl_Mm_37 (v := .int (nI m)) (congrArg Value.int hm) ?_
      refine Z_run C it_Mm_record 2 (f2 := (67, [some (.ref (D.1 37)), some (.int (nI i))], [.int (nI m * nI 60), .ref (D.1 39)])) rfl ?_
      rw [nI_mul m 60]
      refine Z_run C it_Mm_record 2 (f2 := (69, [some (.ref (D.1 37)), some (.int (nI i))], [.int (nI (m * 60) + nI i), .ref (D.1 39)])) rfl ?_
      rw [nI_add (m * 60) i]
      refine Z_run C it_Mm_record 1 (f2 := (70, [some (.ref (D.1 37)), some (.int (nI i))], [.ref (D.1 37), .int (nI (m * 60 + i)), .ref (D.1 39)])) rfl ?_
      refine Zm_get C it_Mm_record hD rfl 37 wi_Mm (by decide) rfl rfl (j := 0) (by decide) fl_Mm_7 (v := .ref (D.1 38)) rfl ?_
      refine Z_run C it_Mm_record 1 (f2 := (74, [some (.ref (D.1 37)), some (.int (nI i))], [.int (nI i), .ref (D.1 38), .int (nI (m * 60 + i)), .ref (D.1 39)])) rfl ?_
      refine Zm_ald C it_Mm_record hD 38 10 rfl (by decide) rfl (by decide) (by decide) rfl (j := i) (by omega) (v := .int ((vrow V 39 (rcp (V 39) (V 38) (m * 60) 0 i)) 38 i)) rfl ?_
      refine Zm_ast C it_Mm_record hD 39 10 rfl (by first | decide | exact isB_k hb | omega) rfl (by decide) rfl (j := m * 60 + i) (by omega) trivial rfl ?_
      rw [vset_row (x := (vrow V 39 (rcp (V 39) (V 38) (m * 60) 0 i)) 38 i) (r2 := rcp (V 39) (V 38) (m * 60) 0 (i + 1)) (rcp_s rfl)]
      refine Z_run C it_Mm_record 1 (f2 := (79, [some (.ref (D.1 37)), some (.int (nI i + nI 1))], [])) rfl ?_
      rw [nI_add i 1]
      refine Z_run C it_Mm_record 1 (f2 := (50, [some (.ref (D.1 37)), some (.int (nI (i + 1)))], [])) rfl ?_
      exact ih (i + 1) (by omega) (by omega)
set_option maxRecDepth 20000 in
theorem lp_Mm_record1 {E : zE} {G : zG} {O : zO} (C : zCx E G c_Mm_record 2 y_Mm_record.cls y_Mm_record.name none rm_Mm_record) (q : zEndX E G O rm_Mm_record.cells rm_Mm_record.slots)  {D : zD} (hD : zDok E D) {V : Nat → Nat → Int32} {P : Nat → Nat → Value} {PH : aH} (hm : V 37 2 = nI 5) {sz : Nat} (kk : Z E G (HM D (recA V) P PH) sz 0 0 (50, [some (.ref (D.1 37)), some (.int (nI 0))], [])) : ∀ (j i : Nat), 240 - i < j → i ≤ 240 → Z E G (HM D (vrow V 39 (rcp (V 39) (V 39) 0 60 i)) P PH) sz 0 0 (10, [some (.ref (D.1 37)), some (.int (nI i))], []) := by
  intro j
  induction j with
  | zero =>
    intro i h1 h2
    omega
  | succ j ih =>
    intro i h1 h2
    refine Z_run C it_Mm_record 2 (f2 := (14, [some (.ref (D.1 37)), some (.int (nI i))], [.int (nI 240), .int (nI i)])) rfl ?_
    refine Z_br C it_Mm_record rfl rfl (fun hc1 => ?_) (fun hc1 => ?_)
    · replace hc1 := (nI_leI (a := 240) (b := i) (by omega) (by omega)).mp hc1
      have h60 : i = 240 := by omega
      rw [h60]
      refine Z_run C it_Mm_record 2 (f2 := (40, [some (.ref (D.1 37)), some (.int (nI 240))], [.ref (D.1 37), .ref (D.1 37)])) rfl ?_
      refine Zm_get C it_Mm_record hD rfl 37 wi_Mm (by decide) rfl rfl (j := 2) (by decide) fl_Mm_37 (v := .int (nI 5)) (congrArg Value.int hm) ?_
      refine Z_run C it_Mm_record 2 (f2 := (45, [some (.ref (D.1 37)), some (.int (nI 240))], [.int (nI 5 - nI 1), .ref (D.1 37)])) rfl ?_
      have e1 : nI 5 - nI 1 = nI 4 := rfl
      rw [e1]
      refine Zm_put C it_Mm_record hD rfl 37 wi_Mm t_Mm t_Mm_ok n_Mm (by first | decide | omega) rfl rfl (j := 2) (by decide) fl_Mm_37 rfl rfl rfl rfl ?_
      refine Z_run C it_Mm_record 2 (f2 := (50, [some (.ref (D.1 37)), some (.int (nI 0))], [])) rfl ?_
      exact kk
    · replace hc1 : ¬ _ := fun z9 => hc1 ((nI_leI (a := 240) (b := i) (by omega) (by omega)).mpr z9)
      refine Z_run C it_Mm_record 1 (f2 := (18, [some (.ref (D.1 37)), some (.int (nI i))], [.ref (D.1 37)])) rfl ?_
      refine Zm_get C it_Mm_record hD rfl 37 wi_Mm (by decide) rfl rfl (j := 1) (by decide) fl_Mm_13 (v := .ref (D.1 39)) rfl ?_
      refine Z_run C it_Mm_record 2 (f2 := (23, [some (.ref (D.1 37)), some (.int (nI i))], [.ref (D.1 37), .int (nI i), .ref (D.1 39)])) rfl ?_
      refine Zm_get C it_Mm_record hD rfl 37 wi_Mm (by decide) rfl rfl (j := 1) (by decide) fl_Mm_13 (v := .ref (D.1 39)) rfl ?_
      refine Z_run C it_Mm_record 3 (f2 := (30, [some (.ref (D.1 37)), some (.int (nI i))], [.int (nI i + nI 60), .ref (D.1 39), .int (nI i), .ref (D.1 39)])) rfl ?_
      rw [nI_add i 60]
      refine Zm_ald C it_Mm_record hD 39 10 rfl (by decide) rfl (by decide) (by decide) rfl (j := i + 60) (by omega) (v := .int ((vrow V 39 (rcp (V 39) (V 39) 0 60 i)) 39 (i + 60))) rfl ?_
      refine Zm_ast C it_Mm_record hD 39 10 rfl (by first | decide | exact isB_k hb | omega) rfl (by decide) rfl (j := i) (by omega) trivial rfl ?_
      rw [vset_row (r2 := rcp (V 39) (V 39) 0 60 (i + 1)) (rcp_s0 (by rw [vrow_s]; exact rcp_r (by omega)))]
      refine Z_run C it_Mm_record 1 (f2 := (35, [some (.ref (D.1 37)), some (.int (nI i + nI 1))], [])) rfl ?_
      rw [nI_add i 1]
      refine Z_run C it_Mm_record 1 (f2 := (10, [some (.ref (D.1 37)), some (.int (nI (i + 1)))], [])) rfl ?_
      exact ih (i + 1) (by omega) (by omega)
set_option maxRecDepth 20000 in
theorem ct_Mm_record_lt {E : zE} (hE : zEv E) {l : Launch} (hl : l.stackTraces = false) {D : zD} (hD : zDok E D) (V : Nat → Nat → Int32) (P : Nat → Nat → Value) (PH : aH) (n : Nat) (hn : V 37 2 = nI n) (hn5 : n < 5) (sz : Nat) : zM E l y_Mm_record [.code y_Mm_record c_Mm_record 2 none] rm_Mm_record [.ref (D.1 37)] (HM D V P PH) sz (zRet (none) (HM D (recM V n) P PH) sz) := by
  refine zM_of hE hl (by decide +kernel) [some (.ref (D.1 37)), none] ⟨rfl, rfl, Nat.le_of_ble_eq_true rfl⟩ ?_
  intro G C q htb
  refine Z_run C it_Mm_record 1 (f2 := (1, [some (.ref (D.1 37)), none], [.ref (D.1 37)])) rfl ?_
  refine Zm_get C it_Mm_record hD rfl 37 wi_Mm (by decide) rfl rfl (j := 2) (by decide) fl_Mm_37 (v := .int (nI n)) (congrArg Value.int hn) ?_
  refine Z_run C it_Mm_record 1 (f2 := (5, [some (.ref (D.1 37)), none], [.int (nI 5), .int (nI n)])) rfl ?_
  refine Z_br C it_Mm_record rfl rfl (fun hc1 => ?_) (fun hc1 => ?_)
  · skip
    refine Z_run C it_Mm_record 2 (f2 := (50, [some (.ref (D.1 37)), some (.int (nI 0))], [])) rfl ?_
    have h0 : V = vrow V 39 (rcp (V 39) (V 38) (n * 60) 0 0) := (vrow_e rcp_0).symm
    have hL := lp_Mm_record2 C q hD (V := V) (P := P) (PH := PH) hn hn5 (sz := sz) (by unfold recM; rw [if_neg (by omega)]; exact ⟨rfl, rfl, rfl⟩) 61 0 (by omega) (by omega)
    rw [← h0] at hL
    exact hL
  · exact absurd ((nI_eq (a := n) (b := 5) (by omega) (by omega)).mp (Classical.not_not.mp hc1)) (by omega)
set_option maxRecDepth 20000 in
theorem ct_Mm_record_eq {E : zE} (hE : zEv E) {l : Launch} (hl : l.stackTraces = false) {D : zD} (hD : zDok E D) (V : Nat → Nat → Int32) (P : Nat → Nat → Value) (PH : aH) (hn : V 37 2 = nI 5) (sz : Nat) : zM E l y_Mm_record [.code y_Mm_record c_Mm_record 2 none] rm_Mm_record [.ref (D.1 37)] (HM D V P PH) sz (zRet (none) (HM D (recM V 5) P PH) sz) := by
  refine zM_of hE hl (by decide +kernel) [some (.ref (D.1 37)), none] ⟨rfl, rfl, Nat.le_of_ble_eq_true rfl⟩ ?_
  intro G C q htb
  refine Z_run C it_Mm_record 1 (f2 := (1, [some (.ref (D.1 37)), none], [.ref (D.1 37)])) rfl ?_
  refine Zm_get C it_Mm_record hD rfl 37 wi_Mm (by decide) rfl rfl (j := 2) (by decide) fl_Mm_37 (v := .int (nI 5)) (congrArg Value.int hn) ?_
  refine Z_run C it_Mm_record 1 (f2 := (5, [some (.ref (D.1 37)), none], [.int (nI 5), .int (nI 5)])) rfl ?_
  refine Z_br C it_Mm_record rfl rfl (fun hc1 => absurd hc1 (by decide)) (fun hc1 => ?_)
  refine Z_run C it_Mm_record 2 (f2 := (10, [some (.ref (D.1 37)), some (.int (nI 0))], [])) rfl ?_
  have h0 : V = vrow V 39 (rcp (V 39) (V 39) 0 60 0) := (vrow_e rcp_0).symm
  have hL := lp_Mm_record1 C q hD (V := V) (P := P) (PH := PH) hn (sz := sz) (by
    have h1 : recA V = vrow (recA V) 39 (rcp (recA V 39) (recA V 38) (4 * 60) 0 0) := (vrow_e rcp_0).symm
    have hK := lp_Mm_record2 C q hD (V := recA V) (P := P) (PH := PH) (m := 4) rfl (by omega) (sz := sz) (by unfold recM; rw [if_pos rfl]; exact ⟨rfl, rfl, rfl⟩) 61 0 (by omega) (by omega)
    rw [← h1] at hK
    exact hK) 241 0 (by omega) (by omega)
  rw [← h0] at hL
  exact hL
theorem ct_Mm_record {E : zE} (hE : zEv E) {l : Launch} (hl : l.stackTraces = false) {D : zD} (hD : zDok E D) (V : Nat → Nat → Int32) (P : Nat → Nat → Value) (PH : aH) (n : Nat) (hn : V 37 2 = nI n) (hn5 : n ≤ 5) (sz : Nat) : zM E l y_Mm_record [.code y_Mm_record c_Mm_record 2 none] rm_Mm_record [.ref (D.1 37)] (HM D V P PH) sz (zRet none (HM D (recM V n) P PH) sz) := by
  by_cases h : n = 5
  · subst h
    exact ct_Mm_record_eq hE hl hD V P PH hn sz
  · exact ct_Mm_record_lt hE hl hD V P PH n hn (by omega) sz
set_option maxRecDepth 20000 in
theorem lp_Mm_undo {E : zE} {G : zG} {O : zO} (C : zCx E G c_Mm_undo 2 y_Mm_undo.cls y_Mm_undo.name (some .int) rm_Mm_undo) (q : zEndX E G O rm_Mm_undo.cells rm_Mm_undo.slots)  {D : zD} (hD : zDok E D) {V : Nat → Nat → Int32} {P : Nat → Nat → Value} {PH : aH} {m : Nat} (hm : V 37 2 = nI m) (hm5 : m < 5) {sz : Nat} (hO : O (.inl (some (.int (nI m)))) (HM D (vrow V 38 (rcp (V 38) (V 39) 0 (m * 60) 60)) P PH) sz) : ∀ (j i : Nat), 60 - i < j → i ≤ 60 → Z E G (HM D (vrow V 38 (rcp (V 38) (V 39) 0 (m * 60) i)) P PH) sz 0 0 (33, [some (.ref (D.1 37)), some (.int (nI i))], []) := by
  intro j
  induction j with
  | zero =>
    intro i h1 h2
    omega
  | succ j ih =>
    intro i h1 h2
    refine Z_run C it_Mm_undo 2 (f2 := (36, [some (.ref (D.1 37)), some (.int (nI i))], [.int (nI 60), .int (nI i)])) rfl ?_
    refine Z_br C it_Mm_undo rfl rfl (fun hc1 => ?_) (fun hc1 => ?_)
    · replace hc1 := (nI_leI (a := 60) (b := i) (by omega) (by omega)).mp hc1
      have h60 : i = 60 := by omega
      rw [h60]
      refine Z_run C it_Mm_undo 1 (f2 := (66, [some (.ref (D.1 37)), some (.int (nI 60))], [.ref (D.1 37)])) rfl ?_
      refine Zm_get C it_Mm_undo hD rfl 37 wi_Mm (by decide) rfl rfl (j := 2) (by decide) fl_Mm_37 (v := .int (nI m)) (congrArg Value.int hm) ?_
      exact Z_iret C q.e it_Mm_undo rfl (hO) (by decide) (by decide)
    · replace hc1 : ¬ _ := fun z9 => hc1 ((nI_leI (a := 60) (b := i) (by omega) (by omega)).mpr z9)
      refine Z_run C it_Mm_undo 1 (f2 := (40, [some (.ref (D.1 37)), some (.int (nI i))], [.ref (D.1 37)])) rfl ?_
      refine Zm_get C it_Mm_undo hD rfl 37 wi_Mm (by decide) rfl rfl (j := 0) (by decide) fl_Mm_7 (v := .ref (D.1 38)) rfl ?_
      refine Z_run C it_Mm_undo 2 (f2 := (45, [some (.ref (D.1 37)), some (.int (nI i))], [.ref (D.1 37), .int (nI i), .ref (D.1 38)])) rfl ?_
      refine Zm_get C it_Mm_undo hD rfl 37 wi_Mm (by decide) rfl rfl (j := 1) (by decide) fl_Mm_13 (v := .ref (D.1 39)) rfl ?_
      refine Z_run C it_Mm_undo 1 (f2 := (49, [some (.ref (D.1 37)), some (.int (nI i))], [.ref (D.1 37), .ref (D.1 39), .int (nI i), .ref (D.1 38)])) rfl ?_
      refine Zm_get C it_Mm_undo hD rfl 37 wi_Mm (by decide) rfl rfl (j := 2) (by decide) fl_Mm_37 (v := .int (nI m)) (congrArg Value.int hm) ?_
      refine Z_run C it_Mm_undo 2 (f2 := (55, [some (.ref (D.1 37)), some (.int (nI i))], [.int (nI m * nI 60), .ref (D.1 39), .int (nI i), .ref (D.1 38)])) rfl ?_
      rw [nI_mul m 60]
      refine Z_run C it_Mm_undo 2 (f2 := (57, [some (.ref (D.1 37)), some (.int (nI i))], [.int (nI (m * 60) + nI i), .ref (D.1 39), .int (nI i), .ref (D.1 38)])) rfl ?_
      rw [nI_add (m * 60) i]
      refine Zm_ald C it_Mm_undo hD 39 10 rfl (by decide) rfl (by decide) (by decide) rfl (j := m * 60 + i) (by omega) (v := .int ((vrow V 38 (rcp (V 38) (V 39) 0 (m * 60) i)) 39 (m * 60 + i))) rfl ?_
      refine Zm_ast C it_Mm_undo hD 38 10 rfl (by first | decide | exact isB_k hb | omega) rfl (by decide) rfl (j := i) (by omega) trivial rfl ?_
      rw [vset_row (r2 := rcp (V 38) (V 39) 0 (m * 60) (i + 1)) (rcp_s0 (by rw [Nat.add_comm i]; rfl))]
      refine Z_run C it_Mm_undo 1 (f2 := (62, [some (.ref (D.1 37)), some (.int (nI i + nI 1))], [])) rfl ?_
      rw [nI_add i 1]
      refine Z_run C it_Mm_undo 1 (f2 := (33, [some (.ref (D.1 37)), some (.int (nI (i + 1)))], [])) rfl ?_
      exact ih (i + 1) (by omega) (by omega)
set_option maxRecDepth 20000 in
theorem ct_Mm_undo {E : zE} (hE : zEv E) {l : Launch} (hl : l.stackTraces = false) {D : zD} (hD : zDok E D) (V : Nat → Nat → Int32) (P : Nat → Nat → Value) (PH : aH) (n : Nat) (hn : V 37 2 = nI n) (hn0 : 0 < n) (hn5 : n ≤ 5) (sz : Nat) : zM E l y_Mm_undo [.code y_Mm_undo c_Mm_undo 2 (some .int)] rm_Mm_undo [.ref (D.1 37)] (HM D V P PH) sz (zRet (some (.int (nI (n - 1)))) (HM D (undM V n) P PH) sz) := by
  refine zM_of hE hl (by decide +kernel) [some (.ref (D.1 37)), none] ⟨rfl, rfl, Nat.le_of_ble_eq_true rfl⟩ ?_
  intro G C q htb
  refine Z_run C it_Mm_undo 2 (f2 := (2, [some (.ref (D.1 37)), none], [.ref (D.1 37), .ref (D.1 37)])) rfl ?_
  refine Zm_get C it_Mm_undo hD rfl 37 wi_Mm (by decide) rfl rfl (j := 2) (by decide) fl_Mm_37 (v := .int (nI n)) (congrArg Value.int hn) ?_
  refine Z_br C it_Mm_undo rfl rfl (fun hc1 => ?_) (fun hc1 => ?_)
  · exact absurd ((nI_le0 (by omega)).mp hc1) (by omega)
  · skip
    refine Z_run C it_Mm_undo 2 (f2 := (13, [some (.ref (D.1 37)), none], [.int (nI 1), .ref (D.1 37)])) rfl ?_
    refine Zr_callV C it_Mm_undo hD rfl p_Mm_asks ml_Mm_40 37 (by decide) rfl rfl [.int (nI 1)] (ct_Mm_asks_t C.ev C.l hD V P _ _) rfl rfl ⟨by decide, by decide, by decide, by decide⟩ (Nat.le_of_ble_eq_true rfl) rfl ?_
    show Z E G (HM D (vset V 37 8 (nI 0)) P PH) sz 0 0 (16, [some (.ref (D.1 37)), none], [.int (nI 1)])
    refine Z_br C it_Mm_undo rfl rfl (fun hc2 => ?_) (fun hc2 => absurd (by decide) hc2)
    refine Z_run C it_Mm_undo 2 (f2 := (23, [some (.ref (D.1 37)), none], [.ref (D.1 37), .ref (D.1 37)])) rfl ?_
    refine Zm_get C it_Mm_undo hD rfl 37 wi_Mm (by decide) rfl rfl (j := 2) (by decide) fl_Mm_37 (v := .int (nI n)) (congrArg Value.int hn) ?_
    refine Z_run C it_Mm_undo 2 (f2 := (28, [some (.ref (D.1 37)), none], [.int (nI n - nI 1), .ref (D.1 37)])) rfl ?_
    have e1 : nI n - nI 1 = nI (n - 1) := nI_sub (by omega)
    rw [e1]
    refine Zm_put C it_Mm_undo hD rfl 37 wi_Mm t_Mm t_Mm_ok n_Mm (by first | decide | omega) rfl rfl (j := 2) (by decide) fl_Mm_37 rfl rfl rfl rfl ?_
    refine Z_run C it_Mm_undo 2 (f2 := (33, [some (.ref (D.1 37)), some (.int (nI 0))], [])) rfl ?_
    have h0 : (vset (vset V 37 8 (nI 0)) 37 2 (nI (n - 1))) = vrow (vset (vset V 37 8 (nI 0)) 37 2 (nI (n - 1))) 38 (rcp ((vset (vset V 37 8 (nI 0)) 37 2 (nI (n - 1))) 38) ((vset (vset V 37 8 (nI 0)) 37 2 (nI (n - 1))) 39) 0 ((n - 1) * 60) 0) := (vrow_e rcp_0).symm
    have hL := lp_Mm_undo C q hD (V := (vset (vset V 37 8 (nI 0)) 37 2 (nI (n - 1)))) (P := P) (PH := PH) (m := n - 1) rfl (by omega) (sz := sz) ⟨rfl, rfl, rfl⟩ 61 0 (by omega) (by omega)
    rw [← h0] at hL
    exact hL
set_option maxRecDepth 20000 in
theorem ct_Mm_undo_x {E : zE} (hE : zEv E) {l : Launch} (hl : l.stackTraces = false) {D : zD} (hD : zDok E D) (V : Nat → Nat → Int32) (P : Nat → Nat → Value) (PH : aH) (hn : V 37 2 = nI 0) (sz : Nat) : zM E l y_Mm_undo [.code y_Mm_undo c_Mm_undo 2 (some .int)] rm_Mm_undo [.ref (D.1 37)] (HM D V P PH) sz (zRet (some (.int (nI 0))) (HM D (vset V 37 8 (nI 1)) P PH) sz) := by
  refine zM_of hE hl (by decide +kernel) [some (.ref (D.1 37)), none] ⟨rfl, rfl, Nat.le_of_ble_eq_true rfl⟩ ?_
  intro G C q htb
  refine Z_run C it_Mm_undo 2 (f2 := (2, [some (.ref (D.1 37)), none], [.ref (D.1 37), .ref (D.1 37)])) rfl ?_
  refine Zm_get C it_Mm_undo hD rfl 37 wi_Mm (by decide) rfl rfl (j := 2) (by decide) fl_Mm_37 (v := .int (nI 0)) (congrArg Value.int hn) ?_
  refine Z_br C it_Mm_undo rfl rfl (fun hc1 => ?_) (fun hc1 => absurd (by decide) hc1)
  refine Z_run C it_Mm_undo 1 (f2 := (13, [some (.ref (D.1 37)), none], [.int (nI 0), .ref (D.1 37)])) rfl ?_
  refine Zr_callV C it_Mm_undo hD rfl p_Mm_asks ml_Mm_40 37 (by decide) rfl rfl [.int (nI 0)] (ct_Mm_asks_f C.ev C.l hD V P _ _) rfl rfl ⟨by decide, by decide, by decide, by decide⟩ (Nat.le_of_ble_eq_true rfl) rfl ?_
  show Z E G (HM D (vset V 37 8 (nI 1)) P PH) sz 0 0 (16, [some (.ref (D.1 37)), none], [.int (nI 0)])
  refine Z_br C it_Mm_undo rfl rfl (fun hc2 => absurd hc2 (by decide)) (fun hc2 => ?_)
  refine Z_run C it_Mm_undo 1 (f2 := (20, [some (.ref (D.1 37)), none], [.int (nI 0)])) rfl ?_
  exact Z_iret C q.e it_Mm_undo rfl (zRet_iH rfl (by first | rfl | (simp only [vset_2]))) (by decide) (by decide)
theorem ct_Mm_in_b {E : zE} (hE : zEv E) {l : Launch} (hl : l.stackTraces = false) (c lo hi : Nat) (h1 : c < 2 ^ 31) (h2 : lo < 2 ^ 31) (h3 : hi < 2 ^ 31) (h : aH) (sz : Nat) : zM E l y_Mm_in [.code y_Mm_in c_Mm_in 3 (some .boolean)] rm_Mm_in [.int (nI c), .int (nI lo), .int (nI hi)] h sz (zRet (some (.int (bI (decide (lo ≤ c) && decide (c ≤ hi))))) h sz) := by
  have := ct_Mm_in_a hE hl (nI c) (nI lo) (nI hi) h sz
  rw [inI_b h1 h2 h3] at this
  exact this
set_option maxRecDepth 20000 in
theorem lp_Mm_fault {E : zE} {G : zG} {O : zO} (C : zCx E G c_Mm_fault 5 y_Mm_fault.cls y_Mm_fault.name (some .int) rm_Mm_fault) (q : zEndX E G O rm_Mm_fault.cells rm_Mm_fault.slots)  {D : zD} (hD : zDok E D) {V : Nat → Nat → Int32} {P : Nat → Nat → Value} {PH : aH} {T : Nat → Nat} (hT : okU V T) {n : Nat} (hn : V 37 7 = nI n) (hn6 : n ≤ 60) {sz : Nat} : ∀ (j i : Nat), n - i < j → i ≤ n → O (.inl (some (.int (oI (fl2 n (ffr (fun k => !fit T k) (n - i) i)))))) (HM D V P PH) sz → Z E G (HM D V P PH) sz 0 0 (2, [some (.ref (D.1 37)), some (.int (nI i)), none, none, none], []) := by
  intro j
  induction j with
  | zero =>
    intro i h1 h2 hO
    omega
  | succ j ih =>
    intro i h1 h2 hO
    refine Z_run C it_Mm_fault 2 (f2 := (4, [some (.ref (D.1 37)), some (.int (nI i)), none, none, none], [.ref (D.1 37), .int (nI i)])) rfl ?_
    refine Zm_get C it_Mm_fault hD rfl 37 wi_Mm (by decide) rfl rfl (j := 7) (by decide) fl_Mm_127 (v := .int (nI n)) (congrArg Value.int hn) ?_
    refine Z_br C it_Mm_fault rfl rfl (fun hc1 => ?_) (fun hc1 => ?_)
    · replace hc1 := (nI_leI (a := n) (b := i) (by omega) (by omega)).mp hc1
      refine Z_run C it_Mm_fault 1 (f2 := (129, [some (.ref (D.1 37)), some (.int (nI i)), none, none, none], [.ref (D.1 37)])) rfl ?_
      refine Zm_get C it_Mm_fault hD rfl 37 wi_Mm (by decide) rfl rfl (j := 7) (by decide) fl_Mm_127 (v := .int (nI n)) (congrArg Value.int hn) ?_
      refine Z_run C it_Mm_fault 2 (f2 := (134, [some (.ref (D.1 37)), some (.int (nI i)), none, none, none], [.int (nI n % nI 5)])) rfl ?_
      rw [nI_mod (a := n) (d := 5) (by omega) (by omega) (by omega)]
      refine Z_run C it_Mm_fault 1 (f2 := (135, [some (.ref (D.1 37)), some (.int (nI i)), none, none, none], [.int (nI 4), .int (nI (n % 5))])) rfl ?_
      refine Z_br C it_Mm_fault rfl rfl (fun hc2 => ?_) (fun hc2 => ?_)
      · replace hc2 : ¬ _ := fun z9 => hc2 ((nI_eq (a := n % 5) (b := 4) (by omega) (by omega)).mpr z9)
        refine Z_run C it_Mm_fault 1 (f2 := (143, [some (.ref (D.1 37)), some (.int (nI i)), none, none, none], [.ref (D.1 37)])) rfl ?_
        refine Zm_get C it_Mm_fault hD rfl 37 wi_Mm (by decide) rfl rfl (j := 7) (by decide) fl_Mm_127 (v := .int (nI n)) (congrArg Value.int hn) ?_
        exact Z_iret C q.e it_Mm_fault rfl (by rw [show n - i = 0 by omega] at hO; have h5 := hc2; simpa [ffr, fl2, oI, h5] using hO) (by decide) (by decide)
      · replace hc2 := Classical.not_not.mp hc2
        replace hc2 := (nI_eq (a := n % 5) (b := 4) (by omega) (by omega)).mp hc2
        refine Z_run C it_Mm_fault 2 (f2 := (146, [some (.ref (D.1 37)), some (.int (nI i)), none, none, none], [.int ((-1))])) rfl ?_
        exact Z_iret C q.e it_Mm_fault rfl (by rw [show n - i = 0 by omega] at hO; have h5 := hc2; simpa [ffr, fl2, oI, h5] using hO) (by decide) (by decide)
    · replace hc1 : ¬ _ := fun z9 => hc1 ((nI_leI (a := n) (b := i) (by omega) (by omega)).mpr z9)
      refine Z_run C it_Mm_fault 3 (f2 := (13, [some (.ref (D.1 37)), some (.int (nI i)), none, none, none], [.int (nI i % nI 5)])) rfl ?_
      rw [nI_mod (a := i) (d := 5) (by omega) (by omega) (by omega)]
      refine Z_run C it_Mm_fault 1 (f2 := (14, [some (.ref (D.1 37)), some (.int (nI i)), some (.int (nI (i % 5))), none, none], [])) rfl ?_
      have c0 := (hT i (by omega)).2
      refine Z_run C it_Mm_fault 1 (f2 := (15, [some (.ref (D.1 37)), some (.int (nI i)), some (.int (nI (i % 5))), none, none], [.ref (D.1 37)])) rfl ?_
      refine Zm_get C it_Mm_fault hD rfl 37 wi_Mm (by decide) rfl rfl (j := 6) (by decide) fl_Mm_25 (v := .ref (D.1 43)) rfl ?_
      refine Z_run C it_Mm_fault 1 (f2 := (19, [some (.ref (D.1 37)), some (.int (nI i)), some (.int (nI (i % 5))), none, none], [.int (nI i), .ref (D.1 43)])) rfl ?_
      refine Zm_ald C it_Mm_fault hD 43 13 rfl (by decide) rfl (by decide) (by decide) rfl (j := i) (by omega) (v := .int (nI (T i))) (congrArg Value.int (hT i (by omega)).1) ?_
      refine Z_run C it_Mm_fault 3 (f2 := (23, [some (.ref (D.1 37)), some (.int (nI i)), some (.int (nI (i % 5))), some (.int (nI (T i))), none], [.int (nI 4), .int (nI (i % 5))])) rfl ?_
      refine Z_br C it_Mm_fault rfl rfl (fun hc3 => ?_) (fun hc3 => ?_)
      · replace hc3 : ¬ _ := fun z9 => hc3 ((nI_eq (a := i % 5) (b := 4) (by omega) (by omega)).mpr z9)
        refine Z_run C it_Mm_fault 3 (f2 := (43, [some (.ref (D.1 37)), some (.int (nI i)), some (.int (nI (i % 5))), some (.int (nI (T i))), none], [.int (nI (i % 5) % nI 2)])) rfl ?_
        rw [nI_mod (a := i % 5) (d := 2) (by omega) (by omega) (by omega)]
        refine Z_br C it_Mm_fault rfl rfl (fun hc4 => ?_) (fun hc4 => ?_)
        · replace hc4 : ¬ _ := fun z9 => hc4 ((nI_e0 (a := (i % 5) % 2) (by omega)).mpr z9)
          refine Z_run C it_Mm_fault 3 (f2 := (62, [some (.ref (D.1 37)), some (.int (nI i)), some (.int (nI (i % 5))), some (.int (nI (T i))), none], [.int (nI 54), .int (nI 49), .int (nI (T i))])) rfl ?_
          refine Zr_callS C it_Mm_fault rfl p_Mm_in ml_Mm_33 [.int (nI (T i)), .int (nI 49), .int (nI 54)] (ct_Mm_in_b C.ev C.l (T i) 49 54 (by omega) (by omega) (by omega) (HM D V P PH) _) rfl rfl ⟨by decide, by decide, by decide, by decide⟩ (Nat.le_of_ble_eq_true rfl) rfl ?_
          show Z E G (HM D V P PH) sz 0 0 (65, [some (.ref (D.1 37)), some (.int (nI i)), some (.int (nI (i % 5))), some (.int (nI (T i))), none], [.int (bI (dig (T i)))])
          refine Z_run C it_Mm_fault 2 (f2 := (69, [some (.ref (D.1 37)), some (.int (nI i)), some (.int (nI (i % 5))), some (.int (nI (T i))), some (.int (bI (dig (T i))))], [.int (bI (dig (T i)))])) rfl ?_
          refine Z_br C it_Mm_fault rfl rfl (fun hc5 => ?_) (fun hc5 => ?_)
          · replace hc5 := bI_0.mp hc5
            refine Z_run C it_Mm_fault 2 (f2 := (115, [some (.ref (D.1 37)), some (.int (nI i)), some (.int (nI (i % 5))), some (.int (nI (T i))), some (.int (nI 0))], [])) rfl ?_
            have hft : fit T i = false := by
              clear hO ih
              have h5 : i % 5 = 0 ∨ i % 5 = 1 ∨ i % 5 = 2 ∨ i % 5 = 3 ∨ i % 5 = 4 := by omega
              rcases h5 with h5 | h5 | h5 | h5 | h5 <;> first | (exfalso; omega) | (simp_all [fit, fit5, els]; done) | (simp_all [fit, fit5, els]; omega)
            refine Z_run C it_Mm_fault 1 (f2 := (117, [some (.ref (D.1 37)), some (.int (nI i)), some (.int (nI (i % 5))), some (.int (nI (T i))), some (.int (nI 0))], [.int (nI 0)])) rfl ?_
            refine Z_br C it_Mm_fault rfl rfl (fun hc6 => absurd hc6 (by decide)) (fun hc6 => ?_)
            refine Z_run C it_Mm_fault 1 (f2 := (121, [some (.ref (D.1 37)), some (.int (nI i)), some (.int (nI (i % 5))), some (.int (nI (T i))), some (.int (nI 0))], [.int (nI i)])) rfl ?_
            exact Z_iret C q.e it_Mm_fault rfl (by rw [show n - i = (n - (i + 1)) + 1 by omega] at hO; simpa [ffr, hft, fl2, oI] using hO) (by decide) (by decide)
          · replace hc5 := bI_1.mp hc5
            refine Z_run C it_Mm_fault 2 (f2 := (74, [some (.ref (D.1 37)), some (.int (nI i)), some (.int (nI (i % 5))), some (.int (nI (T i))), some (.int (bI (dig (T i))))], [.int (nI 3), .int (nI (i % 5))])) rfl ?_
            refine Z_br C it_Mm_fault rfl rfl (fun hc7 => ?_) (fun hc7 => ?_)
            · replace hc7 : ¬ _ := fun z9 => hc7 ((nI_eq (a := i % 5) (b := 3) (by omega) (by omega)).mpr z9)
              refine Z_run C it_Mm_fault 3 (f2 := (115, [some (.ref (D.1 37)), some (.int (nI i)), some (.int (nI (i % 5))), some (.int (nI (T i))), some (.int (nI 1))], [])) rfl ?_
              have hft : fit T i = true := by
                clear hO ih
                have h5 : i % 5 = 0 ∨ i % 5 = 1 ∨ i % 5 = 2 ∨ i % 5 = 3 ∨ i % 5 = 4 := by omega
                rcases h5 with h5 | h5 | h5 | h5 | h5 <;> first | (exfalso; omega) | (simp_all [fit, fit5, els]; done) | (simp_all [fit, fit5, els]; omega)
              refine Z_run C it_Mm_fault 1 (f2 := (117, [some (.ref (D.1 37)), some (.int (nI i)), some (.int (nI (i % 5))), some (.int (nI (T i))), some (.int (nI 1))], [.int (nI 1)])) rfl ?_
              refine Z_br C it_Mm_fault rfl rfl (fun hc8 => ?_) (fun hc8 => absurd (by decide) hc8)
              refine Z_run C it_Mm_fault 1 (f2 := (125, [some (.ref (D.1 37)), some (.int (nI i + nI 1)), some (.int (nI (i % 5))), some (.int (nI (T i))), some (.int (nI 1))], [])) rfl ?_
              rw [nI_add i 1]
              refine Z_run C it_Mm_fault 1 (f2 := (2, [some (.ref (D.1 37)), some (.int (nI (i + 1))), some (.int (nI (i % 5))), some (.int (nI (T i))), some (.int (nI 1))], [])) rfl ?_
              refine Z_sub (ls2 := [some (.ref (D.1 37)), some (.int (nI (i + 1))), none, none, none]) (by simp [zsubl]) ?_
              exact ih (i + 1) (by omega) (by omega) (by rw [show n - i = (n - (i + 1)) + 1 by omega] at hO; simpa [ffr, hft] using hO)
            · replace hc7 := Classical.not_not.mp hc7
              replace hc7 := (nI_eq (a := i % 5) (b := 3) (by omega) (by omega)).mp hc7
              refine Z_run C it_Mm_fault 2 (f2 := (79, [some (.ref (D.1 37)), some (.int (nI i)), some (.int (nI (i % 5))), some (.int (nI (T i))), some (.int (bI (dig (T i))))], [.ref (D.1 37), .int (nI (T i))])) rfl ?_
              refine Zm_get C it_Mm_fault hD rfl 37 wi_Mm (by decide) rfl rfl (j := 6) (by decide) fl_Mm_25 (v := .ref (D.1 43)) rfl ?_
              refine Z_run C it_Mm_fault 3 (f2 := (85, [some (.ref (D.1 37)), some (.int (nI i)), some (.int (nI (i % 5))), some (.int (nI (T i))), some (.int (bI (dig (T i))))], [.int (nI i - nI 2), .ref (D.1 43), .int (nI (T i))])) rfl ?_
              have e1 : nI i - nI 2 = nI (i - 2) := nI_sub (by omega)
              rw [e1]
              refine Zm_ald C it_Mm_fault hD 43 13 rfl (by decide) rfl (by decide) (by decide) rfl (j := i - 2) (by omega) (v := .int (nI (T (i - 2)))) (congrArg Value.int (hT (i - 2) (by omega)).1) ?_
              refine Z_br C it_Mm_fault rfl rfl (fun hc9 => ?_) (fun hc9 => ?_)
              · replace hc9 : ¬ T i = T (i - 2) := fun z9 => hc9 (by rw [z9])
                refine Z_run C it_Mm_fault 3 (f2 := (115, [some (.ref (D.1 37)), some (.int (nI i)), some (.int (nI (i % 5))), some (.int (nI (T i))), some (.int (nI 1))], [])) rfl ?_
                have hft : fit T i = true := by
                  clear hO ih
                  have h5 : i % 5 = 0 ∨ i % 5 = 1 ∨ i % 5 = 2 ∨ i % 5 = 3 ∨ i % 5 = 4 := by omega
                  rcases h5 with h5 | h5 | h5 | h5 | h5 <;> first | (exfalso; omega) | (simp_all [fit, fit5, els]; done) | (simp_all [fit, fit5, els]; omega)
                refine Z_run C it_Mm_fault 1 (f2 := (117, [some (.ref (D.1 37)), some (.int (nI i)), some (.int (nI (i % 5))), some (.int (nI (T i))), some (.int (nI 1))], [.int (nI 1)])) rfl ?_
                refine Z_br C it_Mm_fault rfl rfl (fun hc10 => ?_) (fun hc10 => absurd (by decide) hc10)
                refine Z_run C it_Mm_fault 1 (f2 := (125, [some (.ref (D.1 37)), some (.int (nI i + nI 1)), some (.int (nI (i % 5))), some (.int (nI (T i))), some (.int (nI 1))], [])) rfl ?_
                rw [nI_add i 1]
                refine Z_run C it_Mm_fault 1 (f2 := (2, [some (.ref (D.1 37)), some (.int (nI (i + 1))), some (.int (nI (i % 5))), some (.int (nI (T i))), some (.int (nI 1))], [])) rfl ?_
                refine Z_sub (ls2 := [some (.ref (D.1 37)), some (.int (nI (i + 1))), none, none, none]) (by simp [zsubl]) ?_
                exact ih (i + 1) (by omega) (by omega) (by rw [show n - i = (n - (i + 1)) + 1 by omega] at hO; simpa [ffr, hft] using hO)
              · have c2 := (hT (i - 2) (by omega)).2
                replace hc9 : T i = T (i - 2) := (nI_eq (a := T i) (b := T (i - 2)) (by omega) (by omega)).mp (Classical.not_not.mp hc9)
                refine Z_run C it_Mm_fault 1 (f2 := (90, [some (.ref (D.1 37)), some (.int (nI i)), some (.int (nI (i % 5))), some (.int (nI (T i))), some (.int (bI (dig (T i))))], [.ref (D.1 37)])) rfl ?_
                refine Zm_get C it_Mm_fault hD rfl 37 wi_Mm (by decide) rfl rfl (j := 6) (by decide) fl_Mm_25 (v := .ref (D.1 43)) rfl ?_
                refine Z_run C it_Mm_fault 3 (f2 := (96, [some (.ref (D.1 37)), some (.int (nI i)), some (.int (nI (i % 5))), some (.int (nI (T i))), some (.int (bI (dig (T i))))], [.int (nI i - nI 1), .ref (D.1 43)])) rfl ?_
                have e2 : nI i - nI 1 = nI (i - 1) := nI_sub (by omega)
                rw [e2]
                refine Zm_ald C it_Mm_fault hD 43 13 rfl (by decide) rfl (by decide) (by decide) rfl (j := i - 1) (by omega) (v := .int (nI (T (i - 1)))) (congrArg Value.int (hT (i - 1) (by omega)).1) ?_
                refine Z_run C it_Mm_fault 1 (f2 := (98, [some (.ref (D.1 37)), some (.int (nI i)), some (.int (nI (i % 5))), some (.int (nI (T i))), some (.int (bI (dig (T i))))], [.ref (D.1 37), .int (nI (T (i - 1)))])) rfl ?_
                refine Zm_get C it_Mm_fault hD rfl 37 wi_Mm (by decide) rfl rfl (j := 6) (by decide) fl_Mm_25 (v := .ref (D.1 43)) rfl ?_
                refine Z_run C it_Mm_fault 3 (f2 := (104, [some (.ref (D.1 37)), some (.int (nI i)), some (.int (nI (i % 5))), some (.int (nI (T i))), some (.int (bI (dig (T i))))], [.int (nI i - nI 3), .ref (D.1 43), .int (nI (T (i - 1)))])) rfl ?_
                have e3 : nI i - nI 3 = nI (i - 3) := nI_sub (by omega)
                rw [e3]
                refine Zm_ald C it_Mm_fault hD 43 13 rfl (by decide) rfl (by decide) (by decide) rfl (j := i - 3) (by omega) (v := .int (nI (T (i - 3)))) (congrArg Value.int (hT (i - 3) (by omega)).1) ?_
                refine Z_br C it_Mm_fault rfl rfl (fun hc11 => ?_) (fun hc11 => ?_)
                · have c1 := (hT (i - 1) (by omega)).2
                  have c3 := (hT (i - 3) (by omega)).2
                  replace hc11 : T (i - 1) = T (i - 3) := (nI_eq (a := T (i - 1)) (b := T (i - 3)) (by omega) (by omega)).mp hc11
                  refine Z_run C it_Mm_fault 2 (f2 := (115, [some (.ref (D.1 37)), some (.int (nI i)), some (.int (nI (i % 5))), some (.int (nI (T i))), some (.int (nI 0))], [])) rfl ?_
                  have hft : fit T i = false := by
                    clear hO ih
                    have h5 : i % 5 = 0 ∨ i % 5 = 1 ∨ i % 5 = 2 ∨ i % 5 = 3 ∨ i % 5 = 4 := by omega
                    rcases h5 with h5 | h5 | h5 | h5 | h5 <;> first | (exfalso; omega) | (simp_all [fit, fit5, els]; done) | (simp_all [fit, fit5, els]; omega)
                  refine Z_run C it_Mm_fault 1 (f2 := (117, [some (.ref (D.1 37)), some (.int (nI i)), some (.int (nI (i % 5))), some (.int (nI (T i))), some (.int (nI 0))], [.int (nI 0)])) rfl ?_
                  refine Z_br C it_Mm_fault rfl rfl (fun hc12 => absurd hc12 (by decide)) (fun hc12 => ?_)
                  refine Z_run C it_Mm_fault 1 (f2 := (121, [some (.ref (D.1 37)), some (.int (nI i)), some (.int (nI (i % 5))), some (.int (nI (T i))), some (.int (nI 0))], [.int (nI i)])) rfl ?_
                  exact Z_iret C q.e it_Mm_fault rfl (by rw [show n - i = (n - (i + 1)) + 1 by omega] at hO; simpa [ffr, hft, fl2, oI] using hO) (by decide) (by decide)
                · replace hc11 : ¬ T (i - 1) = T (i - 3) := fun z9 => hc11 (by rw [z9])
                  refine Z_run C it_Mm_fault 3 (f2 := (115, [some (.ref (D.1 37)), some (.int (nI i)), some (.int (nI (i % 5))), some (.int (nI (T i))), some (.int (nI 1))], [])) rfl ?_
                  have hft : fit T i = true := by
                    clear hO ih
                    have h5 : i % 5 = 0 ∨ i % 5 = 1 ∨ i % 5 = 2 ∨ i % 5 = 3 ∨ i % 5 = 4 := by omega
                    rcases h5 with h5 | h5 | h5 | h5 | h5 <;> first | (exfalso; omega) | (simp_all [fit, fit5, els]; done) | (simp_all [fit, fit5, els]; omega)
                  refine Z_run C it_Mm_fault 1 (f2 := (117, [some (.ref (D.1 37)), some (.int (nI i)), some (.int (nI (i % 5))), some (.int (nI (T i))), some (.int (nI 1))], [.int (nI 1)])) rfl ?_
                  refine Z_br C it_Mm_fault rfl rfl (fun hc13 => ?_) (fun hc13 => absurd (by decide) hc13)
                  refine Z_run C it_Mm_fault 1 (f2 := (125, [some (.ref (D.1 37)), some (.int (nI i + nI 1)), some (.int (nI (i % 5))), some (.int (nI (T i))), some (.int (nI 1))], [])) rfl ?_
                  rw [nI_add i 1]
                  refine Z_run C it_Mm_fault 1 (f2 := (2, [some (.ref (D.1 37)), some (.int (nI (i + 1))), some (.int (nI (i % 5))), some (.int (nI (T i))), some (.int (nI 1))], [])) rfl ?_
                  refine Z_sub (ls2 := [some (.ref (D.1 37)), some (.int (nI (i + 1))), none, none, none]) (by simp [zsubl]) ?_
                  exact ih (i + 1) (by omega) (by omega) (by rw [show n - i = (n - (i + 1)) + 1 by omega] at hO; simpa [ffr, hft] using hO)
        · replace hc4 := Classical.not_not.mp hc4
          replace hc4 := (nI_e0 (a := (i % 5) % 2) (by omega)).mp hc4
          refine Z_run C it_Mm_fault 3 (f2 := (51, [some (.ref (D.1 37)), some (.int (nI i)), some (.int (nI (i % 5))), some (.int (nI (T i))), none], [.int (nI 102), .int (nI 97), .int (nI (T i))])) rfl ?_
          refine Zr_callS C it_Mm_fault rfl p_Mm_in ml_Mm_33 [.int (nI (T i)), .int (nI 97), .int (nI 102)] (ct_Mm_in_b C.ev C.l (T i) 97 102 (by omega) (by omega) (by omega) (HM D V P PH) _) rfl rfl ⟨by decide, by decide, by decide, by decide⟩ (Nat.le_of_ble_eq_true rfl) rfl ?_
          show Z E G (HM D V P PH) sz 0 0 (54, [some (.ref (D.1 37)), some (.int (nI i)), some (.int (nI (i % 5))), some (.int (nI (T i))), none], [.int (bI (lett (T i)))])
          refine Z_run C it_Mm_fault 3 (f2 := (69, [some (.ref (D.1 37)), some (.int (nI i)), some (.int (nI (i % 5))), some (.int (nI (T i))), some (.int (bI (lett (T i))))], [.int (bI (lett (T i)))])) rfl ?_
          refine Z_br C it_Mm_fault rfl rfl (fun hc14 => ?_) (fun hc14 => ?_)
          · replace hc14 := bI_0.mp hc14
            refine Z_run C it_Mm_fault 2 (f2 := (115, [some (.ref (D.1 37)), some (.int (nI i)), some (.int (nI (i % 5))), some (.int (nI (T i))), some (.int (nI 0))], [])) rfl ?_
            have hft : fit T i = false := by
              clear hO ih
              have h5 : i % 5 = 0 ∨ i % 5 = 1 ∨ i % 5 = 2 ∨ i % 5 = 3 ∨ i % 5 = 4 := by omega
              rcases h5 with h5 | h5 | h5 | h5 | h5 <;> first | (exfalso; omega) | (simp_all [fit, fit5, els]; done) | (simp_all [fit, fit5, els]; omega)
            refine Z_run C it_Mm_fault 1 (f2 := (117, [some (.ref (D.1 37)), some (.int (nI i)), some (.int (nI (i % 5))), some (.int (nI (T i))), some (.int (nI 0))], [.int (nI 0)])) rfl ?_
            refine Z_br C it_Mm_fault rfl rfl (fun hc15 => absurd hc15 (by decide)) (fun hc15 => ?_)
            refine Z_run C it_Mm_fault 1 (f2 := (121, [some (.ref (D.1 37)), some (.int (nI i)), some (.int (nI (i % 5))), some (.int (nI (T i))), some (.int (nI 0))], [.int (nI i)])) rfl ?_
            exact Z_iret C q.e it_Mm_fault rfl (by rw [show n - i = (n - (i + 1)) + 1 by omega] at hO; simpa [ffr, hft, fl2, oI] using hO) (by decide) (by decide)
          · replace hc14 := bI_1.mp hc14
            refine Z_run C it_Mm_fault 2 (f2 := (74, [some (.ref (D.1 37)), some (.int (nI i)), some (.int (nI (i % 5))), some (.int (nI (T i))), some (.int (bI (lett (T i))))], [.int (nI 3), .int (nI (i % 5))])) rfl ?_
            refine Z_br C it_Mm_fault rfl rfl (fun hc16 => ?_) (fun hc16 => ?_)
            · replace hc16 : ¬ _ := fun z9 => hc16 ((nI_eq (a := i % 5) (b := 3) (by omega) (by omega)).mpr z9)
              refine Z_run C it_Mm_fault 3 (f2 := (115, [some (.ref (D.1 37)), some (.int (nI i)), some (.int (nI (i % 5))), some (.int (nI (T i))), some (.int (nI 1))], [])) rfl ?_
              have hft : fit T i = true := by
                clear hO ih
                have h5 : i % 5 = 0 ∨ i % 5 = 1 ∨ i % 5 = 2 ∨ i % 5 = 3 ∨ i % 5 = 4 := by omega
                rcases h5 with h5 | h5 | h5 | h5 | h5 <;> first | (exfalso; omega) | (simp_all [fit, fit5, els]; done) | (simp_all [fit, fit5, els]; omega)
              refine Z_run C it_Mm_fault 1 (f2 := (117, [some (.ref (D.1 37)), some (.int (nI i)), some (.int (nI (i % 5))), some (.int (nI (T i))), some (.int (nI 1))], [.int (nI 1)])) rfl ?_
              refine Z_br C it_Mm_fault rfl rfl (fun hc17 => ?_) (fun hc17 => absurd (by decide) hc17)
              refine Z_run C it_Mm_fault 1 (f2 := (125, [some (.ref (D.1 37)), some (.int (nI i + nI 1)), some (.int (nI (i % 5))), some (.int (nI (T i))), some (.int (nI 1))], [])) rfl ?_
              rw [nI_add i 1]
              refine Z_run C it_Mm_fault 1 (f2 := (2, [some (.ref (D.1 37)), some (.int (nI (i + 1))), some (.int (nI (i % 5))), some (.int (nI (T i))), some (.int (nI 1))], [])) rfl ?_
              refine Z_sub (ls2 := [some (.ref (D.1 37)), some (.int (nI (i + 1))), none, none, none]) (by simp [zsubl]) ?_
              exact ih (i + 1) (by omega) (by omega) (by rw [show n - i = (n - (i + 1)) + 1 by omega] at hO; simpa [ffr, hft] using hO)
            · replace hc16 := Classical.not_not.mp hc16
              replace hc16 := (nI_eq (a := i % 5) (b := 3) (by omega) (by omega)).mp hc16
              refine Z_run C it_Mm_fault 2 (f2 := (79, [some (.ref (D.1 37)), some (.int (nI i)), some (.int (nI (i % 5))), some (.int (nI (T i))), some (.int (bI (lett (T i))))], [.ref (D.1 37), .int (nI (T i))])) rfl ?_
              refine Zm_get C it_Mm_fault hD rfl 37 wi_Mm (by decide) rfl rfl (j := 6) (by decide) fl_Mm_25 (v := .ref (D.1 43)) rfl ?_
              refine Z_run C it_Mm_fault 3 (f2 := (85, [some (.ref (D.1 37)), some (.int (nI i)), some (.int (nI (i % 5))), some (.int (nI (T i))), some (.int (bI (lett (T i))))], [.int (nI i - nI 2), .ref (D.1 43), .int (nI (T i))])) rfl ?_
              have e4 : nI i - nI 2 = nI (i - 2) := nI_sub (by omega)
              rw [e4]
              refine Zm_ald C it_Mm_fault hD 43 13 rfl (by decide) rfl (by decide) (by decide) rfl (j := i - 2) (by omega) (v := .int (nI (T (i - 2)))) (congrArg Value.int (hT (i - 2) (by omega)).1) ?_
              refine Z_br C it_Mm_fault rfl rfl (fun hc18 => ?_) (fun hc18 => ?_)
              · replace hc18 : ¬ T i = T (i - 2) := fun z9 => hc18 (by rw [z9])
                refine Z_run C it_Mm_fault 3 (f2 := (115, [some (.ref (D.1 37)), some (.int (nI i)), some (.int (nI (i % 5))), some (.int (nI (T i))), some (.int (nI 1))], [])) rfl ?_
                have hft : fit T i = true := by
                  clear hO ih
                  have h5 : i % 5 = 0 ∨ i % 5 = 1 ∨ i % 5 = 2 ∨ i % 5 = 3 ∨ i % 5 = 4 := by omega
                  rcases h5 with h5 | h5 | h5 | h5 | h5 <;> first | (exfalso; omega) | (simp_all [fit, fit5, els]; done) | (simp_all [fit, fit5, els]; omega)
                refine Z_run C it_Mm_fault 1 (f2 := (117, [some (.ref (D.1 37)), some (.int (nI i)), some (.int (nI (i % 5))), some (.int (nI (T i))), some (.int (nI 1))], [.int (nI 1)])) rfl ?_
                refine Z_br C it_Mm_fault rfl rfl (fun hc19 => ?_) (fun hc19 => absurd (by decide) hc19)
                refine Z_run C it_Mm_fault 1 (f2 := (125, [some (.ref (D.1 37)), some (.int (nI i + nI 1)), some (.int (nI (i % 5))), some (.int (nI (T i))), some (.int (nI 1))], [])) rfl ?_
                rw [nI_add i 1]
                refine Z_run C it_Mm_fault 1 (f2 := (2, [some (.ref (D.1 37)), some (.int (nI (i + 1))), some (.int (nI (i % 5))), some (.int (nI (T i))), some (.int (nI 1))], [])) rfl ?_
                refine Z_sub (ls2 := [some (.ref (D.1 37)), some (.int (nI (i + 1))), none, none, none]) (by simp [zsubl]) ?_
                exact ih (i + 1) (by omega) (by omega) (by rw [show n - i = (n - (i + 1)) + 1 by omega] at hO; simpa [ffr, hft] using hO)
              · have c2 := (hT (i - 2) (by omega)).2
                replace hc18 : T i = T (i - 2) := (nI_eq (a := T i) (b := T (i - 2)) (by omega) (by omega)).mp (Classical.not_not.mp hc18)
                refine Z_run C it_Mm_fault 1 (f2 := (90, [some (.ref (D.1 37)), some (.int (nI i)), some (.int (nI (i % 5))), some (.int (nI (T i))), some (.int (bI (lett (T i))))], [.ref (D.1 37)])) rfl ?_
                refine Zm_get C it_Mm_fault hD rfl 37 wi_Mm (by decide) rfl rfl (j := 6) (by decide) fl_Mm_25 (v := .ref (D.1 43)) rfl ?_
                refine Z_run C it_Mm_fault 3 (f2 := (96, [some (.ref (D.1 37)), some (.int (nI i)), some (.int (nI (i % 5))), some (.int (nI (T i))), some (.int (bI (lett (T i))))], [.int (nI i - nI 1), .ref (D.1 43)])) rfl ?_
                have e5 : nI i - nI 1 = nI (i - 1) := nI_sub (by omega)
                rw [e5]
                refine Zm_ald C it_Mm_fault hD 43 13 rfl (by decide) rfl (by decide) (by decide) rfl (j := i - 1) (by omega) (v := .int (nI (T (i - 1)))) (congrArg Value.int (hT (i - 1) (by omega)).1) ?_
                refine Z_run C it_Mm_fault 1 (f2 := (98, [some (.ref (D.1 37)), some (.int (nI i)), some (.int (nI (i % 5))), some (.int (nI (T i))), some (.int (bI (lett (T i))))], [.ref (D.1 37), .int (nI (T (i - 1)))])) rfl ?_
                refine Zm_get C it_Mm_fault hD rfl 37 wi_Mm (by decide) rfl rfl (j := 6) (by decide) fl_Mm_25 (v := .ref (D.1 43)) rfl ?_
                refine Z_run C it_Mm_fault 3 (f2 := (104, [some (.ref (D.1 37)), some (.int (nI i)), some (.int (nI (i % 5))), some (.int (nI (T i))), some (.int (bI (lett (T i))))], [.int (nI i - nI 3), .ref (D.1 43), .int (nI (T (i - 1)))])) rfl ?_
                have e6 : nI i - nI 3 = nI (i - 3) := nI_sub (by omega)
                rw [e6]
                refine Zm_ald C it_Mm_fault hD 43 13 rfl (by decide) rfl (by decide) (by decide) rfl (j := i - 3) (by omega) (v := .int (nI (T (i - 3)))) (congrArg Value.int (hT (i - 3) (by omega)).1) ?_
                refine Z_br C it_Mm_fault rfl rfl (fun hc20 => ?_) (fun hc20 => ?_)
                · have c1 := (hT (i - 1) (by omega)).2
                  have c3 := (hT (i - 3) (by omega)).2
                  replace hc20 : T (i - 1) = T (i - 3) := (nI_eq (a := T (i - 1)) (b := T (i - 3)) (by omega) (by omega)).mp hc20
                  refine Z_run C it_Mm_fault 2 (f2 := (115, [some (.ref (D.1 37)), some (.int (nI i)), some (.int (nI (i % 5))), some (.int (nI (T i))), some (.int (nI 0))], [])) rfl ?_
                  have hft : fit T i = false := by
                    clear hO ih
                    have h5 : i % 5 = 0 ∨ i % 5 = 1 ∨ i % 5 = 2 ∨ i % 5 = 3 ∨ i % 5 = 4 := by omega
                    rcases h5 with h5 | h5 | h5 | h5 | h5 <;> first | (exfalso; omega) | (simp_all [fit, fit5, els]; done) | (simp_all [fit, fit5, els]; omega)
                  refine Z_run C it_Mm_fault 1 (f2 := (117, [some (.ref (D.1 37)), some (.int (nI i)), some (.int (nI (i % 5))), some (.int (nI (T i))), some (.int (nI 0))], [.int (nI 0)])) rfl ?_
                  refine Z_br C it_Mm_fault rfl rfl (fun hc21 => absurd hc21 (by decide)) (fun hc21 => ?_)
                  refine Z_run C it_Mm_fault 1 (f2 := (121, [some (.ref (D.1 37)), some (.int (nI i)), some (.int (nI (i % 5))), some (.int (nI (T i))), some (.int (nI 0))], [.int (nI i)])) rfl ?_
                  exact Z_iret C q.e it_Mm_fault rfl (by rw [show n - i = (n - (i + 1)) + 1 by omega] at hO; simpa [ffr, hft, fl2, oI] using hO) (by decide) (by decide)
                · replace hc20 : ¬ T (i - 1) = T (i - 3) := fun z9 => hc20 (by rw [z9])
                  refine Z_run C it_Mm_fault 3 (f2 := (115, [some (.ref (D.1 37)), some (.int (nI i)), some (.int (nI (i % 5))), some (.int (nI (T i))), some (.int (nI 1))], [])) rfl ?_
                  have hft : fit T i = true := by
                    clear hO ih
                    have h5 : i % 5 = 0 ∨ i % 5 = 1 ∨ i % 5 = 2 ∨ i % 5 = 3 ∨ i % 5 = 4 := by omega
                    rcases h5 with h5 | h5 | h5 | h5 | h5 <;> first | (exfalso; omega) | (simp_all [fit, fit5, els]; done) | (simp_all [fit, fit5, els]; omega)
                  refine Z_run C it_Mm_fault 1 (f2 := (117, [some (.ref (D.1 37)), some (.int (nI i)), some (.int (nI (i % 5))), some (.int (nI (T i))), some (.int (nI 1))], [.int (nI 1)])) rfl ?_
                  refine Z_br C it_Mm_fault rfl rfl (fun hc22 => ?_) (fun hc22 => absurd (by decide) hc22)
                  refine Z_run C it_Mm_fault 1 (f2 := (125, [some (.ref (D.1 37)), some (.int (nI i + nI 1)), some (.int (nI (i % 5))), some (.int (nI (T i))), some (.int (nI 1))], [])) rfl ?_
                  rw [nI_add i 1]
                  refine Z_run C it_Mm_fault 1 (f2 := (2, [some (.ref (D.1 37)), some (.int (nI (i + 1))), some (.int (nI (i % 5))), some (.int (nI (T i))), some (.int (nI 1))], [])) rfl ?_
                  refine Z_sub (ls2 := [some (.ref (D.1 37)), some (.int (nI (i + 1))), none, none, none]) (by simp [zsubl]) ?_
                  exact ih (i + 1) (by omega) (by omega) (by rw [show n - i = (n - (i + 1)) + 1 by omega] at hO; simpa [ffr, hft] using hO)
      · replace hc3 := Classical.not_not.mp hc3
        replace hc3 := (nI_eq (a := i % 5) (b := 4) (by omega) (by omega)).mp hc3
        refine Z_run C it_Mm_fault 2 (f2 := (29, [some (.ref (D.1 37)), some (.int (nI i)), some (.int (nI (i % 5))), some (.int (nI (T i))), none], [.int (nI 32), .int (nI (T i))])) rfl ?_
        refine Z_br C it_Mm_fault rfl rfl (fun hc23 => ?_) (fun hc23 => ?_)
        · replace hc23 : ¬ _ := fun z9 => hc23 ((nI_eq (a := T i) (b := 32) (by omega) (by omega)).mpr z9)
          refine Z_run C it_Mm_fault 4 (f2 := (69, [some (.ref (D.1 37)), some (.int (nI i)), some (.int (nI (i % 5))), some (.int (nI (T i))), some (.int (nI 0))], [.int (nI 0)])) rfl ?_
          refine Z_br C it_Mm_fault rfl rfl (fun hc24 => ?_) (fun hc24 => absurd (by decide) hc24)
          refine Z_run C it_Mm_fault 2 (f2 := (115, [some (.ref (D.1 37)), some (.int (nI i)), some (.int (nI (i % 5))), some (.int (nI (T i))), some (.int (nI 0))], [])) rfl ?_
          have hft : fit T i = false := by
            clear hO ih
            have h5 : i % 5 = 0 ∨ i % 5 = 1 ∨ i % 5 = 2 ∨ i % 5 = 3 ∨ i % 5 = 4 := by omega
            rcases h5 with h5 | h5 | h5 | h5 | h5 <;> first | (exfalso; omega) | (simp_all [fit, fit5, els]; done) | (simp_all [fit, fit5, els]; omega)
          refine Z_run C it_Mm_fault 1 (f2 := (117, [some (.ref (D.1 37)), some (.int (nI i)), some (.int (nI (i % 5))), some (.int (nI (T i))), some (.int (nI 0))], [.int (nI 0)])) rfl ?_
          refine Z_br C it_Mm_fault rfl rfl (fun hc25 => absurd hc25 (by decide)) (fun hc25 => ?_)
          refine Z_run C it_Mm_fault 1 (f2 := (121, [some (.ref (D.1 37)), some (.int (nI i)), some (.int (nI (i % 5))), some (.int (nI (T i))), some (.int (nI 0))], [.int (nI i)])) rfl ?_
          exact Z_iret C q.e it_Mm_fault rfl (by rw [show n - i = (n - (i + 1)) + 1 by omega] at hO; simpa [ffr, hft, fl2, oI] using hO) (by decide) (by decide)
        · replace hc23 := Classical.not_not.mp hc23
          replace hc23 := (nI_eq (a := T i) (b := 32) (by omega) (by omega)).mp hc23
          refine Z_run C it_Mm_fault 4 (f2 := (69, [some (.ref (D.1 37)), some (.int (nI i)), some (.int (nI (i % 5))), some (.int (nI (T i))), some (.int (nI 1))], [.int (nI 1)])) rfl ?_
          refine Z_br C it_Mm_fault rfl rfl (fun hc26 => absurd hc26 (by decide)) (fun hc26 => ?_)
          refine Z_run C it_Mm_fault 2 (f2 := (74, [some (.ref (D.1 37)), some (.int (nI i)), some (.int (nI (i % 5))), some (.int (nI (T i))), some (.int (nI 1))], [.int (nI 3), .int (nI (i % 5))])) rfl ?_
          refine Z_br C it_Mm_fault rfl rfl (fun hc27 => ?_) (fun hc27 => ?_)
          · replace hc27 : ¬ _ := fun z9 => hc27 ((nI_eq (a := i % 5) (b := 3) (by omega) (by omega)).mpr z9)
            refine Z_run C it_Mm_fault 3 (f2 := (115, [some (.ref (D.1 37)), some (.int (nI i)), some (.int (nI (i % 5))), some (.int (nI (T i))), some (.int (nI 1))], [])) rfl ?_
            have hft : fit T i = true := by
              clear hO ih
              have h5 : i % 5 = 0 ∨ i % 5 = 1 ∨ i % 5 = 2 ∨ i % 5 = 3 ∨ i % 5 = 4 := by omega
              rcases h5 with h5 | h5 | h5 | h5 | h5 <;> first | (exfalso; omega) | (simp_all [fit, fit5, els]; done) | (simp_all [fit, fit5, els]; omega)
            refine Z_run C it_Mm_fault 1 (f2 := (117, [some (.ref (D.1 37)), some (.int (nI i)), some (.int (nI (i % 5))), some (.int (nI (T i))), some (.int (nI 1))], [.int (nI 1)])) rfl ?_
            refine Z_br C it_Mm_fault rfl rfl (fun hc28 => ?_) (fun hc28 => absurd (by decide) hc28)
            refine Z_run C it_Mm_fault 1 (f2 := (125, [some (.ref (D.1 37)), some (.int (nI i + nI 1)), some (.int (nI (i % 5))), some (.int (nI (T i))), some (.int (nI 1))], [])) rfl ?_
            rw [nI_add i 1]
            refine Z_run C it_Mm_fault 1 (f2 := (2, [some (.ref (D.1 37)), some (.int (nI (i + 1))), some (.int (nI (i % 5))), some (.int (nI (T i))), some (.int (nI 1))], [])) rfl ?_
            refine Z_sub (ls2 := [some (.ref (D.1 37)), some (.int (nI (i + 1))), none, none, none]) (by simp [zsubl]) ?_
            exact ih (i + 1) (by omega) (by omega) (by rw [show n - i = (n - (i + 1)) + 1 by omega] at hO; simpa [ffr, hft] using hO)
          · replace hc27 := Classical.not_not.mp hc27
            replace hc27 := (nI_eq (a := i % 5) (b := 3) (by omega) (by omega)).mp hc27
            refine Z_run C it_Mm_fault 2 (f2 := (79, [some (.ref (D.1 37)), some (.int (nI i)), some (.int (nI (i % 5))), some (.int (nI (T i))), some (.int (nI 1))], [.ref (D.1 37), .int (nI (T i))])) rfl ?_
            refine Zm_get C it_Mm_fault hD rfl 37 wi_Mm (by decide) rfl rfl (j := 6) (by decide) fl_Mm_25 (v := .ref (D.1 43)) rfl ?_
            refine Z_run C it_Mm_fault 3 (f2 := (85, [some (.ref (D.1 37)), some (.int (nI i)), some (.int (nI (i % 5))), some (.int (nI (T i))), some (.int (nI 1))], [.int (nI i - nI 2), .ref (D.1 43), .int (nI (T i))])) rfl ?_
            have e7 : nI i - nI 2 = nI (i - 2) := nI_sub (by omega)
            rw [e7]
            refine Zm_ald C it_Mm_fault hD 43 13 rfl (by decide) rfl (by decide) (by decide) rfl (j := i - 2) (by omega) (v := .int (nI (T (i - 2)))) (congrArg Value.int (hT (i - 2) (by omega)).1) ?_
            refine Z_br C it_Mm_fault rfl rfl (fun hc29 => ?_) (fun hc29 => ?_)
            · replace hc29 : ¬ T i = T (i - 2) := fun z9 => hc29 (by rw [z9])
              refine Z_run C it_Mm_fault 3 (f2 := (115, [some (.ref (D.1 37)), some (.int (nI i)), some (.int (nI (i % 5))), some (.int (nI (T i))), some (.int (nI 1))], [])) rfl ?_
              have hft : fit T i = true := by
                clear hO ih
                have h5 : i % 5 = 0 ∨ i % 5 = 1 ∨ i % 5 = 2 ∨ i % 5 = 3 ∨ i % 5 = 4 := by omega
                rcases h5 with h5 | h5 | h5 | h5 | h5 <;> first | (exfalso; omega) | (simp_all [fit, fit5, els]; done) | (simp_all [fit, fit5, els]; omega)
              refine Z_run C it_Mm_fault 1 (f2 := (117, [some (.ref (D.1 37)), some (.int (nI i)), some (.int (nI (i % 5))), some (.int (nI (T i))), some (.int (nI 1))], [.int (nI 1)])) rfl ?_
              refine Z_br C it_Mm_fault rfl rfl (fun hc30 => ?_) (fun hc30 => absurd (by decide) hc30)
              refine Z_run C it_Mm_fault 1 (f2 := (125, [some (.ref (D.1 37)), some (.int (nI i + nI 1)), some (.int (nI (i % 5))), some (.int (nI (T i))), some (.int (nI 1))], [])) rfl ?_
              rw [nI_add i 1]
              refine Z_run C it_Mm_fault 1 (f2 := (2, [some (.ref (D.1 37)), some (.int (nI (i + 1))), some (.int (nI (i % 5))), some (.int (nI (T i))), some (.int (nI 1))], [])) rfl ?_
              refine Z_sub (ls2 := [some (.ref (D.1 37)), some (.int (nI (i + 1))), none, none, none]) (by simp [zsubl]) ?_
              exact ih (i + 1) (by omega) (by omega) (by rw [show n - i = (n - (i + 1)) + 1 by omega] at hO; simpa [ffr, hft] using hO)
            · have c2 := (hT (i - 2) (by omega)).2
              replace hc29 : T i = T (i - 2) := (nI_eq (a := T i) (b := T (i - 2)) (by omega) (by omega)).mp (Classical.not_not.mp hc29)
              refine Z_run C it_Mm_fault 1 (f2 := (90, [some (.ref (D.1 37)), some (.int (nI i)), some (.int (nI (i % 5))), some (.int (nI (T i))), some (.int (nI 1))], [.ref (D.1 37)])) rfl ?_
              refine Zm_get C it_Mm_fault hD rfl 37 wi_Mm (by decide) rfl rfl (j := 6) (by decide) fl_Mm_25 (v := .ref (D.1 43)) rfl ?_
              refine Z_run C it_Mm_fault 3 (f2 := (96, [some (.ref (D.1 37)), some (.int (nI i)), some (.int (nI (i % 5))), some (.int (nI (T i))), some (.int (nI 1))], [.int (nI i - nI 1), .ref (D.1 43)])) rfl ?_
              have e8 : nI i - nI 1 = nI (i - 1) := nI_sub (by omega)
              rw [e8]
              refine Zm_ald C it_Mm_fault hD 43 13 rfl (by decide) rfl (by decide) (by decide) rfl (j := i - 1) (by omega) (v := .int (nI (T (i - 1)))) (congrArg Value.int (hT (i - 1) (by omega)).1) ?_
              refine Z_run C it_Mm_fault 1 (f2 := (98, [some (.ref (D.1 37)), some (.int (nI i)), some (.int (nI (i % 5))), some (.int (nI (T i))), some (.int (nI 1))], [.ref (D.1 37), .int (nI (T (i - 1)))])) rfl ?_
              refine Zm_get C it_Mm_fault hD rfl 37 wi_Mm (by decide) rfl rfl (j := 6) (by decide) fl_Mm_25 (v := .ref (D.1 43)) rfl ?_
              refine Z_run C it_Mm_fault 3 (f2 := (104, [some (.ref (D.1 37)), some (.int (nI i)), some (.int (nI (i % 5))), some (.int (nI (T i))), some (.int (nI 1))], [.int (nI i - nI 3), .ref (D.1 43), .int (nI (T (i - 1)))])) rfl ?_
              have e9 : nI i - nI 3 = nI (i - 3) := nI_sub (by omega)
              rw [e9]
              refine Zm_ald C it_Mm_fault hD 43 13 rfl (by decide) rfl (by decide) (by decide) rfl (j := i - 3) (by omega) (v := .int (nI (T (i - 3)))) (congrArg Value.int (hT (i - 3) (by omega)).1) ?_
              refine Z_br C it_Mm_fault rfl rfl (fun hc31 => ?_) (fun hc31 => ?_)
              · have c1 := (hT (i - 1) (by omega)).2
                have c3 := (hT (i - 3) (by omega)).2
                replace hc31 : T (i - 1) = T (i - 3) := (nI_eq (a := T (i - 1)) (b := T (i - 3)) (by omega) (by omega)).mp hc31
                refine Z_run C it_Mm_fault 2 (f2 := (115, [some (.ref (D.1 37)), some (.int (nI i)), some (.int (nI (i % 5))), some (.int (nI (T i))), some (.int (nI 0))], [])) rfl ?_
                have hft : fit T i = false := by
                  clear hO ih
                  have h5 : i % 5 = 0 ∨ i % 5 = 1 ∨ i % 5 = 2 ∨ i % 5 = 3 ∨ i % 5 = 4 := by omega
                  rcases h5 with h5 | h5 | h5 | h5 | h5 <;> first | (exfalso; omega) | (simp_all [fit, fit5, els]; done) | (simp_all [fit, fit5, els]; omega)
                refine Z_run C it_Mm_fault 1 (f2 := (117, [some (.ref (D.1 37)), some (.int (nI i)), some (.int (nI (i % 5))), some (.int (nI (T i))), some (.int (nI 0))], [.int (nI 0)])) rfl ?_
                refine Z_br C it_Mm_fault rfl rfl (fun hc32 => absurd hc32 (by decide)) (fun hc32 => ?_)
                refine Z_run C it_Mm_fault 1 (f2 := (121, [some (.ref (D.1 37)), some (.int (nI i)), some (.int (nI (i % 5))), some (.int (nI (T i))), some (.int (nI 0))], [.int (nI i)])) rfl ?_
                exact Z_iret C q.e it_Mm_fault rfl (by rw [show n - i = (n - (i + 1)) + 1 by omega] at hO; simpa [ffr, hft, fl2, oI] using hO) (by decide) (by decide)
              · replace hc31 : ¬ T (i - 1) = T (i - 3) := fun z9 => hc31 (by rw [z9])
                refine Z_run C it_Mm_fault 3 (f2 := (115, [some (.ref (D.1 37)), some (.int (nI i)), some (.int (nI (i % 5))), some (.int (nI (T i))), some (.int (nI 1))], [])) rfl ?_
                have hft : fit T i = true := by
                  clear hO ih
                  have h5 : i % 5 = 0 ∨ i % 5 = 1 ∨ i % 5 = 2 ∨ i % 5 = 3 ∨ i % 5 = 4 := by omega
                  rcases h5 with h5 | h5 | h5 | h5 | h5 <;> first | (exfalso; omega) | (simp_all [fit, fit5, els]; done) | (simp_all [fit, fit5, els]; omega)
                refine Z_run C it_Mm_fault 1 (f2 := (117, [some (.ref (D.1 37)), some (.int (nI i)), some (.int (nI (i % 5))), some (.int (nI (T i))), some (.int (nI 1))], [.int (nI 1)])) rfl ?_
                refine Z_br C it_Mm_fault rfl rfl (fun hc33 => ?_) (fun hc33 => absurd (by decide) hc33)
                refine Z_run C it_Mm_fault 1 (f2 := (125, [some (.ref (D.1 37)), some (.int (nI i + nI 1)), some (.int (nI (i % 5))), some (.int (nI (T i))), some (.int (nI 1))], [])) rfl ?_
                rw [nI_add i 1]
                refine Z_run C it_Mm_fault 1 (f2 := (2, [some (.ref (D.1 37)), some (.int (nI (i + 1))), some (.int (nI (i % 5))), some (.int (nI (T i))), some (.int (nI 1))], [])) rfl ?_
                refine Z_sub (ls2 := [some (.ref (D.1 37)), some (.int (nI (i + 1))), none, none, none]) (by simp [zsubl]) ?_
                exact ih (i + 1) (by omega) (by omega) (by rw [show n - i = (n - (i + 1)) + 1 by omega] at hO; simpa [ffr, hft] using hO)
set_option maxRecDepth 20000 in
theorem ct_Mm_fault {E : zE} (hE : zEv E) {l : Launch} (hl : l.stackTraces = false) {D : zD} (hD : zDok E D) (V : Nat → Nat → Int32) (P : Nat → Nat → Value) (PH : aH) (T : Nat → Nat) (hT : okU V T) (n : Nat) (hn : V 37 7 = nI n) (hn6 : n ≤ 60) (sz : Nat) : zM E l y_Mm_fault [.code y_Mm_fault c_Mm_fault 5 (some .int)] rm_Mm_fault [.ref (D.1 37)] (HM D V P PH) sz (zRet (some (.int (oI (flt T n)))) (HM D V P PH) sz) := by
  refine zM_of hE hl (by decide +kernel) [some (.ref (D.1 37)), none, none, none, none] ⟨rfl, rfl, Nat.le_of_ble_eq_true rfl⟩ ?_
  intro G C q htb
  refine Z_run C it_Mm_fault 2 (f2 := (2, [some (.ref (D.1 37)), some (.int (nI 0)), none, none, none], [])) rfl ?_
  exact lp_Mm_fault C q hD hT hn hn6 (n + 1) 0 (by omega) (by omega) ⟨rfl, rfl, rfl⟩
theorem flt_lt {T : Nat → Nat} {n k : Nat} (h : flt T n = some k) : k ≤ n := by
  unfold flt at h
  cases hf : ffr (fun k => !fit T k) n 0 with
  | some k9 =>
    rw [hf] at h
    have := ffr_lt hf
    cases h
    omega
  | none =>
    rw [hf] at h
    have h2 : (if n % 5 = 4 then none else some n) = some k := h
    split at h2
    · cases h2
    · cases h2; omega
theorem nI_m61 {a : Nat} (h : a < 61) : ¬ nI a = -1 := by
  have h3 : ∀ j, j < 61 → nI j ≠ -1 := by decide
  exact h3 a h
theorem oI_flt {T : Nat → Nat} {n : Nat} (hn6 : n ≤ 60) : oI (flt T n) = -1 ↔ flt T n = none := by
  cases h : flt T n with
  | none => exact ⟨fun _ => rfl, fun _ => rfl⟩
  | some k =>
    have := flt_lt h
    exact ⟨fun z => absurd z (nI_m61 (by omega)), fun z => by cases z⟩
set_option maxRecDepth 20000 in
theorem ct_Mm_isValid {E : zE} (hE : zEv E) {l : Launch} (hl : l.stackTraces = false) {D : zD} (hD : zDok E D) (V : Nat → Nat → Int32) (P : Nat → Nat → Value) (PH : aH) (T : Nat → Nat) (hT : okU V T) (n : Nat) (hn : V 37 7 = nI n) (hn6 : n ≤ 60) (sz : Nat) : zM E l y_Mm_isValid [.code y_Mm_isValid c_Mm_isValid 1 (some .boolean)] rm_Mm_isValid [.ref (D.1 37)] (HM D V P PH) sz (zRet (some (.int (bI (flt T n == none)))) (HM D (vset V 37 8 (nI 0)) P PH) sz) := by
  refine zM_of hE hl (by decide +kernel) [some (.ref (D.1 37))] ⟨rfl, rfl, Nat.le_of_ble_eq_true rfl⟩ ?_
  intro G C q htb
  refine Z_run C it_Mm_isValid 2 (f2 := (2, [some (.ref (D.1 37))], [.int (nI 0), .ref (D.1 37)])) rfl ?_
  refine Zm_put C it_Mm_isValid hD rfl 37 wi_Mm t_Mm t_Mm_ok n_Mm (by first | decide | omega) rfl rfl (j := 8) (by decide) fl_Mm_29 rfl rfl rfl rfl ?_
  refine Z_run C it_Mm_isValid 1 (f2 := (6, [some (.ref (D.1 37))], [.ref (D.1 37)])) rfl ?_
  refine Zr_callV C it_Mm_isValid hD rfl p_Mm_fault ml_Mm_130 37 (by decide) rfl rfl [] (ct_Mm_fault C.ev C.l hD (vset V 37 8 (nI 0)) P _ T hT n hn hn6 _) rfl rfl ⟨by decide, by decide, by decide, by decide⟩ (Nat.le_of_ble_eq_true rfl) rfl ?_
  show Z E G (HM D (vset V 37 8 (nI 0)) P PH) sz 0 0 (9, [some (.ref (D.1 37))], [.int (oI (flt T n))])
  refine Z_run C it_Mm_isValid 1 (f2 := (10, [some (.ref (D.1 37))], [.int ((-1)), .int (oI (flt T n))])) rfl ?_
  refine Z_br C it_Mm_isValid rfl rfl (fun hc1 => ?_) (fun hc1 => ?_)
  · replace hc1 : ¬ flt T n = none := fun z9 => hc1 ((oI_flt hn6).mpr z9)
    refine Z_run C it_Mm_isValid 1 (f2 := (18, [some (.ref (D.1 37))], [.int (nI 0)])) rfl ?_
    exact Z_zret C q.e it_Mm_isValid rfl (Or.inl rfl) (zRet_iH (bI_f (by cases hq : flt T n with | none => exact absurd hq hc1 | some k => rfl)) (by first | rfl | (simp only [vset_2]))) (by decide) (by decide)
  · replace hc1 := (oI_flt hn6).mp (Classical.not_not.mp hc1)
    refine Z_run C it_Mm_isValid 2 (f2 := (18, [some (.ref (D.1 37))], [.int (nI 1)])) rfl ?_
    exact Z_zret C q.e it_Mm_isValid rfl (Or.inr rfl) (zRet_iH (bI_t (by rw [hc1]; rfl)) (by first | rfl | (simp only [vset_2]))) (by decide) (by decide)
set_option maxRecDepth 20000 in
theorem ct_Mm_firstError {E : zE} (hE : zEv E) {l : Launch} (hl : l.stackTraces = false) {D : zD} (hD : zDok E D) (V : Nat → Nat → Int32) (P : Nat → Nat → Value) (PH : aH) (T : Nat → Nat) (hT : okU V T) (n : Nat) (hn : V 37 7 = nI n) (hn6 : n ≤ 60) (k : Nat) (hk : flt T n = some k) (sz : Nat) : zM E l y_Mm_firstError [.code y_Mm_firstError c_Mm_firstError 1 (some .int)] rm_Mm_firstError [.ref (D.1 37)] (HM D V P PH) sz (zRet (some (.int (nI k))) (HM D (vset V 37 8 (nI 0)) P PH) sz) := by
  refine zM_of hE hl (by decide +kernel) [some (.ref (D.1 37))] ⟨rfl, rfl, Nat.le_of_ble_eq_true rfl⟩ ?_
  intro G C q htb
  refine Z_run C it_Mm_firstError 2 (f2 := (2, [some (.ref (D.1 37))], [.ref (D.1 37), .ref (D.1 37)])) rfl ?_
  refine Zr_callV C it_Mm_firstError hD rfl p_Mm_fault ml_Mm_130 37 (by decide) rfl rfl [] (ct_Mm_fault C.ev C.l hD V P _ T hT n hn hn6 _) rfl rfl ⟨by decide, by decide, by decide, by decide⟩ (Nat.le_of_ble_eq_true rfl) rfl ?_
  show Z E G (HM D V P PH) sz 0 0 (5, [some (.ref (D.1 37))], [.int (oI (flt T n)), .ref (D.1 37)])
  refine Z_run C it_Mm_firstError 1 (f2 := (6, [some (.ref (D.1 37))], [.int ((-1)), .int (oI (flt T n)), .ref (D.1 37)])) rfl ?_
  refine Z_br C it_Mm_firstError rfl rfl (fun hc1 => ?_) (fun hc1 => ?_)
  · exact absurd ((oI_flt hn6).mp hc1) (by rw [hk]; exact fun z => by cases z)
  · skip
    refine Z_run C it_Mm_firstError 2 (f2 := (14, [some (.ref (D.1 37))], [.int (nI 1), .ref (D.1 37)])) rfl ?_
    refine Zr_callV C it_Mm_firstError hD rfl p_Mm_asks ml_Mm_40 37 (by decide) rfl rfl [.int (nI 1)] (ct_Mm_asks_t C.ev C.l hD V P _ _) rfl rfl ⟨by decide, by decide, by decide, by decide⟩ (Nat.le_of_ble_eq_true rfl) rfl ?_
    show Z E G (HM D (vset V 37 8 (nI 0)) P PH) sz 0 0 (17, [some (.ref (D.1 37))], [.int (nI 1)])
    refine Z_br C it_Mm_firstError rfl rfl (fun hc2 => absurd hc2 (by decide)) (fun hc2 => ?_)
    refine Z_run C it_Mm_firstError 1 (f2 := (21, [some (.ref (D.1 37))], [.ref (D.1 37)])) rfl ?_
    refine Zr_callV C it_Mm_firstError hD rfl p_Mm_fault ml_Mm_130 37 (by decide) rfl rfl [] (ct_Mm_fault C.ev C.l hD (vset V 37 8 (nI 0)) P _ T hT n hn hn6 _) rfl rfl ⟨by decide, by decide, by decide, by decide⟩ (Nat.le_of_ble_eq_true rfl) rfl ?_
    show Z E G (HM D (vset V 37 8 (nI 0)) P PH) sz 0 0 (24, [some (.ref (D.1 37))], [.int (oI (flt T n))])
    refine Z_run C it_Mm_firstError 1 (f2 := (28, [some (.ref (D.1 37))], [.int (oI (flt T n))])) rfl ?_
    exact Z_iret C q.e it_Mm_firstError rfl (zRet_iH (by rw [hk]; rfl) (by first | rfl | (simp only [vset_2]))) (by decide) (by decide)
set_option maxRecDepth 20000 in
theorem ct_Mm_firstError_x {E : zE} (hE : zEv E) {l : Launch} (hl : l.stackTraces = false) {D : zD} (hD : zDok E D) (V : Nat → Nat → Int32) (P : Nat → Nat → Value) (PH : aH) (T : Nat → Nat) (hT : okU V T) (n : Nat) (hn : V 37 7 = nI n) (hn6 : n ≤ 60) (hk : flt T n = none) (sz : Nat) : zM E l y_Mm_firstError [.code y_Mm_firstError c_Mm_firstError 1 (some .int)] rm_Mm_firstError [.ref (D.1 37)] (HM D V P PH) sz (zRet (some (.int (nI 0))) (HM D (vset V 37 8 (nI 1)) P PH) sz) := by
  refine zM_of hE hl (by decide +kernel) [some (.ref (D.1 37))] ⟨rfl, rfl, Nat.le_of_ble_eq_true rfl⟩ ?_
  intro G C q htb
  refine Z_run C it_Mm_firstError 2 (f2 := (2, [some (.ref (D.1 37))], [.ref (D.1 37), .ref (D.1 37)])) rfl ?_
  refine Zr_callV C it_Mm_firstError hD rfl p_Mm_fault ml_Mm_130 37 (by decide) rfl rfl [] (ct_Mm_fault C.ev C.l hD V P _ T hT n hn hn6 _) rfl rfl ⟨by decide, by decide, by decide, by decide⟩ (Nat.le_of_ble_eq_true rfl) rfl ?_
  show Z E G (HM D V P PH) sz 0 0 (5, [some (.ref (D.1 37))], [.int (oI (flt T n)), .ref (D.1 37)])
  refine Z_run C it_Mm_firstError 1 (f2 := (6, [some (.ref (D.1 37))], [.int ((-1)), .int (oI (flt T n)), .ref (D.1 37)])) rfl ?_
  refine Z_br C it_Mm_firstError rfl rfl (fun hc1 => ?_) (fun hc1 => ?_)
  · skip
    refine Z_run C it_Mm_firstError 1 (f2 := (14, [some (.ref (D.1 37))], [.int (nI 0), .ref (D.1 37)])) rfl ?_
    refine Zr_callV C it_Mm_firstError hD rfl p_Mm_asks ml_Mm_40 37 (by decide) rfl rfl [.int (nI 0)] (ct_Mm_asks_f C.ev C.l hD V P _ _) rfl rfl ⟨by decide, by decide, by decide, by decide⟩ (Nat.le_of_ble_eq_true rfl) rfl ?_
    show Z E G (HM D (vset V 37 8 (nI 1)) P PH) sz 0 0 (17, [some (.ref (D.1 37))], [.int (nI 0)])
    refine Z_br C it_Mm_firstError rfl rfl (fun hc2 => ?_) (fun hc2 => absurd (by decide) hc2)
    refine Z_run C it_Mm_firstError 1 (f2 := (28, [some (.ref (D.1 37))], [.int (nI 0)])) rfl ?_
    exact Z_iret C q.e it_Mm_firstError rfl (zRet_iH rfl (by first | rfl | (simp only [vset_2]))) (by decide) (by decide)
  · exact absurd ((oI_flt hn6).mpr hk) hc1
set_option maxRecDepth 20000 in
theorem ct_Mm_append {E : zE} (hE : zEv E) {l : Launch} (hl : l.stackTraces = false) {D : zD} (hD : zDok E D) (V : Nat → Nat → Int32) (P : Nat → Nat → Value) (PH : aH) (n : Nat) (hn : V 37 7 = nI n) (c : Nat) (hc : c < 65536) (hlt : n < 60) (sz : Nat) : zM E l y_Mm_append [.code y_Mm_append c_Mm_append 2 (some .int)] rm_Mm_append [.ref (D.1 37), .int (nI c)] (HM D V P PH) sz (zRet (some (.int (nI (n + 1)))) (HM D (vset (vset (vset V 37 8 (nI 0)) 43 n (nI c)) 37 7 (nI (n + 1))) P PH) sz) := by
  refine zM_of hE hl (by decide +kernel) [some (.ref (D.1 37)), some (.int (nI c))] ⟨rfl, rfl, Nat.le_of_ble_eq_true rfl⟩ ?_
  intro G C q htb
  refine Z_run C it_Mm_append 2 (f2 := (2, [some (.ref (D.1 37)), some (.int (nI c))], [.ref (D.1 37), .ref (D.1 37)])) rfl ?_
  refine Zm_get C it_Mm_append hD rfl 37 wi_Mm (by decide) rfl rfl (j := 7) (by decide) fl_Mm_127 (v := .int (nI n)) (congrArg Value.int hn) ?_
  refine Z_run C it_Mm_append 1 (f2 := (7, [some (.ref (D.1 37)), some (.int (nI c))], [.int (nI 60), .int (nI n), .ref (D.1 37)])) rfl ?_
  refine Z_br C it_Mm_append rfl rfl (fun hc1 => ?_) (fun hc1 => ?_)
  · exact absurd ((nI_leI (a := 60) (b := n) (by omega) (by omega)).mp hc1) (by omega)
  · skip
    refine Z_run C it_Mm_append 2 (f2 := (15, [some (.ref (D.1 37)), some (.int (nI c))], [.int (nI 1), .ref (D.1 37)])) rfl ?_
    refine Zr_callV C it_Mm_append hD rfl p_Mm_asks ml_Mm_40 37 (by decide) rfl rfl [.int (nI 1)] (ct_Mm_asks_t C.ev C.l hD V P _ _) rfl rfl ⟨by decide, by decide, by decide, by decide⟩ (Nat.le_of_ble_eq_true rfl) rfl ?_
    show Z E G (HM D (vset V 37 8 (nI 0)) P PH) sz 0 0 (18, [some (.ref (D.1 37)), some (.int (nI c))], [.int (nI 1)])
    refine Z_br C it_Mm_append rfl rfl (fun hc2 => ?_) (fun hc2 => absurd (by decide) hc2)
    refine Z_run C it_Mm_append 1 (f2 := (24, [some (.ref (D.1 37)), some (.int (nI c))], [.ref (D.1 37)])) rfl ?_
    refine Zm_get C it_Mm_append hD rfl 37 wi_Mm (by decide) rfl rfl (j := 6) (by decide) fl_Mm_25 (v := .ref (D.1 43)) rfl ?_
    refine Z_run C it_Mm_append 1 (f2 := (28, [some (.ref (D.1 37)), some (.int (nI c))], [.ref (D.1 37), .ref (D.1 43)])) rfl ?_
    refine Zm_get C it_Mm_append hD rfl 37 wi_Mm (by decide) rfl rfl (j := 7) (by decide) fl_Mm_127 (v := .int (nI n)) (congrArg Value.int hn) ?_
    refine Z_run C it_Mm_append 1 (f2 := (32, [some (.ref (D.1 37)), some (.int (nI c))], [.int (nI c), .int (nI n), .ref (D.1 43)])) rfl ?_
    have hcf := nar_c hc
    refine Zm_ast C it_Mm_append hD 43 13 rfl (by first | decide | exact isB_k hb | omega) rfl (by decide) rfl (j := n) (by omega) (nar_c hc) rfl ?_
    refine Z_run C it_Mm_append 2 (f2 := (35, [some (.ref (D.1 37)), some (.int (nI c))], [.ref (D.1 37), .ref (D.1 37)])) rfl ?_
    refine Zm_get C it_Mm_append hD rfl 37 wi_Mm (by decide) rfl rfl (j := 7) (by decide) fl_Mm_127 (v := .int (nI n)) (congrArg Value.int hn) ?_
    refine Z_run C it_Mm_append 2 (f2 := (40, [some (.ref (D.1 37)), some (.int (nI c))], [.int (nI n + nI 1), .ref (D.1 37)])) rfl ?_
    rw [nI_add n 1]
    refine Zm_put C it_Mm_append hD rfl 37 wi_Mm t_Mm t_Mm_ok n_Mm (by first | decide | omega) rfl rfl (j := 7) (by decide) fl_Mm_127 rfl rfl rfl rfl ?_
    refine Z_run C it_Mm_append 1 (f2 := (44, [some (.ref (D.1 37)), some (.int (nI c))], [.ref (D.1 37)])) rfl ?_
    refine Zm_get C it_Mm_append hD rfl 37 wi_Mm (by decide) rfl rfl (j := 7) (by decide) fl_Mm_127 (v := .int (nI (n + 1))) rfl ?_
    exact Z_iret C q.e it_Mm_append rfl (zRet_iH rfl rfl) (by decide) (by decide)
set_option maxRecDepth 20000 in
theorem ct_Mm_append_x {E : zE} (hE : zEv E) {l : Launch} (hl : l.stackTraces = false) {D : zD} (hD : zDok E D) (V : Nat → Nat → Int32) (P : Nat → Nat → Value) (PH : aH) (n : Nat) (hn : V 37 7 = nI n) (hn6 : n ≤ 60) (hge : 60 ≤ n) (xc : Int32) (sz : Nat) : zM E l y_Mm_append [.code y_Mm_append c_Mm_append 2 (some .int)] rm_Mm_append [.ref (D.1 37), .int xc] (HM D V P PH) sz (zRet (some (.int (nI 0))) (HM D (vset V 37 8 (nI 1)) P PH) sz) := by
  refine zM_of hE hl (by decide +kernel) [some (.ref (D.1 37)), some (.int xc)] ⟨rfl, rfl, Nat.le_of_ble_eq_true rfl⟩ ?_
  intro G C q htb
  refine Z_run C it_Mm_append 2 (f2 := (2, [some (.ref (D.1 37)), some (.int xc)], [.ref (D.1 37), .ref (D.1 37)])) rfl ?_
  refine Zm_get C it_Mm_append hD rfl 37 wi_Mm (by decide) rfl rfl (j := 7) (by decide) fl_Mm_127 (v := .int (nI n)) (congrArg Value.int hn) ?_
  refine Z_run C it_Mm_append 1 (f2 := (7, [some (.ref (D.1 37)), some (.int xc)], [.int (nI 60), .int (nI n), .ref (D.1 37)])) rfl ?_
  refine Z_br C it_Mm_append rfl rfl (fun hc1 => ?_) (fun hc1 => ?_)
  · skip
    refine Z_run C it_Mm_append 1 (f2 := (15, [some (.ref (D.1 37)), some (.int xc)], [.int (nI 0), .ref (D.1 37)])) rfl ?_
    refine Zr_callV C it_Mm_append hD rfl p_Mm_asks ml_Mm_40 37 (by decide) rfl rfl [.int (nI 0)] (ct_Mm_asks_f C.ev C.l hD V P _ _) rfl rfl ⟨by decide, by decide, by decide, by decide⟩ (Nat.le_of_ble_eq_true rfl) rfl ?_
    show Z E G (HM D (vset V 37 8 (nI 1)) P PH) sz 0 0 (18, [some (.ref (D.1 37)), some (.int xc)], [.int (nI 0)])
    refine Z_br C it_Mm_append rfl rfl (fun hc2 => absurd hc2 (by decide)) (fun hc2 => ?_)
    refine Z_run C it_Mm_append 1 (f2 := (22, [some (.ref (D.1 37)), some (.int xc)], [.int (nI 0)])) rfl ?_
    exact Z_iret C q.e it_Mm_append rfl (zRet_iH rfl (by first | rfl | (simp only [vset_2]))) (by decide) (by decide)
  · exact absurd ((nI_leI (a := 60) (b := n) (by omega) (by omega)).mpr (by omega)) hc1
