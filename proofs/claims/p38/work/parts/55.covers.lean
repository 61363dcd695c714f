/-! ===== the law's covers ===== -/
def szz (i j : Nat) : Nat := (i * i + 4 - 4 * i) + (j * j + 4 - 4 * j)
def nrb (s i j : Nat) : Bool := (szz i j == 1 && s % 2 == 1) || ((szz i j == 2 && s / 2 % 2 == 1) || (szz i j == 5 && s / 4 % 2 == 1))
def frb (s i j : Nat) : Bool := (szz i j == 1 && s / 8 % 2 == 1) || (szz i j == 2 && s / 16 == 1)
def b1s (f i j : Nat) : Nat := match bsd f i j with
  | none => 0
  | some t => 2 ^ t
def lln (F : Nat → Nat) (i j : Nat) : Nat → Nat → Nat
  | 0, _ => 0
  | n + 1, f => match bsd f i j with
    | none => 0
    | some t => 2 ^ t ||| (if F t = 0 then lln F i j n t else 0)
def cvt (F : Nat → Nat) (s f i j : Nat) : Nat := (if nrb s i j then b1s f i j else 0) ||| (if frb s i j then lln F i j 5 f else 0)
def cvi (F : Nat → Nat) (s f i : Nat) : Nat → Nat := orp (fun j => cvt F s f i j)
def cvo (F : Nat → Nat) (s f : Nat) : Nat → Nat := orp (fun i => cvi F s f i 5)
def offb (i j : Nat) : Nat → Nat → Bool
  | 0, f => bsd f i j == none
  | n + 1, f => match bsd f i j with
    | none => true
    | some t => offb i j n t
def offc (i j f : Nat) : Bool := !(szz i j == 1 || szz i j == 2) || offb i j 5 f
theorem off_t : ∀ i, i < 5 → ∀ j, j < 5 → ∀ f, f < 36 → offc i j f = true := by decide +kernel
theorem off_5 {s i j f : Nat} (hi : i < 5) (hj : j < 5) (hf : f < 36) (h : frb s i j = true) : offb i j 5 f = true := by
  have h1 := off_t i hi j hj f hf
  unfold offc at h1
  have h2 : (szz i j == 1 || szz i j == 2) = true := by
    unfold frb at h
    simp only [Bool.or_eq_true, Bool.and_eq_true] at h ⊢
    rcases h with h | h
    · exact Or.inl h.1
    · exact Or.inr h.1
  rw [h2] at h1
  simpa using h1
theorem sz_e : ∀ i, i < 5 → ∀ j, j < 5 → rI i * rI i + rI j * rI j = nI (szz i j) := by decide +kernel
theorem sz_le : ∀ i, i < 5 → ∀ j, j < 5 → szz i j ≤ 8 := by decide +kernel
theorem b1s_lt (f i j : Nat) : b1s f i j < 2 ^ 36 := by
  unfold b1s
  split
  · exact Nat.two_pow_pos 36
  · next t h => exact wb_lt2 (bsd_lt h)
theorem lln_lt (F : Nat → Nat) (i j : Nat) : ∀ n f, lln F i j n f < 2 ^ 36 := by
  intro n
  induction n with
  | zero => intro f; exact Nat.two_pow_pos 36
  | succ n ih =>
    intro f
    unfold lln
    split
    · exact Nat.two_pow_pos 36
    · next t h =>
      refine Nat.or_lt_two_pow (wb_lt2 (bsd_lt h)) ?_
      split
      · exact ih t
      · exact Nat.two_pow_pos 36
theorem cvt_lt (F : Nat → Nat) (s f i j : Nat) : cvt F s f i j < 2 ^ 36 := by
  unfold cvt
  refine Nat.or_lt_two_pow ?_ ?_
  · split
    · exact b1s_lt _ _ _
    · exact Nat.two_pow_pos 36
  · split
    · exact lln_lt _ _ _ _ _
    · exact Nat.two_pow_pos 36
theorem cvi_lt (F : Nat → Nat) (s f i n : Nat) : cvi F s f i n < 2 ^ 36 := orp_lt (fun _ _ => cvt_lt _ _ _ _ _)
theorem cvo_lt (F : Nat → Nat) (s f n : Nat) : cvo F s f n < 2 ^ 36 := orp_lt (fun _ _ => cvi_lt _ _ _ _ _)
theorem nI_le0 {a : Nat} (h : a < 2 ^ 31) : nI a ≤ 0 ↔ a = 0 := by
  rw [← nI_0, nI_leI h (by decide)]
  omega
theorem nI_nlt0 {a : Nat} (h : a < 2147483648) : ¬ nI a < 0 := nI_nn h
set_option maxRecDepth 20000 in
theorem cv_stop {E : zE} {G : zG} {O : zO} (C : zCx E G c_Lw_covers 11 y_Lw_covers.cls y_Lw_covers.name (some .long) rm_Lw_covers) (q : zEndX E G O rm_Lw_covers.cells rm_Lw_covers.slots)  {F : Nat → Nat} (hF : okF F) {p : Nat → Int32} (hpp : ∀ k, k < 36 → p k = nI (stp (F k))) (h0 : ∀ k, k < 36 → stp (F k) = 0 → F k = 0) {h : aH} {pa : Nat} (hp : h pa = some (10, 36, fun k => .int (p k))) {sz : Nat} {s f i j : Nat} (hs : s < 32) (hf : f < 36) (hi : i < 5) (hj : j < 5) {acc : Nat} (kk : Z E G h sz 0 0 (195, [some (.ref pa), some (.int (nI s)), some (.int (nI f)), some (.long (lN acc)), none, some (.int (rI i)), some (.int (rI j)), none, none, none, none], [])) : Z E G h sz 0 0 (153, [some (.ref pa), some (.int (nI s)), some (.int (nI f)), some (.long (lN acc)), none, some (.int (rI i)), some (.int (rI j)), none, some (.int ((-1))), none, some (.int (nI 1))], []) := by
  refine Z_run C it_Lw_covers 1 (f2 := (155, [some (.ref pa), some (.int (nI s)), some (.int (nI f)), some (.long (lN acc)), none, some (.int (rI i)), some (.int (rI j)), none, some (.int ((-1))), none, some (.int (nI 1))], [.int (nI 1)])) rfl ?_
  refine Z_br C it_Lw_covers rfl rfl (fun hc1 => ?_) (fun hc1 => ?_)
  · exact absurd hc1 (by decide)
  · skip
    refine Z_run C it_Lw_covers 1 (f2 := (160, [some (.ref pa), some (.int (nI s)), some (.int (nI f)), some (.long (lN acc)), none, some (.int (rI i)), some (.int (rI j)), none, some (.int ((-1))), none, some (.int (nI 1))], [.int ((-1))])) rfl ?_
    refine Z_br C it_Lw_covers rfl rfl (fun hc2 => ?_) (fun hc2 => ?_)
    · skip
      refine Z_sub (ls2 := [some (.ref pa), some (.int (nI s)), some (.int (nI f)), some (.long (lN acc)), none, some (.int (rI i)), some (.int (rI j)), none, none, none, none]) ⟨rfl, rfl, rfl, rfl, rfl, rfl, trivial⟩ ?_
      exact kk
    · exact absurd (by decide) hc2
set_option maxRecDepth 20000 in
theorem cv_no {E : zE} {G : zG} {O : zO} (C : zCx E G c_Lw_covers 11 y_Lw_covers.cls y_Lw_covers.name (some .long) rm_Lw_covers) (q : zEndX E G O rm_Lw_covers.cells rm_Lw_covers.slots)  {F : Nat → Nat} (hF : okF F) {p : Nat → Int32} (hpp : ∀ k, k < 36 → p k = nI (stp (F k))) (h0 : ∀ k, k < 36 → stp (F k) = 0 → F k = 0) {h : aH} {pa : Nat} (hp : h pa = some (10, 36, fun k => .int (p k))) {sz : Nat} {s f i j : Nat} (hs : s < 32) (hf : f < 36) (hi : i < 5) (hj : j < 5) {acc : Nat} {x8 : Int32} (kk : Z E G h sz 0 0 (195, [some (.ref pa), some (.int (nI s)), some (.int (nI f)), some (.long (lN acc)), none, some (.int (rI i)), some (.int (rI j)), none, none, none, none], [])) : Z E G h sz 0 0 (153, [some (.ref pa), some (.int (nI s)), some (.int (nI f)), some (.long (lN acc)), none, some (.int (rI i)), some (.int (rI j)), none, some (.int x8), none, some (.int (nI 0))], []) := by
  refine Z_run C it_Lw_covers 1 (f2 := (155, [some (.ref pa), some (.int (nI s)), some (.int (nI f)), some (.long (lN acc)), none, some (.int (rI i)), some (.int (rI j)), none, some (.int x8), none, some (.int (nI 0))], [.int (nI 0)])) rfl ?_
  refine Z_br C it_Lw_covers rfl rfl (fun hc1 => ?_) (fun hc1 => ?_)
  · skip
    refine Z_sub (ls2 := [some (.ref pa), some (.int (nI s)), some (.int (nI f)), some (.long (lN acc)), none, some (.int (rI i)), some (.int (rI j)), none, none, none, none]) ⟨rfl, rfl, rfl, rfl, rfl, rfl, trivial⟩ ?_
    exact kk
  · exact absurd rfl hc1
set_option maxRecDepth 20000 in
theorem lp_cov {E : zE} {G : zG} {O : zO} (C : zCx E G c_Lw_covers 11 y_Lw_covers.cls y_Lw_covers.name (some .long) rm_Lw_covers) (q : zEndX E G O rm_Lw_covers.cells rm_Lw_covers.slots)  {F : Nat → Nat} (hF : okF F) {p : Nat → Int32} (hpp : ∀ k, k < 36 → p k = nI (stp (F k))) (h0 : ∀ k, k < 36 → stp (F k) = 0 → F k = 0) {h : aH} {pa : Nat} (hp : h pa = some (10, 36, fun k => .int (p k))) {sz : Nat} {s f i j : Nat} (hs : s < 32) (hf : f < 36) (hi : i < 5) (hj : j < 5) : ∀ (n g acc : Nat), g < 36 → acc < 2 ^ 36 → offb i j n g = true → Z E G h sz 0 0 (195, [some (.ref pa), some (.int (nI s)), some (.int (nI f)), some (.long (lN (acc ||| lln F i j n g))), none, some (.int (rI i)), some (.int (rI j)), none, none, none, none], []) → Z E G h sz 0 0 (153, [some (.ref pa), some (.int (nI s)), some (.int (nI f)), some (.long (lN acc)), none, some (.int (rI i)), some (.int (rI j)), none, some (.int (oI (bsd g i j))), none, some (.int (nI 1))], []) := by
  intro n
  induction n with
  | zero =>
    intro g acc hg hacc hof kk
    unfold offb at hof
    rw [beq_iff_eq] at hof
    rw [hof]
    unfold lln at kk
    rw [Nat.or_zero] at kk
    exact cv_stop C q hF hpp h0 hp hs hf hi hj kk
  | succ n ih =>
    intro g acc hg hacc hof kk
    unfold offb at hof
    unfold lln at kk
    cases hb : bsd g i j with
    | none =>
      rw [hb] at kk
      dsimp only at kk
      rw [Nat.or_zero] at kk
      exact cv_stop C q hF hpp h0 hp hs hf hi hj kk
    | some t =>
      rw [hb] at kk hof
      dsimp only at kk hof
      have ht := bsd_lt hb
      show Z E G h sz 0 0 (153, [some (.ref pa), some (.int (nI s)), some (.int (nI f)), some (.long (lN acc)), none, some (.int (rI i)), some (.int (rI j)), none, some (.int (nI t)), none, some (.int (nI 1))], [])
      refine Z_run C it_Lw_covers 1 (f2 := (155, [some (.ref pa), some (.int (nI s)), some (.int (nI f)), some (.long (lN acc)), none, some (.int (rI i)), some (.int (rI j)), none, some (.int (nI t)), none, some (.int (nI 1))], [.int (nI 1)])) rfl ?_
      refine Z_br C it_Lw_covers rfl rfl (fun hc1 => ?_) (fun hc1 => ?_)
      · exact absurd hc1 (by decide)
      · skip
        refine Z_run C it_Lw_covers 1 (f2 := (160, [some (.ref pa), some (.int (nI s)), some (.int (nI f)), some (.long (lN acc)), none, some (.int (rI i)), some (.int (rI j)), none, some (.int (nI t)), none, some (.int (nI 1))], [.int (nI t)])) rfl ?_
        refine Z_br C it_Lw_covers rfl rfl (fun hc2 => ?_) (fun hc2 => ?_)
        · exact absurd hc2 (nI_nlt0 (by omega))
        · skip
          refine Z_run C it_Lw_covers 5 (f2 := (169, [some (.ref pa), some (.int (nI s)), some (.int (nI f)), some (.long (lN acc)), none, some (.int (rI i)), some (.int (rI j)), none, some (.int (nI t)), none, some (.int (nI 1))], [.long (lN acc ||| (lN 1 <<< ((nI t).toInt64 &&& 63)))])) rfl ?_
          have e1 : lN acc ||| (lN 1 <<< ((nI t).toInt64 &&& 63)) = lN (acc ||| 2 ^ t) := by rw [wb_shl 1 (by omega), Nat.one_mul, lN_or (by omega) (wb_lt2 (by omega))]
          rw [e1]
          refine Z_run C it_Lw_covers 3 (f2 := (173, [some (.ref pa), some (.int (nI s)), some (.int (nI f)), some (.long (lN (acc ||| 2 ^ t))), none, some (.int (rI i)), some (.int (rI j)), none, some (.int (nI t)), none, some (.int (nI 1))], [.int (nI t), .ref pa])) rfl ?_
          refine Z_ald C it_Lw_covers (tg := 10) rfl hp (by decide) rfl (j := t) (by omega) (by decide) (v := .int (nI (stp (F t)))) (congrArg Value.int (hpp t (by omega))) ?_
          refine Z_br C it_Lw_covers rfl rfl (fun hc3 => ?_) (fun hc3 => ?_)
          · have hFt : F t = 0 := h0 t (by omega) ((nI_le0 (by have := stp_lt (F t); omega)).mp hc3)
            refine Z_run C it_Lw_covers 3 (f2 := (187, [some (.ref pa), some (.int (nI s)), some (.int (nI f)), some (.long (lN (acc ||| 2 ^ t))), none, some (.int (rI i)), some (.int (rI j)), none, some (.int (nI t)), none, some (.int (nI 1))], [.int (rI j), .int (rI i), .int (nI t)])) rfl ?_
            refine Zr_callS C it_Lw_covers rfl p_Lw_beside ml_Lw_10 [.int (nI t), .int (rI i), .int (rI j)] (ct_Lw_beside C.ev C.l t (by omega) i (by omega) j (by omega) h _) rfl rfl ⟨by decide, by decide, by decide, by decide⟩ (Nat.le_of_ble_eq_true rfl) rfl ?_
            show Z E G h sz 0 0 (190, [some (.ref pa), some (.int (nI s)), some (.int (nI f)), some (.long (lN (acc ||| 2 ^ t))), none, some (.int (rI i)), some (.int (rI j)), none, some (.int (nI t)), none, some (.int (nI 1))], [.int (oI (bsd t i j))])
            refine Z_run C it_Lw_covers 2 (f2 := (153, [some (.ref pa), some (.int (nI s)), some (.int (nI f)), some (.long (lN (acc ||| 2 ^ t))), none, some (.int (rI i)), some (.int (rI j)), none, some (.int (oI (bsd t i j))), none, some (.int (nI 1))], [])) rfl ?_
            rw [if_pos hFt, ← Nat.or_assoc] at kk
            exact ih t (acc ||| 2 ^ t) ht (Nat.or_lt_two_pow hacc (wb_lt2 (by omega))) hof kk
          · have hFt : ¬ F t = 0 := fun z => hc3 ((nI_le0 (by have := stp_lt (F t); omega)).mpr (by rw [z]; rfl))
            refine Z_run C it_Lw_covers 4 (f2 := (153, [some (.ref pa), some (.int (nI s)), some (.int (nI f)), some (.long (lN (acc ||| 2 ^ t))), none, some (.int (rI i)), some (.int (rI j)), none, some (.int ((-1))), none, some (.int (nI 1))], [])) rfl ?_
            rw [if_neg hFt, Nat.or_zero] at kk
            exact cv_stop C q hF hpp h0 hp hs hf hi hj kk
set_option maxRecDepth 20000 in
theorem cv_far {E : zE} {G : zG} {O : zO} (C : zCx E G c_Lw_covers 11 y_Lw_covers.cls y_Lw_covers.name (some .long) rm_Lw_covers) (q : zEndX E G O rm_Lw_covers.cells rm_Lw_covers.slots)  {F : Nat → Nat} (hF : okF F) {p : Nat → Int32} (hpp : ∀ k, k < 36 → p k = nI (stp (F k))) (h0 : ∀ k, k < 36 → stp (F k) = 0 → F k = 0) {h : aH} {pa : Nat} (hp : h pa = some (10, 36, fun k => .int (p k))) {sz : Nat} {s f i j : Nat} (hs : s < 32) (hf : f < 36) (hi : i < 5) (hj : j < 5) {acc : Nat} (hacc : acc < 2 ^ 36) (kk : Z E G h sz 0 0 (195, [some (.ref pa), some (.int (nI s)), some (.int (nI f)), some (.long (lN (acc ||| (if frb s i j then lln F i j 5 f else 0)))), none, some (.int (rI i)), some (.int (rI j)), none, none, none, none], [])) : Z E G h sz 0 0 (116, [some (.ref pa), some (.int (nI s)), some (.int (nI f)), some (.long (lN acc)), none, some (.int (rI i)), some (.int (rI j)), some (.int (nI (szz i j))), some (.int (oI (bsd f i j))), none, none], []) := by
  have hz := sz_le i hi j hj
  refine Z_run C it_Lw_covers 2 (f2 := (119, [some (.ref pa), some (.int (nI s)), some (.int (nI f)), some (.long (lN acc)), none, some (.int (rI i)), some (.int (rI j)), some (.int (nI (szz i j))), some (.int (oI (bsd f i j))), none, none], [.int (nI 1), .int (nI (szz i j))])) rfl ?_
  refine Z_br C it_Lw_covers rfl rfl (fun hc1 => ?_) (fun hc1 => ?_)
  · replace hc1 : ¬ _ := fun z9 => hc1 ((nI_eq (a := szz i j) (b := 1) (by omega) (by omega)).mpr z9)
    refine Z_run C it_Lw_covers 2 (f2 := (135, [some (.ref pa), some (.int (nI s)), some (.int (nI f)), some (.long (lN acc)), none, some (.int (rI i)), some (.int (rI j)), some (.int (nI (szz i j))), some (.int (oI (bsd f i j))), none, none], [.int (nI 2), .int (nI (szz i j))])) rfl ?_
    refine Z_br C it_Lw_covers rfl rfl (fun hc2 => ?_) (fun hc2 => ?_)
    · replace hc2 : ¬ _ := fun z9 => hc2 ((nI_eq (a := szz i j) (b := 2) (by omega) (by omega)).mpr z9)
      refine Z_run C it_Lw_covers 2 (f2 := (153, [some (.ref pa), some (.int (nI s)), some (.int (nI f)), some (.long (lN acc)), none, some (.int (rI i)), some (.int (rI j)), some (.int (nI (szz i j))), some (.int (oI (bsd f i j))), none, some (.int (nI 0))], [])) rfl ?_
      have hfb : frb s i j = false := by unfold frb; simp_all
      rw [hfb, if_neg (by decide), Nat.or_zero] at kk
      refine Z_sub (ls2 := [some (.ref pa), some (.int (nI s)), some (.int (nI f)), some (.long (lN acc)), none, some (.int (rI i)), some (.int (rI j)), none, some (.int (oI (bsd f i j))), none, some (.int (nI 0))]) ⟨rfl, rfl, rfl, rfl, rfl, rfl, rfl, rfl, trivial⟩ ?_
      exact cv_no C q hF hpp h0 hp hs hf hi hj kk
    · replace hc2 := Classical.not_not.mp hc2
      replace hc2 := (nI_eq (a := szz i j) (b := 2) (by omega) (by omega)).mp hc2
      refine Z_run C it_Lw_covers 3 (f2 := (142, [some (.ref pa), some (.int (nI s)), some (.int (nI f)), some (.long (lN acc)), none, some (.int (rI i)), some (.int (rI j)), some (.int (nI (szz i j))), some (.int (oI (bsd f i j))), none, none], [.int (nI s / nI 16)])) rfl ?_
      rw [nI_div (a := s) (d := 16) (by omega) (by omega) (by omega)]
      refine Z_run C it_Lw_covers 1 (f2 := (143, [some (.ref pa), some (.int (nI s)), some (.int (nI f)), some (.long (lN acc)), none, some (.int (rI i)), some (.int (rI j)), some (.int (nI (szz i j))), some (.int (oI (bsd f i j))), none, none], [.int (nI 1), .int (nI (s / 16))])) rfl ?_
      refine Z_br C it_Lw_covers rfl rfl (fun hc3 => ?_) (fun hc3 => ?_)
      · replace hc3 : ¬ _ := fun z9 => hc3 ((nI_eq (a := s / 16) (b := 1) (by omega) (by omega)).mpr z9)
        refine Z_run C it_Lw_covers 2 (f2 := (153, [some (.ref pa), some (.int (nI s)), some (.int (nI f)), some (.long (lN acc)), none, some (.int (rI i)), some (.int (rI j)), some (.int (nI (szz i j))), some (.int (oI (bsd f i j))), none, some (.int (nI 0))], [])) rfl ?_
        have hfb : frb s i j = false := by unfold frb; simp_all
        rw [hfb, if_neg (by decide), Nat.or_zero] at kk
        refine Z_sub (ls2 := [some (.ref pa), some (.int (nI s)), some (.int (nI f)), some (.long (lN acc)), none, some (.int (rI i)), some (.int (rI j)), none, some (.int (oI (bsd f i j))), none, some (.int (nI 0))]) ⟨rfl, rfl, rfl, rfl, rfl, rfl, rfl, rfl, trivial⟩ ?_
        exact cv_no C q hF hpp h0 hp hs hf hi hj kk
      · replace hc3 := Classical.not_not.mp hc3
        replace hc3 := (nI_eq (a := s / 16) (b := 1) (by omega) (by omega)).mp hc3
        refine Z_run C it_Lw_covers 3 (f2 := (153, [some (.ref pa), some (.int (nI s)), some (.int (nI f)), some (.long (lN acc)), none, some (.int (rI i)), some (.int (rI j)), some (.int (nI (szz i j))), some (.int (oI (bsd f i j))), none, some (.int (nI 1))], [])) rfl ?_
        have hfb : frb s i j = true := by unfold frb; simp_all
        rw [if_pos hfb] at kk
        refine Z_sub (ls2 := [some (.ref pa), some (.int (nI s)), some (.int (nI f)), some (.long (lN acc)), none, some (.int (rI i)), some (.int (rI j)), none, some (.int (oI (bsd f i j))), none, some (.int (nI 1))]) ⟨rfl, rfl, rfl, rfl, rfl, rfl, rfl, rfl, trivial⟩ ?_
        exact lp_cov C q hF hpp h0 hp hs hf hi hj 5 f acc hf hacc (off_5 hi hj hf hfb) kk
  · replace hc1 := Classical.not_not.mp hc1
    replace hc1 := (nI_eq (a := szz i j) (b := 1) (by omega) (by omega)).mp hc1
    refine Z_run C it_Lw_covers 3 (f2 := (126, [some (.ref pa), some (.int (nI s)), some (.int (nI f)), some (.long (lN acc)), none, some (.int (rI i)), some (.int (rI j)), some (.int (nI (szz i j))), some (.int (oI (bsd f i j))), none, none], [.int (nI s / nI 8)])) rfl ?_
    rw [nI_div (a := s) (d := 8) (by omega) (by omega) (by omega)]
    refine Z_run C it_Lw_covers 2 (f2 := (128, [some (.ref pa), some (.int (nI s)), some (.int (nI f)), some (.long (lN acc)), none, some (.int (rI i)), some (.int (rI j)), some (.int (nI (szz i j))), some (.int (oI (bsd f i j))), none, none], [.int (nI (s / 8) % nI 2)])) rfl ?_
    rw [nI_mod (a := s / 8) (d := 2) (by omega) (by omega) (by omega)]
    refine Z_run C it_Lw_covers 1 (f2 := (129, [some (.ref pa), some (.int (nI s)), some (.int (nI f)), some (.long (lN acc)), none, some (.int (rI i)), some (.int (rI j)), some (.int (nI (szz i j))), some (.int (oI (bsd f i j))), none, none], [.int (nI 1), .int (nI ((s / 8) % 2))])) rfl ?_
    refine Z_br C it_Lw_covers rfl rfl (fun hc4 => ?_) (fun hc4 => ?_)
    · replace hc4 := (nI_eq (a := (s / 8) % 2) (b := 1) (by omega) (by omega)).mp hc4
      refine Z_run C it_Lw_covers 3 (f2 := (153, [some (.ref pa), some (.int (nI s)), some (.int (nI f)), some (.long (lN acc)), none, some (.int (rI i)), some (.int (rI j)), some (.int (nI (szz i j))), some (.int (oI (bsd f i j))), none, some (.int (nI 1))], [])) rfl ?_
      have hfb : frb s i j = true := by unfold frb; simp_all
      rw [if_pos hfb] at kk
      refine Z_sub (ls2 := [some (.ref pa), some (.int (nI s)), some (.int (nI f)), some (.long (lN acc)), none, some (.int (rI i)), some (.int (rI j)), none, some (.int (oI (bsd f i j))), none, some (.int (nI 1))]) ⟨rfl, rfl, rfl, rfl, rfl, rfl, rfl, rfl, trivial⟩ ?_
      exact lp_cov C q hF hpp h0 hp hs hf hi hj 5 f acc hf hacc (off_5 hi hj hf hfb) kk
    · replace hc4 : ¬ _ := fun z9 => hc4 ((nI_eq (a := (s / 8) % 2) (b := 1) (by omega) (by omega)).mpr z9)
      refine Z_run C it_Lw_covers 2 (f2 := (135, [some (.ref pa), some (.int (nI s)), some (.int (nI f)), some (.long (lN acc)), none, some (.int (rI i)), some (.int (rI j)), some (.int (nI (szz i j))), some (.int (oI (bsd f i j))), none, none], [.int (nI 2), .int (nI (szz i j))])) rfl ?_
      refine Z_br C it_Lw_covers rfl rfl (fun hc5 => ?_) (fun hc5 => ?_)
      · replace hc5 : ¬ _ := fun z9 => hc5 ((nI_eq (a := szz i j) (b := 2) (by omega) (by omega)).mpr z9)
        refine Z_run C it_Lw_covers 2 (f2 := (153, [some (.ref pa), some (.int (nI s)), some (.int (nI f)), some (.long (lN acc)), none, some (.int (rI i)), some (.int (rI j)), some (.int (nI (szz i j))), some (.int (oI (bsd f i j))), none, some (.int (nI 0))], [])) rfl ?_
        have hfb : frb s i j = false := by unfold frb; simp_all
        rw [hfb, if_neg (by decide), Nat.or_zero] at kk
        refine Z_sub (ls2 := [some (.ref pa), some (.int (nI s)), some (.int (nI f)), some (.long (lN acc)), none, some (.int (rI i)), some (.int (rI j)), none, some (.int (oI (bsd f i j))), none, some (.int (nI 0))]) ⟨rfl, rfl, rfl, rfl, rfl, rfl, rfl, rfl, trivial⟩ ?_
        exact cv_no C q hF hpp h0 hp hs hf hi hj kk
      · replace hc5 := Classical.not_not.mp hc5
        replace hc5 := (nI_eq (a := szz i j) (b := 2) (by omega) (by omega)).mp hc5
        refine Z_run C it_Lw_covers 3 (f2 := (142, [some (.ref pa), some (.int (nI s)), some (.int (nI f)), some (.long (lN acc)), none, some (.int (rI i)), some (.int (rI j)), some (.int (nI (szz i j))), some (.int (oI (bsd f i j))), none, none], [.int (nI s / nI 16)])) rfl ?_
        rw [nI_div (a := s) (d := 16) (by omega) (by omega) (by omega)]
        refine Z_run C it_Lw_covers 1 (f2 := (143, [some (.ref pa), some (.int (nI s)), some (.int (nI f)), some (.long (lN acc)), none, some (.int (rI i)), some (.int (rI j)), some (.int (nI (szz i j))), some (.int (oI (bsd f i j))), none, none], [.int (nI 1), .int (nI (s / 16))])) rfl ?_
        refine Z_br C it_Lw_covers rfl rfl (fun hc6 => ?_) (fun hc6 => ?_)
        · replace hc6 : ¬ _ := fun z9 => hc6 ((nI_eq (a := s / 16) (b := 1) (by omega) (by omega)).mpr z9)
          refine Z_run C it_Lw_covers 2 (f2 := (153, [some (.ref pa), some (.int (nI s)), some (.int (nI f)), some (.long (lN acc)), none, some (.int (rI i)), some (.int (rI j)), some (.int (nI (szz i j))), some (.int (oI (bsd f i j))), none, some (.int (nI 0))], [])) rfl ?_
          have hfb : frb s i j = false := by unfold frb; simp_all
          rw [hfb, if_neg (by decide), Nat.or_zero] at kk
          refine Z_sub (ls2 := [some (.ref pa), some (.int (nI s)), some (.int (nI f)), some (.long (lN acc)), none, some (.int (rI i)), some (.int (rI j)), none, some (.int (oI (bsd f i j))), none, some (.int (nI 0))]) ⟨rfl, rfl, rfl, rfl, rfl, rfl, rfl, rfl, trivial⟩ ?_
          exact cv_no C q hF hpp h0 hp hs hf hi hj kk
        · replace hc6 := Classical.not_not.mp hc6
          replace hc6 := (nI_eq (a := s / 16) (b := 1) (by omega) (by omega)).mp hc6
          refine Z_run C it_Lw_covers 3 (f2 := (153, [some (.ref pa), some (.int (nI s)), some (.int (nI f)), some (.long (lN acc)), none, some (.int (rI i)), some (.int (rI j)), some (.int (nI (szz i j))), some (.int (oI (bsd f i j))), none, some (.int (nI 1))], [])) rfl ?_
          have hfb : frb s i j = true := by unfold frb; simp_all
          rw [if_pos hfb] at kk
          refine Z_sub (ls2 := [some (.ref pa), some (.int (nI s)), some (.int (nI f)), some (.long (lN acc)), none, some (.int (rI i)), some (.int (rI j)), none, some (.int (oI (bsd f i j))), none, some (.int (nI 1))]) ⟨rfl, rfl, rfl, rfl, rfl, rfl, rfl, rfl, trivial⟩ ?_
          exact lp_cov C q hF hpp h0 hp hs hf hi hj 5 f acc hf hacc (off_5 hi hj hf hfb) kk
set_option maxRecDepth 20000 in
theorem cv_near {E : zE} {G : zG} {O : zO} (C : zCx E G c_Lw_covers 11 y_Lw_covers.cls y_Lw_covers.name (some .long) rm_Lw_covers) (q : zEndX E G O rm_Lw_covers.cells rm_Lw_covers.slots)  {F : Nat → Nat} (hF : okF F) {p : Nat → Int32} (hpp : ∀ k, k < 36 → p k = nI (stp (F k))) (h0 : ∀ k, k < 36 → stp (F k) = 0 → F k = 0) {h : aH} {pa : Nat} (hp : h pa = some (10, 36, fun k => .int (p k))) {sz : Nat} {s f i j : Nat} (hs : s < 32) (hf : f < 36) (hi : i < 5) (hj : j < 5) {acc : Nat} {b : Bool} (hacc : acc < 2 ^ 36) (kk : Z E G h sz 0 0 (195, [some (.ref pa), some (.int (nI s)), some (.int (nI f)), some (.long (lN ((acc ||| (if b then b1s f i j else 0)) ||| (if frb s i j then lln F i j 5 f else 0)))), none, some (.int (rI i)), some (.int (rI j)), none, none, none, none], [])) : Z E G h sz 0 0 (95, [some (.ref pa), some (.int (nI s)), some (.int (nI f)), some (.long (lN acc)), none, some (.int (rI i)), some (.int (rI j)), some (.int (nI (szz i j))), some (.int (oI (bsd f i j))), some (.int (bI b)), none], []) := by
  have hacc2 : acc ||| (if b then b1s f i j else 0) < 2 ^ 36 := Nat.or_lt_two_pow hacc (by split; exact b1s_lt _ _ _; exact Nat.two_pow_pos 36)
  cases hb : bsd f i j with
  | none =>
    show Z E G h sz 0 0 (95, [some (.ref pa), some (.int (nI s)), some (.int (nI f)), some (.long (lN acc)), none, some (.int (rI i)), some (.int (rI j)), some (.int (nI (szz i j))), some (.int ((-1))), some (.int (bI b)), none], [])
    refine Z_run C it_Lw_covers 2 (f2 := (98, [some (.ref pa), some (.int (nI s)), some (.int (nI f)), some (.long (lN acc)), none, some (.int (rI i)), some (.int (rI j)), some (.int (nI (szz i j))), some (.int ((-1))), some (.int (bI b)), none], [.int (bI b), .long (lN acc)])) rfl ?_
    refine Z_br C it_Lw_covers rfl rfl (fun hc1 => ?_) (fun hc1 => ?_)
    · replace hc1 := bI_0.mp hc1
      refine Z_run C it_Lw_covers 3 (f2 := (116, [some (.ref pa), some (.int (nI s)), some (.int (nI f)), some (.long (lN acc ||| lN 0)), none, some (.int (rI i)), some (.int (rI j)), some (.int (nI (szz i j))), some (.int ((-1))), some (.int (bI b)), none], [])) rfl ?_
      have e9 : lN acc ||| lN 0 = lN (acc ||| (if b then b1s f i j else 0)) := by
        rw [lN_or (by omega) (by decide)]; (first | rw [if_neg (by rw [hc1]; decide)] | (unfold b1s; rw [hb]; (first | rw [if_pos hc1] | skip)))
      rw [e9]
      refine Z_sub (ls2 := [some (.ref pa), some (.int (nI s)), some (.int (nI f)), some (.long (lN (acc ||| (if b then b1s f i j else 0)))), none, some (.int (rI i)), some (.int (rI j)), some (.int (nI (szz i j))), some (.int ((-1))), none, none]) ⟨rfl, rfl, rfl, rfl, rfl, rfl, rfl, rfl, trivial⟩ ?_
      have hb9 : (-1) = oI (bsd f i j) := by rw [hb]; rfl
      rw [hb9]
      exact cv_far C q hF hpp h0 hp hs hf hi hj hacc2 kk
    · replace hc1 := bI_1.mp hc1
      refine Z_run C it_Lw_covers 1 (f2 := (103, [some (.ref pa), some (.int (nI s)), some (.int (nI f)), some (.long (lN acc)), none, some (.int (rI i)), some (.int (rI j)), some (.int (nI (szz i j))), some (.int ((-1))), some (.int (bI b)), none], [.int ((-1)), .long (lN acc)])) rfl ?_
      refine Z_br C it_Lw_covers rfl rfl (fun hc2 => ?_) (fun hc2 => ?_)
      · skip
        refine Z_run C it_Lw_covers 3 (f2 := (116, [some (.ref pa), some (.int (nI s)), some (.int (nI f)), some (.long (lN acc ||| lN 0)), none, some (.int (rI i)), some (.int (rI j)), some (.int (nI (szz i j))), some (.int ((-1))), some (.int (bI b)), none], [])) rfl ?_
        have e9 : lN acc ||| lN 0 = lN (acc ||| (if b then b1s f i j else 0)) := by
          rw [lN_or (by omega) (by decide)]; (first | rw [if_neg (by rw [hc1]; decide)] | (unfold b1s; rw [hb]; (first | rw [if_pos hc1] | skip)))
        rw [e9]
        refine Z_sub (ls2 := [some (.ref pa), some (.int (nI s)), some (.int (nI f)), some (.long (lN (acc ||| (if b then b1s f i j else 0)))), none, some (.int (rI i)), some (.int (rI j)), some (.int (nI (szz i j))), some (.int ((-1))), none, none]) ⟨rfl, rfl, rfl, rfl, rfl, rfl, rfl, rfl, trivial⟩ ?_
        have hb9 : (-1) = oI (bsd f i j) := by rw [hb]; rfl
        rw [hb9]
        exact cv_far C q hF hpp h0 hp hs hf hi hj hacc2 kk
      · exact absurd (by decide) hc2
  | some t =>
    have ht := bsd_lt hb
    show Z E G h sz 0 0 (95, [some (.ref pa), some (.int (nI s)), some (.int (nI f)), some (.long (lN acc)), none, some (.int (rI i)), some (.int (rI j)), some (.int (nI (szz i j))), some (.int (nI t)), some (.int (bI b)), none], [])
    refine Z_run C it_Lw_covers 2 (f2 := (98, [some (.ref pa), some (.int (nI s)), some (.int (nI f)), some (.long (lN acc)), none, some (.int (rI i)), some (.int (rI j)), some (.int (nI (szz i j))), some (.int (nI t)), some (.int (bI b)), none], [.int (bI b), .long (lN acc)])) rfl ?_
    refine Z_br C it_Lw_covers rfl rfl (fun hc1 => ?_) (fun hc1 => ?_)
    · replace hc1 := bI_0.mp hc1
      refine Z_run C it_Lw_covers 3 (f2 := (116, [some (.ref pa), some (.int (nI s)), some (.int (nI f)), some (.long (lN acc ||| lN 0)), none, some (.int (rI i)), some (.int (rI j)), some (.int (nI (szz i j))), some (.int (nI t)), some (.int (bI b)), none], [])) rfl ?_
      have e9 : lN acc ||| lN 0 = lN (acc ||| (if b then b1s f i j else 0)) := by
        rw [lN_or (by omega) (by decide)]; (first | rw [if_neg (by rw [hc1]; decide)] | (unfold b1s; rw [hb]; (first | rw [if_pos hc1] | skip)))
      rw [e9]
      refine Z_sub (ls2 := [some (.ref pa), some (.int (nI s)), some (.int (nI f)), some (.long (lN (acc ||| (if b then b1s f i j else 0)))), none, some (.int (rI i)), some (.int (rI j)), some (.int (nI (szz i j))), some (.int (nI t)), none, none]) ⟨rfl, rfl, rfl, rfl, rfl, rfl, rfl, rfl, trivial⟩ ?_
      have hb9 : nI t = oI (bsd f i j) := by rw [hb]; rfl
      rw [hb9]
      exact cv_far C q hF hpp h0 hp hs hf hi hj hacc2 kk
    · replace hc1 := bI_1.mp hc1
      refine Z_run C it_Lw_covers 1 (f2 := (103, [some (.ref pa), some (.int (nI s)), some (.int (nI f)), some (.long (lN acc)), none, some (.int (rI i)), some (.int (rI j)), some (.int (nI (szz i j))), some (.int (nI t)), some (.int (bI b)), none], [.int (nI t), .long (lN acc)])) rfl ?_
      refine Z_br C it_Lw_covers rfl rfl (fun hc2 => ?_) (fun hc2 => ?_)
      · exact absurd hc2 (nI_nlt0 (by omega))
      · skip
        refine Z_run C it_Lw_covers 6 (f2 := (116, [some (.ref pa), some (.int (nI s)), some (.int (nI f)), some (.long (lN acc ||| (lN 1 <<< ((nI t).toInt64 &&& 63)))), none, some (.int (rI i)), some (.int (rI j)), some (.int (nI (szz i j))), some (.int (nI t)), some (.int (bI b)), none], [])) rfl ?_
        have e9 : lN acc ||| (lN 1 <<< ((nI t).toInt64 &&& 63)) = lN (acc ||| (if b then b1s f i j else 0)) := by
          rw [wb_shl 1 (by omega), Nat.one_mul, lN_or (by omega) (wb_lt2 (by omega)), if_pos hc1]; unfold b1s; rw [hb]
        rw [e9]
        refine Z_sub (ls2 := [some (.ref pa), some (.int (nI s)), some (.int (nI f)), some (.long (lN (acc ||| (if b then b1s f i j else 0)))), none, some (.int (rI i)), some (.int (rI j)), some (.int (nI (szz i j))), some (.int (nI t)), none, none]) ⟨rfl, rfl, rfl, rfl, rfl, rfl, rfl, rfl, trivial⟩ ?_
        have hb9 : nI t = oI (bsd f i j) := by rw [hb]; rfl
        rw [hb9]
        exact cv_far C q hF hpp h0 hp hs hf hi hj hacc2 kk
set_option maxRecDepth 20000 in
theorem cv_45 {E : zE} {G : zG} {O : zO} (C : zCx E G c_Lw_covers 11 y_Lw_covers.cls y_Lw_covers.name (some .long) rm_Lw_covers) (q : zEndX E G O rm_Lw_covers.cells rm_Lw_covers.slots)  {F : Nat → Nat} (hF : okF F) {p : Nat → Int32} (hpp : ∀ k, k < 36 → p k = nI (stp (F k))) (h0 : ∀ k, k < 36 → stp (F k) = 0 → F k = 0) {h : aH} {pa : Nat} (hp : h pa = some (10, 36, fun k => .int (p k))) {sz : Nat} {s f i j : Nat} (hs : s < 32) (hf : f < 36) (hi : i < 5) (hj : j < 5) {acc : Nat} (hacc : acc < 2 ^ 36) (kk : Z E G h sz 0 0 (195, [some (.ref pa), some (.int (nI s)), some (.int (nI f)), some (.long (lN ((acc ||| (if nrb s i j then b1s f i j else 0)) ||| (if frb s i j then lln F i j 5 f else 0)))), none, some (.int (rI i)), some (.int (rI j)), none, none, none, none], [])) : Z E G h sz 0 0 (45, [some (.ref pa), some (.int (nI s)), some (.int (nI f)), some (.long (lN acc)), none, some (.int (rI i)), some (.int (rI j)), some (.int (nI (szz i j))), some (.int (oI (bsd f i j))), none, none], []) := by
  have hz := sz_le i hi j hj
  refine Z_run C it_Lw_covers 2 (f2 := (48, [some (.ref pa), some (.int (nI s)), some (.int (nI f)), some (.long (lN acc)), none, some (.int (rI i)), some (.int (rI j)), some (.int (nI (szz i j))), some (.int (oI (bsd f i j))), none, none], [.int (nI 1), .int (nI (szz i j))])) rfl ?_
  refine Z_br C it_Lw_covers rfl rfl (fun hc1 => ?_) (fun hc1 => ?_)
  · replace hc1 : ¬ _ := fun z9 => hc1 ((nI_eq (a := szz i j) (b := 1) (by omega) (by omega)).mpr z9)
    refine Z_run C it_Lw_covers 2 (f2 := (61, [some (.ref pa), some (.int (nI s)), some (.int (nI f)), some (.long (lN acc)), none, some (.int (rI i)), some (.int (rI j)), some (.int (nI (szz i j))), some (.int (oI (bsd f i j))), none, none], [.int (nI 2), .int (nI (szz i j))])) rfl ?_
    refine Z_br C it_Lw_covers rfl rfl (fun hc2 => ?_) (fun hc2 => ?_)
    · replace hc2 : ¬ _ := fun z9 => hc2 ((nI_eq (a := szz i j) (b := 2) (by omega) (by omega)).mpr z9)
      refine Z_run C it_Lw_covers 2 (f2 := (76, [some (.ref pa), some (.int (nI s)), some (.int (nI f)), some (.long (lN acc)), none, some (.int (rI i)), some (.int (rI j)), some (.int (nI (szz i j))), some (.int (oI (bsd f i j))), none, none], [.int (nI 5), .int (nI (szz i j))])) rfl ?_
      refine Z_br C it_Lw_covers rfl rfl (fun hc3 => ?_) (fun hc3 => ?_)
      · replace hc3 : ¬ _ := fun z9 => hc3 ((nI_eq (a := szz i j) (b := 5) (by omega) (by omega)).mpr z9)
        refine Z_run C it_Lw_covers 2 (f2 := (95, [some (.ref pa), some (.int (nI s)), some (.int (nI f)), some (.long (lN acc)), none, some (.int (rI i)), some (.int (rI j)), some (.int (nI (szz i j))), some (.int (oI (bsd f i j))), some (.int (nI 0)), none], [])) rfl ?_
        have hnb : nI 0 = bI (nrb s i j) := bI_f (by unfold nrb; simp_all)
        rw [hnb]
        exact cv_near C q hF hpp h0 hp hs hf hi hj hacc kk
      · replace hc3 := Classical.not_not.mp hc3
        replace hc3 := (nI_eq (a := szz i j) (b := 5) (by omega) (by omega)).mp hc3
        refine Z_run C it_Lw_covers 3 (f2 := (82, [some (.ref pa), some (.int (nI s)), some (.int (nI f)), some (.long (lN acc)), none, some (.int (rI i)), some (.int (rI j)), some (.int (nI (szz i j))), some (.int (oI (bsd f i j))), none, none], [.int (nI s / nI 4)])) rfl ?_
        rw [nI_div (a := s) (d := 4) (by omega) (by omega) (by omega)]
        refine Z_run C it_Lw_covers 2 (f2 := (84, [some (.ref pa), some (.int (nI s)), some (.int (nI f)), some (.long (lN acc)), none, some (.int (rI i)), some (.int (rI j)), some (.int (nI (szz i j))), some (.int (oI (bsd f i j))), none, none], [.int (nI (s / 4) % nI 2)])) rfl ?_
        rw [nI_mod (a := s / 4) (d := 2) (by omega) (by omega) (by omega)]
        refine Z_run C it_Lw_covers 1 (f2 := (85, [some (.ref pa), some (.int (nI s)), some (.int (nI f)), some (.long (lN acc)), none, some (.int (rI i)), some (.int (rI j)), some (.int (nI (szz i j))), some (.int (oI (bsd f i j))), none, none], [.int (nI 1), .int (nI ((s / 4) % 2))])) rfl ?_
        refine Z_br C it_Lw_covers rfl rfl (fun hc4 => ?_) (fun hc4 => ?_)
        · replace hc4 : ¬ _ := fun z9 => hc4 ((nI_eq (a := (s / 4) % 2) (b := 1) (by omega) (by omega)).mpr z9)
          refine Z_run C it_Lw_covers 2 (f2 := (95, [some (.ref pa), some (.int (nI s)), some (.int (nI f)), some (.long (lN acc)), none, some (.int (rI i)), some (.int (rI j)), some (.int (nI (szz i j))), some (.int (oI (bsd f i j))), some (.int (nI 0)), none], [])) rfl ?_
          have hnb : nI 0 = bI (nrb s i j) := bI_f (by unfold nrb; simp_all)
          rw [hnb]
          exact cv_near C q hF hpp h0 hp hs hf hi hj hacc kk
        · replace hc4 := Classical.not_not.mp hc4
          replace hc4 := (nI_eq (a := (s / 4) % 2) (b := 1) (by omega) (by omega)).mp hc4
          refine Z_run C it_Lw_covers 3 (f2 := (95, [some (.ref pa), some (.int (nI s)), some (.int (nI f)), some (.long (lN acc)), none, some (.int (rI i)), some (.int (rI j)), some (.int (nI (szz i j))), some (.int (oI (bsd f i j))), some (.int (nI 1)), none], [])) rfl ?_
          have hnb : nI 1 = bI (nrb s i j) := bI_t (by unfold nrb; simp_all)
          rw [hnb]
          exact cv_near C q hF hpp h0 hp hs hf hi hj hacc kk
    · replace hc2 := Classical.not_not.mp hc2
      replace hc2 := (nI_eq (a := szz i j) (b := 2) (by omega) (by omega)).mp hc2
      refine Z_run C it_Lw_covers 3 (f2 := (67, [some (.ref pa), some (.int (nI s)), some (.int (nI f)), some (.long (lN acc)), none, some (.int (rI i)), some (.int (rI j)), some (.int (nI (szz i j))), some (.int (oI (bsd f i j))), none, none], [.int (nI s / nI 2)])) rfl ?_
      rw [nI_div (a := s) (d := 2) (by omega) (by omega) (by omega)]
      refine Z_run C it_Lw_covers 2 (f2 := (69, [some (.ref pa), some (.int (nI s)), some (.int (nI f)), some (.long (lN acc)), none, some (.int (rI i)), some (.int (rI j)), some (.int (nI (szz i j))), some (.int (oI (bsd f i j))), none, none], [.int (nI (s / 2) % nI 2)])) rfl ?_
      rw [nI_mod (a := s / 2) (d := 2) (by omega) (by omega) (by omega)]
      refine Z_run C it_Lw_covers 1 (f2 := (70, [some (.ref pa), some (.int (nI s)), some (.int (nI f)), some (.long (lN acc)), none, some (.int (rI i)), some (.int (rI j)), some (.int (nI (szz i j))), some (.int (oI (bsd f i j))), none, none], [.int (nI 1), .int (nI ((s / 2) % 2))])) rfl ?_
      refine Z_br C it_Lw_covers rfl rfl (fun hc5 => ?_) (fun hc5 => ?_)
      · replace hc5 := (nI_eq (a := (s / 2) % 2) (b := 1) (by omega) (by omega)).mp hc5
        refine Z_run C it_Lw_covers 3 (f2 := (95, [some (.ref pa), some (.int (nI s)), some (.int (nI f)), some (.long (lN acc)), none, some (.int (rI i)), some (.int (rI j)), some (.int (nI (szz i j))), some (.int (oI (bsd f i j))), some (.int (nI 1)), none], [])) rfl ?_
        have hnb : nI 1 = bI (nrb s i j) := bI_t (by unfold nrb; simp_all)
        rw [hnb]
        exact cv_near C q hF hpp h0 hp hs hf hi hj hacc kk
      · replace hc5 : ¬ _ := fun z9 => hc5 ((nI_eq (a := (s / 2) % 2) (b := 1) (by omega) (by omega)).mpr z9)
        refine Z_run C it_Lw_covers 2 (f2 := (76, [some (.ref pa), some (.int (nI s)), some (.int (nI f)), some (.long (lN acc)), none, some (.int (rI i)), some (.int (rI j)), some (.int (nI (szz i j))), some (.int (oI (bsd f i j))), none, none], [.int (nI 5), .int (nI (szz i j))])) rfl ?_
        refine Z_br C it_Lw_covers rfl rfl (fun hc6 => ?_) (fun hc6 => ?_)
        · replace hc6 : ¬ _ := fun z9 => hc6 ((nI_eq (a := szz i j) (b := 5) (by omega) (by omega)).mpr z9)
          refine Z_run C it_Lw_covers 2 (f2 := (95, [some (.ref pa), some (.int (nI s)), some (.int (nI f)), some (.long (lN acc)), none, some (.int (rI i)), some (.int (rI j)), some (.int (nI (szz i j))), some (.int (oI (bsd f i j))), some (.int (nI 0)), none], [])) rfl ?_
          have hnb : nI 0 = bI (nrb s i j) := bI_f (by unfold nrb; simp_all)
          rw [hnb]
          exact cv_near C q hF hpp h0 hp hs hf hi hj hacc kk
        · replace hc6 := Classical.not_not.mp hc6
          replace hc6 := (nI_eq (a := szz i j) (b := 5) (by omega) (by omega)).mp hc6
          refine Z_run C it_Lw_covers 3 (f2 := (82, [some (.ref pa), some (.int (nI s)), some (.int (nI f)), some (.long (lN acc)), none, some (.int (rI i)), some (.int (rI j)), some (.int (nI (szz i j))), some (.int (oI (bsd f i j))), none, none], [.int (nI s / nI 4)])) rfl ?_
          rw [nI_div (a := s) (d := 4) (by omega) (by omega) (by omega)]
          refine Z_run C it_Lw_covers 2 (f2 := (84, [some (.ref pa), some (.int (nI s)), some (.int (nI f)), some (.long (lN acc)), none, some (.int (rI i)), some (.int (rI j)), some (.int (nI (szz i j))), some (.int (oI (bsd f i j))), none, none], [.int (nI (s / 4) % nI 2)])) rfl ?_
          rw [nI_mod (a := s / 4) (d := 2) (by omega) (by omega) (by omega)]
          refine Z_run C it_Lw_covers 1 (f2 := (85, [some (.ref pa), some (.int (nI s)), some (.int (nI f)), some (.long (lN acc)), none, some (.int (rI i)), some (.int (rI j)), some (.int (nI (szz i j))), some (.int (oI (bsd f i j))), none, none], [.int (nI 1), .int (nI ((s / 4) % 2))])) rfl ?_
          refine Z_br C it_Lw_covers rfl rfl (fun hc7 => ?_) (fun hc7 => ?_)
          · replace hc7 : ¬ _ := fun z9 => hc7 ((nI_eq (a := (s / 4) % 2) (b := 1) (by omega) (by omega)).mpr z9)
            refine Z_run C it_Lw_covers 2 (f2 := (95, [some (.ref pa), some (.int (nI s)), some (.int (nI f)), some (.long (lN acc)), none, some (.int (rI i)), some (.int (rI j)), some (.int (nI (szz i j))), some (.int (oI (bsd f i j))), some (.int (nI 0)), none], [])) rfl ?_
            have hnb : nI 0 = bI (nrb s i j) := bI_f (by unfold nrb; simp_all)
            rw [hnb]
            exact cv_near C q hF hpp h0 hp hs hf hi hj hacc kk
          · replace hc7 := Classical.not_not.mp hc7
            replace hc7 := (nI_eq (a := (s / 4) % 2) (b := 1) (by omega) (by omega)).mp hc7
            refine Z_run C it_Lw_covers 3 (f2 := (95, [some (.ref pa), some (.int (nI s)), some (.int (nI f)), some (.long (lN acc)), none, some (.int (rI i)), some (.int (rI j)), some (.int (nI (szz i j))), some (.int (oI (bsd f i j))), some (.int (nI 1)), none], [])) rfl ?_
            have hnb : nI 1 = bI (nrb s i j) := bI_t (by unfold nrb; simp_all)
            rw [hnb]
            exact cv_near C q hF hpp h0 hp hs hf hi hj hacc kk
  · replace hc1 := Classical.not_not.mp hc1
    replace hc1 := (nI_eq (a := szz i j) (b := 1) (by omega) (by omega)).mp hc1
    refine Z_run C it_Lw_covers 3 (f2 := (54, [some (.ref pa), some (.int (nI s)), some (.int (nI f)), some (.long (lN acc)), none, some (.int (rI i)), some (.int (rI j)), some (.int (nI (szz i j))), some (.int (oI (bsd f i j))), none, none], [.int (nI s % nI 2)])) rfl ?_
    rw [nI_mod (a := s) (d := 2) (by omega) (by omega) (by omega)]
    refine Z_run C it_Lw_covers 1 (f2 := (55, [some (.ref pa), some (.int (nI s)), some (.int (nI f)), some (.long (lN acc)), none, some (.int (rI i)), some (.int (rI j)), some (.int (nI (szz i j))), some (.int (oI (bsd f i j))), none, none], [.int (nI 1), .int (nI (s % 2))])) rfl ?_
    refine Z_br C it_Lw_covers rfl rfl (fun hc8 => ?_) (fun hc8 => ?_)
    · replace hc8 := (nI_eq (a := s % 2) (b := 1) (by omega) (by omega)).mp hc8
      refine Z_run C it_Lw_covers 3 (f2 := (95, [some (.ref pa), some (.int (nI s)), some (.int (nI f)), some (.long (lN acc)), none, some (.int (rI i)), some (.int (rI j)), some (.int (nI (szz i j))), some (.int (oI (bsd f i j))), some (.int (nI 1)), none], [])) rfl ?_
      have hnb : nI 1 = bI (nrb s i j) := bI_t (by unfold nrb; simp_all)
      rw [hnb]
      exact cv_near C q hF hpp h0 hp hs hf hi hj hacc kk
    · replace hc8 : ¬ _ := fun z9 => hc8 ((nI_eq (a := s % 2) (b := 1) (by omega) (by omega)).mpr z9)
      refine Z_run C it_Lw_covers 2 (f2 := (61, [some (.ref pa), some (.int (nI s)), some (.int (nI f)), some (.long (lN acc)), none, some (.int (rI i)), some (.int (rI j)), some (.int (nI (szz i j))), some (.int (oI (bsd f i j))), none, none], [.int (nI 2), .int (nI (szz i j))])) rfl ?_
      refine Z_br C it_Lw_covers rfl rfl (fun hc9 => ?_) (fun hc9 => ?_)
      · replace hc9 : ¬ _ := fun z9 => hc9 ((nI_eq (a := szz i j) (b := 2) (by omega) (by omega)).mpr z9)
        refine Z_run C it_Lw_covers 2 (f2 := (76, [some (.ref pa), some (.int (nI s)), some (.int (nI f)), some (.long (lN acc)), none, some (.int (rI i)), some (.int (rI j)), some (.int (nI (szz i j))), some (.int (oI (bsd f i j))), none, none], [.int (nI 5), .int (nI (szz i j))])) rfl ?_
        refine Z_br C it_Lw_covers rfl rfl (fun hc10 => ?_) (fun hc10 => ?_)
        · replace hc10 : ¬ _ := fun z9 => hc10 ((nI_eq (a := szz i j) (b := 5) (by omega) (by omega)).mpr z9)
          refine Z_run C it_Lw_covers 2 (f2 := (95, [some (.ref pa), some (.int (nI s)), some (.int (nI f)), some (.long (lN acc)), none, some (.int (rI i)), some (.int (rI j)), some (.int (nI (szz i j))), some (.int (oI (bsd f i j))), some (.int (nI 0)), none], [])) rfl ?_
          have hnb : nI 0 = bI (nrb s i j) := bI_f (by unfold nrb; simp_all)
          rw [hnb]
          exact cv_near C q hF hpp h0 hp hs hf hi hj hacc kk
        · replace hc10 := Classical.not_not.mp hc10
          replace hc10 := (nI_eq (a := szz i j) (b := 5) (by omega) (by omega)).mp hc10
          refine Z_run C it_Lw_covers 3 (f2 := (82, [some (.ref pa), some (.int (nI s)), some (.int (nI f)), some (.long (lN acc)), none, some (.int (rI i)), some (.int (rI j)), some (.int (nI (szz i j))), some (.int (oI (bsd f i j))), none, none], [.int (nI s / nI 4)])) rfl ?_
          rw [nI_div (a := s) (d := 4) (by omega) (by omega) (by omega)]
          refine Z_run C it_Lw_covers 2 (f2 := (84, [some (.ref pa), some (.int (nI s)), some (.int (nI f)), some (.long (lN acc)), none, some (.int (rI i)), some (.int (rI j)), some (.int (nI (szz i j))), some (.int (oI (bsd f i j))), none, none], [.int (nI (s / 4) % nI 2)])) rfl ?_
          rw [nI_mod (a := s / 4) (d := 2) (by omega) (by omega) (by omega)]
          refine Z_run C it_Lw_covers 1 (f2 := (85, [some (.ref pa), some (.int (nI s)), some (.int (nI f)), some (.long (lN acc)), none, some (.int (rI i)), some (.int (rI j)), some (.int (nI (szz i j))), some (.int (oI (bsd f i j))), none, none], [.int (nI 1), .int (nI ((s / 4) % 2))])) rfl ?_
          refine Z_br C it_Lw_covers rfl rfl (fun hc11 => ?_) (fun hc11 => ?_)
          · replace hc11 : ¬ _ := fun z9 => hc11 ((nI_eq (a := (s / 4) % 2) (b := 1) (by omega) (by omega)).mpr z9)
            refine Z_run C it_Lw_covers 2 (f2 := (95, [some (.ref pa), some (.int (nI s)), some (.int (nI f)), some (.long (lN acc)), none, some (.int (rI i)), some (.int (rI j)), some (.int (nI (szz i j))), some (.int (oI (bsd f i j))), some (.int (nI 0)), none], [])) rfl ?_
            have hnb : nI 0 = bI (nrb s i j) := bI_f (by unfold nrb; simp_all)
            rw [hnb]
            exact cv_near C q hF hpp h0 hp hs hf hi hj hacc kk
          · replace hc11 := Classical.not_not.mp hc11
            replace hc11 := (nI_eq (a := (s / 4) % 2) (b := 1) (by omega) (by omega)).mp hc11
            refine Z_run C it_Lw_covers 3 (f2 := (95, [some (.ref pa), some (.int (nI s)), some (.int (nI f)), some (.long (lN acc)), none, some (.int (rI i)), some (.int (rI j)), some (.int (nI (szz i j))), some (.int (oI (bsd f i j))), some (.int (nI 1)), none], [])) rfl ?_
            have hnb : nI 1 = bI (nrb s i j) := bI_t (by unfold nrb; simp_all)
            rw [hnb]
            exact cv_near C q hF hpp h0 hp hs hf hi hj hacc kk
      · replace hc9 := Classical.not_not.mp hc9
        replace hc9 := (nI_eq (a := szz i j) (b := 2) (by omega) (by omega)).mp hc9
        refine Z_run C it_Lw_covers 3 (f2 := (67, [some (.ref pa), some (.int (nI s)), some (.int (nI f)), some (.long (lN acc)), none, some (.int (rI i)), some (.int (rI j)), some (.int (nI (szz i j))), some (.int (oI (bsd f i j))), none, none], [.int (nI s / nI 2)])) rfl ?_
        rw [nI_div (a := s) (d := 2) (by omega) (by omega) (by omega)]
        refine Z_run C it_Lw_covers 2 (f2 := (69, [some (.ref pa), some (.int (nI s)), some (.int (nI f)), some (.long (lN acc)), none, some (.int (rI i)), some (.int (rI j)), some (.int (nI (szz i j))), some (.int (oI (bsd f i j))), none, none], [.int (nI (s / 2) % nI 2)])) rfl ?_
        rw [nI_mod (a := s / 2) (d := 2) (by omega) (by omega) (by omega)]
        refine Z_run C it_Lw_covers 1 (f2 := (70, [some (.ref pa), some (.int (nI s)), some (.int (nI f)), some (.long (lN acc)), none, some (.int (rI i)), some (.int (rI j)), some (.int (nI (szz i j))), some (.int (oI (bsd f i j))), none, none], [.int (nI 1), .int (nI ((s / 2) % 2))])) rfl ?_
        refine Z_br C it_Lw_covers rfl rfl (fun hc12 => ?_) (fun hc12 => ?_)
        · replace hc12 := (nI_eq (a := (s / 2) % 2) (b := 1) (by omega) (by omega)).mp hc12
          refine Z_run C it_Lw_covers 3 (f2 := (95, [some (.ref pa), some (.int (nI s)), some (.int (nI f)), some (.long (lN acc)), none, some (.int (rI i)), some (.int (rI j)), some (.int (nI (szz i j))), some (.int (oI (bsd f i j))), some (.int (nI 1)), none], [])) rfl ?_
          have hnb : nI 1 = bI (nrb s i j) := bI_t (by unfold nrb; simp_all)
          rw [hnb]
          exact cv_near C q hF hpp h0 hp hs hf hi hj hacc kk
        · replace hc12 : ¬ _ := fun z9 => hc12 ((nI_eq (a := (s / 2) % 2) (b := 1) (by omega) (by omega)).mpr z9)
          refine Z_run C it_Lw_covers 2 (f2 := (76, [some (.ref pa), some (.int (nI s)), some (.int (nI f)), some (.long (lN acc)), none, some (.int (rI i)), some (.int (rI j)), some (.int (nI (szz i j))), some (.int (oI (bsd f i j))), none, none], [.int (nI 5), .int (nI (szz i j))])) rfl ?_
          refine Z_br C it_Lw_covers rfl rfl (fun hc13 => ?_) (fun hc13 => ?_)
          · replace hc13 : ¬ _ := fun z9 => hc13 ((nI_eq (a := szz i j) (b := 5) (by omega) (by omega)).mpr z9)
            refine Z_run C it_Lw_covers 2 (f2 := (95, [some (.ref pa), some (.int (nI s)), some (.int (nI f)), some (.long (lN acc)), none, some (.int (rI i)), some (.int (rI j)), some (.int (nI (szz i j))), some (.int (oI (bsd f i j))), some (.int (nI 0)), none], [])) rfl ?_
            have hnb : nI 0 = bI (nrb s i j) := bI_f (by unfold nrb; simp_all)
            rw [hnb]
            exact cv_near C q hF hpp h0 hp hs hf hi hj hacc kk
          · replace hc13 := Classical.not_not.mp hc13
            replace hc13 := (nI_eq (a := szz i j) (b := 5) (by omega) (by omega)).mp hc13
            refine Z_run C it_Lw_covers 3 (f2 := (82, [some (.ref pa), some (.int (nI s)), some (.int (nI f)), some (.long (lN acc)), none, some (.int (rI i)), some (.int (rI j)), some (.int (nI (szz i j))), some (.int (oI (bsd f i j))), none, none], [.int (nI s / nI 4)])) rfl ?_
            rw [nI_div (a := s) (d := 4) (by omega) (by omega) (by omega)]
            refine Z_run C it_Lw_covers 2 (f2 := (84, [some (.ref pa), some (.int (nI s)), some (.int (nI f)), some (.long (lN acc)), none, some (.int (rI i)), some (.int (rI j)), some (.int (nI (szz i j))), some (.int (oI (bsd f i j))), none, none], [.int (nI (s / 4) % nI 2)])) rfl ?_
            rw [nI_mod (a := s / 4) (d := 2) (by omega) (by omega) (by omega)]
            refine Z_run C it_Lw_covers 1 (f2 := (85, [some (.ref pa), some (.int (nI s)), some (.int (nI f)), some (.long (lN acc)), none, some (.int (rI i)), some (.int (rI j)), some (.int (nI (szz i j))), some (.int (oI (bsd f i j))), none, none], [.int (nI 1), .int (nI ((s / 4) % 2))])) rfl ?_
            refine Z_br C it_Lw_covers rfl rfl (fun hc14 => ?_) (fun hc14 => ?_)
            · replace hc14 : ¬ _ := fun z9 => hc14 ((nI_eq (a := (s / 4) % 2) (b := 1) (by omega) (by omega)).mpr z9)
              refine Z_run C it_Lw_covers 2 (f2 := (95, [some (.ref pa), some (.int (nI s)), some (.int (nI f)), some (.long (lN acc)), none, some (.int (rI i)), some (.int (rI j)), some (.int (nI (szz i j))), some (.int (oI (bsd f i j))), some (.int (nI 0)), none], [])) rfl ?_
              have hnb : nI 0 = bI (nrb s i j) := bI_f (by unfold nrb; simp_all)
              rw [hnb]
              exact cv_near C q hF hpp h0 hp hs hf hi hj hacc kk
            · replace hc14 := Classical.not_not.mp hc14
              replace hc14 := (nI_eq (a := (s / 4) % 2) (b := 1) (by omega) (by omega)).mp hc14
              refine Z_run C it_Lw_covers 3 (f2 := (95, [some (.ref pa), some (.int (nI s)), some (.int (nI f)), some (.long (lN acc)), none, some (.int (rI i)), some (.int (rI j)), some (.int (nI (szz i j))), some (.int (oI (bsd f i j))), some (.int (nI 1)), none], [])) rfl ?_
              have hnb : nI 1 = bI (nrb s i j) := bI_t (by unfold nrb; simp_all)
              rw [hnb]
              exact cv_near C q hF hpp h0 hp hs hf hi hj hacc kk
set_option maxRecDepth 20000 in
theorem lp_cov16 {E : zE} {G : zG} {O : zO} (C : zCx E G c_Lw_covers 11 y_Lw_covers.cls y_Lw_covers.name (some .long) rm_Lw_covers) (q : zEndX E G O rm_Lw_covers.cells rm_Lw_covers.slots)  {F : Nat → Nat} (hF : okF F) {p : Nat → Int32} (hpp : ∀ k, k < 36 → p k = nI (stp (F k))) (h0 : ∀ k, k < 36 → stp (F k) = 0 → F k = 0) {h : aH} {pa : Nat} (hp : h pa = some (10, 36, fun k => .int (p k))) {sz : Nat} {s f i : Nat} (hs : s < 32) (hf : f < 36) (hi : i < 5) {A : Nat} (hA : A < 2 ^ 36) (kk : Z E G h sz 0 0 (201, [some (.ref pa), some (.int (nI s)), some (.int (nI f)), some (.long (lN (A ||| cvi F s f i 5))), none, some (.int (rI i)), none, none, none, none, none], [])) : ∀ (y j : Nat), 5 - j < y → j ≤ 5 → Z E G h sz 0 0 (16, [some (.ref pa), some (.int (nI s)), some (.int (nI f)), some (.long (lN (A ||| cvi F s f i j))), none, some (.int (rI i)), some (.int (rI j)), none, none, none, none], []) := by
  intro y
  induction y with
  | zero =>
    intro j h1 h2
    omega
  | succ y ih =>
    intro j h1 h2
    have hA2 : A ||| cvi F s f i j < 2 ^ 36 := Nat.or_lt_two_pow hA (cvi_lt _ _ _ _ _)
    refine Z_run C it_Lw_covers 2 (f2 := (19, [some (.ref pa), some (.int (nI s)), some (.int (nI f)), some (.long (lN (A ||| cvi F s f i j))), none, some (.int (rI i)), some (.int (rI j)), none, none, none, none], [.int (nI 3), .int (rI j)])) rfl ?_
    refine Z_br C it_Lw_covers rfl rfl (fun hc1 => ?_) (fun hc1 => ?_)
    · refine Z_sub (ls2 := [some (.ref pa), some (.int (nI s)), some (.int (nI f)), some (.long (lN (A ||| cvi F s f i j))), none, some (.int (rI i)), none, none, none, none, none]) ⟨rfl, rfl, rfl, rfl, rfl, trivial⟩ ?_
      rw [show j = 5 from (rI_5 j (by omega)).mp hc1]
      exact kk
    · have hj5 : j < 5 := by have z : ¬ j = 5 := fun z9 => hc1 ((rI_5 j (by omega)).mpr z9); omega
      refine Z_run C it_Lw_covers 7 (f2 := (33, [some (.ref pa), some (.int (nI s)), some (.int (nI f)), some (.long (lN (A ||| cvi F s f i j))), none, some (.int (rI i)), some (.int (rI j)), none, none, none, none], [.int ((rI i * rI i) + (rI j * rI j))])) rfl ?_
      have e1 : (rI i * rI i) + (rI j * rI j) = nI (szz i j) := sz_e i hi j hj5
      rw [e1]
      refine Z_run C it_Lw_covers 4 (f2 := (40, [some (.ref pa), some (.int (nI s)), some (.int (nI f)), some (.long (lN (A ||| cvi F s f i j))), none, some (.int (rI i)), some (.int (rI j)), some (.int (nI (szz i j))), none, none, none], [.int (rI j), .int (rI i), .int (nI f)])) rfl ?_
      refine Zr_callS C it_Lw_covers rfl p_Lw_beside ml_Lw_10 [.int (nI f), .int (rI i), .int (rI j)] (ct_Lw_beside C.ev C.l f (by omega) i (by omega) j (by omega) h _) rfl rfl ⟨by decide, by decide, by decide, by decide⟩ (Nat.le_of_ble_eq_true rfl) rfl ?_
      show Z E G h sz 0 0 (43, [some (.ref pa), some (.int (nI s)), some (.int (nI f)), some (.long (lN (A ||| cvi F s f i j))), none, some (.int (rI i)), some (.int (rI j)), some (.int (nI (szz i j))), none, none, none], [.int (oI (bsd f i j))])
      refine Z_run C it_Lw_covers 1 (f2 := (45, [some (.ref pa), some (.int (nI s)), some (.int (nI f)), some (.long (lN (A ||| cvi F s f i j))), none, some (.int (rI i)), some (.int (rI j)), some (.int (nI (szz i j))), some (.int (oI (bsd f i j))), none, none], [])) rfl ?_
      refine Z_sub (ls2 := [some (.ref pa), some (.int (nI s)), some (.int (nI f)), some (.long (lN (A ||| cvi F s f i j))), none, some (.int (rI i)), some (.int (rI j)), some (.int (nI (szz i j))), some (.int (oI (bsd f i j))), none, none]) ⟨rfl, rfl, rfl, rfl, rfl, rfl, rfl, rfl, trivial⟩ ?_
      refine cv_45 C q hF hpp h0 hp hs hf hi hj5 hA2 ?_
      refine Z_run C it_Lw_covers 2 (f2 := (16, [some (.ref pa), some (.int (nI s)), some (.int (nI f)), some (.long (lN ((A ||| cvi F s f i j ||| (if nrb s i j then b1s f i j else 0)) ||| (if frb s i j then lln F i j 5 f else 0)))), none, some (.int (rI i)), some (.int (rI j + nI 1)), none, none, none, none], [])) rfl ?_
      have e2 : rI j + nI 1 = rI (j + 1) := rI_s j hj5
      rw [e2]
      rw [show (A ||| cvi F s f i j ||| if nrb s i j = true then b1s f i j else 0) ||| (if frb s i j = true then lln F i j 5 f else 0) = A ||| cvi F s f i (j + 1) by rw [Nat.or_assoc, Nat.or_assoc]; rfl]
      exact ih (j + 1) (by omega) (by omega)
set_option maxRecDepth 20000 in
theorem lp_cov6 {E : zE} {G : zG} {O : zO} (C : zCx E G c_Lw_covers 11 y_Lw_covers.cls y_Lw_covers.name (some .long) rm_Lw_covers) (q : zEndX E G O rm_Lw_covers.cells rm_Lw_covers.slots)  {F : Nat → Nat} (hF : okF F) {p : Nat → Int32} (hpp : ∀ k, k < 36 → p k = nI (stp (F k))) (h0 : ∀ k, k < 36 → stp (F k) = 0 → F k = 0) {h : aH} {pa : Nat} (hp : h pa = some (10, 36, fun k => .int (p k))) {sz : Nat} {s f : Nat} (hs : s < 32) (hf : f < 36) (hO : O (.inl (some (.long (lN (cvo F s f 5))))) h sz) : ∀ (y i : Nat), 5 - i < y → i ≤ 5 → Z E G h sz 0 0 (6, [some (.ref pa), some (.int (nI s)), some (.int (nI f)), some (.long (lN (cvo F s f i))), none, some (.int (rI i)), none, none, none, none, none], []) := by
  intro y
  induction y with
  | zero =>
    intro i h1 h2
    omega
  | succ y ih =>
    intro i h1 h2
    refine Z_run C it_Lw_covers 2 (f2 := (9, [some (.ref pa), some (.int (nI s)), some (.int (nI f)), some (.long (lN (cvo F s f i))), none, some (.int (rI i)), none, none, none, none, none], [.int (nI 3), .int (rI i)])) rfl ?_
    refine Z_br C it_Lw_covers rfl rfl (fun hc1 => ?_) (fun hc1 => ?_)
    · rw [show i = 5 from (rI_5 i (by omega)).mp hc1]
      refine Z_run C it_Lw_covers 1 (f2 := (208, [some (.ref pa), some (.int (nI s)), some (.int (nI f)), some (.long (lN (cvo F s f 5))), none, some (.int (rI 5)), none, none, none, none, none], [.long (lN (cvo F s f 5))])) rfl ?_
      exact Z_lret C q.e it_Lw_covers rfl (hO) (by decide) (by decide)
    · have hi5 : i < 5 := by have z : ¬ i = 5 := fun z9 => hc1 ((rI_5 i (by omega)).mpr z9); omega
      refine Z_run C it_Lw_covers 2 (f2 := (16, [some (.ref pa), some (.int (nI s)), some (.int (nI f)), some (.long (lN (cvo F s f i))), none, some (.int (rI i)), some (.int ((-2))), none, none, none, none], [])) rfl ?_
      have e1 : (-2) = rI 0 := rI_0
      rw [e1]
      have e0 : cvo F s f i = cvo F s f i ||| cvi F s f i 0 := (Nat.or_zero _).symm
      rw [e0]
      refine lp_cov16 C q hF hpp h0 hp hs hf hi5 (cvo_lt _ _ _ _) ?_ 6 0 (by omega) (by omega)
      rw [show cvo F s f i ||| cvi F s f i 5 = cvo F s f (i + 1) from rfl]
      refine Z_run C it_Lw_covers 2 (f2 := (6, [some (.ref pa), some (.int (nI s)), some (.int (nI f)), some (.long (lN (cvo F s f (i + 1)))), none, some (.int (rI i + nI 1)), none, none, none, none, none], [])) rfl ?_
      have e2 : rI i + nI 1 = rI (i + 1) := rI_s i hi5
      rw [e2]
      exact ih (i + 1) (by omega) (by omega)
set_option maxRecDepth 20000 in
theorem ct_Lw_covers {E : zE} (hE : zEv E) {l : Launch} (hl : l.stackTraces = false) (F : Nat → Nat) (hF : okF F) (p : Nat → Int32) (hpp : ∀ k, k < 36 → p k = nI (stp (F k))) (h0 : ∀ k, k < 36 → stp (F k) = 0 → F k = 0) (h : aH) (pa : Nat) (hp : h pa = some (10, 36, fun k => .int (p k))) (s : Nat) (hs : s < 32) (f : Nat) (hf : f < 36) (sz : Nat) : zM E l y_Lw_covers [.code y_Lw_covers c_Lw_covers 11 (some .long)] rm_Lw_covers [.ref pa, .int (nI s), .int (nI f)] h sz (zRet (some (.long (lN (cvo F s f 5)))) h sz) := by
  refine zM_of hE hl (by decide +kernel) [some (.ref pa), some (.int (nI s)), some (.int (nI f)), none, none, none, none, none, none, none, none] ⟨rfl, rfl, Nat.le_of_ble_eq_true rfl⟩ ?_
  intro G C q htb
  refine Z_run C it_Lw_covers 4 (f2 := (6, [some (.ref pa), some (.int (nI s)), some (.int (nI f)), some (.long (lN 0)), none, some (.int ((-2))), none, none, none, none, none], [])) rfl ?_
  have e1 : (-2) = rI 0 := rI_0
  rw [e1]
  exact lp_cov6 C q hF hpp h0 hp hs hf ⟨rfl, rfl, rfl⟩ 6 0 (by omega) (by omega)
/-! .. and what the class guards -/
theorem bsd_nx : ∀ d, d < 16 → ∀ f, f < 36 → bsd f (urN d) (rtN d) = (nxN d (f / 6) (f % 6)).map (fun x => 6 * x.1 + x.2) := by
  intro d hd f hf
  unfold bsd nxN
  by_cases h : 2 ≤ f / 6 + urN d ∧ f / 6 + urN d < 8 ∧ 2 ≤ f % 6 + rtN d ∧ f % 6 + rtN d < 8
  · rw [if_pos h, if_pos h]
    rfl
  · rw [if_neg h, if_neg h]
    rfl
theorem lln_lmk {F : Nat → Nat} {d : Nat} (hd : d < 16) : ∀ {n f : Nat}, f < 36 → lln F (urN d) (rtN d) n f = lmk F d n (f / 6) (f % 6) := by
  intro n
  induction n with
  | zero => intro f hf; rfl
  | succ n ih =>
    intro f hf
    unfold lln lmk
    rw [bsd_nx d hd f hf, nx_N d hd _ (by omega) _ (by omega)]
    cases h : nxN d (f / 6) (f % 6) with
    | none => rfl
    | some x =>
      obtain ⟨r2, c2⟩ := x
      obtain ⟨b1, b2⟩ := nxN_b h
      dsimp only [Option.map]
      rw [ih (f := 6 * r2 + c2) (by omega), show (6 * r2 + c2) / 6 = r2 by omega, show (6 * r2 + c2) % 6 = c2 by omega]
theorem b1s_lln {F : Nat → Nat} {f i j : Nat} : b1s f i j = lln F i j 1 f := by
  unfold b1s lln
  cases bsd f i j with
  | none => rfl
  | some t =>
    dsimp only
    unfold lln
    simp
/-- which direction a step has -/
def dof (i j : Nat) : Nat := ((List.range 16).find? (fun d => urN d == i && rtN d == j)).getD 16
def dofb (i j : Nat) : Bool := (!(szz i j == 1) || decide (dof i j < 4)) && ((!(szz i j == 2) || (decide (4 ≤ dof i j) && decide (dof i j < 8))) && ((!(szz i j == 5) || (decide (8 ≤ dof i j) && decide (dof i j < 16))) && (!(szz i j == 1 || (szz i j == 2 || szz i j == 5)) || (urN (dof i j) == i && rtN (dof i j) == j))))
theorem dofb_t : ∀ i, i < 5 → ∀ j, j < 5 → dofb i j = true := by decide +kernel
theorem dof_t (i : Nat) (hi : i < 5) (j : Nat) (hj : j < 5) : (szz i j = 1 → dof i j < 4) ∧ (szz i j = 2 → 4 ≤ dof i j ∧ dof i j < 8) ∧ (szz i j = 5 → 8 ≤ dof i j ∧ dof i j < 16) ∧ ((szz i j = 1 ∨ szz i j = 2 ∨ szz i j = 5) → urN (dof i j) = i ∧ rtN (dof i j) = j) := by
  have h := dofb_t i hi j hj
  unfold dofb at h
  simp only [Bool.and_eq_true, Bool.or_eq_true, Bool.not_eq_true', beq_eq_false_iff_ne, decide_eq_true_eq, beq_iff_eq, Bool.or_eq_false_iff] at h
  obtain ⟨h1, h2, h3, h4⟩ := h
  refine ⟨fun g => ?_, fun g => ?_, fun g => ?_, fun g => ?_⟩
  · rcases h1 with h1 | h1
    · exact absurd g h1
    · exact h1
  · rcases h2 with h2 | h2
    · exact absurd g h2
    · exact h2
  · rcases h3 with h3 | h3
    · exact absurd g h3
    · exact h3
  · rcases h4 with h4 | h4
    · obtain ⟨q1, q2, q3⟩ := h4
      rcases g with g | g | g
      · exact absurd g q1
      · exact absurd g q2
      · exact absurd g q3
    · exact h4
theorem szd_t : ∀ d, d < 16 → urN d < 5 ∧ rtN d < 5 ∧ szz (urN d) (rtN d) = (if d < 4 then 1 else if d < 8 then 2 else 5) := by decide +kernel
theorem kn_c {p s : Nat} (h : s = stp p) : (kn p 0 = (s % 2 == 1)) ∧ (kn p 1 = (s / 2 % 2 == 1)) ∧ (kn p 2 = (s / 4 % 2 == 1)) ∧ (kn p 3 = (s / 8 % 2 == 1)) ∧ (kn p 4 = (s / 16 == 1)) := by
  subst h
  unfold kn stp
  refine ⟨?_, ?_, ?_, ?_, ?_⟩ <;> (congr 1; omega)
theorem cvo_gfr {F : Nat → Nat} {f : Nat} (hf : f < 36) : cvo F (stp (F f)) f 5 = gfr F f := by
  apply Nat.eq_of_testBit_eq
  intro t
  rw [Bool.eq_iff_iff]
  obtain ⟨k0, k1, k2, k3, k4⟩ := kn_c (p := F f) rfl
  unfold cvo gfr
  rw [orp_tb, orp_tb]
  constructor
  · rintro ⟨i, hi, h⟩
    unfold cvi at h
    rw [orp_tb] at h
    obtain ⟨j, hj, h⟩ := h
    obtain ⟨d1, d2, d3, d4⟩ := dof_t i hi j hj
    unfold cvt at h
    rw [Nat.testBit_or, Bool.or_eq_true] at h
    have key : ∀ c u, c < 5 → kn (F f) c = true → u < ndN c → fdN c + u < 16 → urN (fdN c + u) = i → rtN (fdN c + u) = j → (lln F i j (faN c) f).testBit t = true → ∃ i, i < 5 ∧ ((if kn (F f) i then lok F f i else 0).testBit t = true) := by
      intro c u hc hk hu h16 g1 g2 h9
      refine ⟨c, hc, ?_⟩
      rw [if_pos hk]
      unfold lok
      rw [orp_tb]
      refine ⟨u, hu, ?_⟩
      unfold lnm
      rw [← lln_lmk h16 hf, g1, g2]
      exact h9
    rcases h with h | h
    · split at h
      · next hn =>
        rw [b1s_lln (F := F)] at h
        unfold nrb at hn
        simp only [Bool.or_eq_true, Bool.and_eq_true] at hn
        rcases hn with ⟨g1, g2⟩ | ⟨g1, g2⟩ | ⟨g1, g2⟩
        · have g1 : szz i j = 1 := by simpa using g1
          obtain ⟨e1, e2⟩ := d4 (Or.inl g1)
          have := d1 g1
          exact key 0 (dof i j) (by decide) (by rw [k0]; exact g2) (by show dof i j < 4; omega) (by show 0 + dof i j < 16; omega) (by rw [show fdN 0 + dof i j = dof i j from Nat.zero_add _]; exact e1) (by rw [show fdN 0 + dof i j = dof i j from Nat.zero_add _]; exact e2) h
        · have g1 : szz i j = 2 := by simpa using g1
          obtain ⟨e1, e2⟩ := d4 (Or.inr (Or.inl g1))
          have := d2 g1
          have e : fdN 1 + (dof i j - 4) = dof i j := by show 4 + (dof i j - 4) = _; omega
          exact key 1 (dof i j - 4) (by decide) (by rw [k1]; exact g2) (by show dof i j - 4 < 4; omega) (by rw [e]; omega) (by rw [e]; exact e1) (by rw [e]; exact e2) h
        · have g1 : szz i j = 5 := by simpa using g1
          obtain ⟨e1, e2⟩ := d4 (Or.inr (Or.inr g1))
          have := d3 g1
          have e : fdN 2 + (dof i j - 8) = dof i j := by show 8 + (dof i j - 8) = _; omega
          exact key 2 (dof i j - 8) (by decide) (by rw [k2]; exact g2) (by show dof i j - 8 < 8; omega) (by rw [e]; omega) (by rw [e]; exact e1) (by rw [e]; exact e2) h
      · simp at h
    · split at h
      · next hn =>
        unfold frb at hn
        simp only [Bool.or_eq_true, Bool.and_eq_true] at hn
        rcases hn with ⟨g1, g2⟩ | ⟨g1, g2⟩
        · have g1 : szz i j = 1 := by simpa using g1
          obtain ⟨e1, e2⟩ := d4 (Or.inl g1)
          have := d1 g1
          exact key 3 (dof i j) (by decide) (by rw [k3]; exact g2) (by show dof i j < 4; omega) (by show 0 + dof i j < 16; omega) (by rw [show fdN 3 + dof i j = dof i j from Nat.zero_add _]; exact e1) (by rw [show fdN 3 + dof i j = dof i j from Nat.zero_add _]; exact e2) h
        · have g1 : szz i j = 2 := by simpa using g1
          obtain ⟨e1, e2⟩ := d4 (Or.inr (Or.inl g1))
          have := d2 g1
          have e : fdN 4 + (dof i j - 4) = dof i j := by show 4 + (dof i j - 4) = _; omega
          exact key 4 (dof i j - 4) (by decide) (by rw [k4]; exact g2) (by show dof i j - 4 < 4; omega) (by rw [e]; omega) (by rw [e]; exact e1) (by rw [e]; exact e2) h
      · simp at h
  · rintro ⟨c, hc, h⟩
    split at h
    · next hk =>
      unfold lok at h
      rw [orp_tb] at h
      obtain ⟨u, hu, h⟩ := h
      unfold lnm at h
      have hb := nd_b c hc
      have hnn : ndN c = ldN c + 1 - fdN c := rfl
      have h16 : fdN c + u < 16 := by omega
      rw [← lln_lmk h16 hf] at h
      obtain ⟨s1, s2, s3⟩ := szd_t (fdN c + u) h16
      refine ⟨urN (fdN c + u), s1, ?_⟩
      unfold cvi
      rw [orp_tb]
      refine ⟨rtN (fdN c + u), s2, ?_⟩
      unfold cvt
      rw [Nat.testBit_or, Bool.or_eq_true]
      rcases (show c = 0 ∨ c = 1 ∨ c = 2 ∨ c = 3 ∨ c = 4 by omega) with rfl | rfl | rfl | rfl | rfl
      · have hu4 : u < 4 := hu
        rw [show fdN 0 + u = u from Nat.zero_add u] at *
        rw [if_pos hu4] at s3
        left
        rw [if_pos (by unfold nrb; rw [s3, ← k0, hk]; rfl), b1s_lln (F := F)]
        exact h
      · have hu4 : u < 4 := hu
        rw [show fdN 1 + u = 4 + u from rfl] at *
        rw [if_neg (by omega), if_pos (by omega)] at s3
        left
        rw [if_pos (by unfold nrb; rw [s3, ← k1, hk]; simp), b1s_lln (F := F)]
        exact h
      · have hu8 : u < 8 := hu
        rw [show fdN 2 + u = 8 + u from rfl] at *
        rw [if_neg (by omega), if_neg (by omega)] at s3
        left
        rw [if_pos (by unfold nrb; rw [s3, ← k2, hk]; simp), b1s_lln (F := F)]
        exact h
      · have hu4 : u < 4 := hu
        rw [show fdN 3 + u = u from Nat.zero_add u] at *
        rw [if_pos hu4] at s3
        right
        rw [if_pos (by unfold frb; rw [s3, ← k3, hk]; rfl)]
        exact h
      · have hu4 : u < 4 := hu
        rw [show fdN 4 + u = 4 + u from rfl] at *
        rw [if_neg (by omega), if_pos (by omega)] at s3
        right
        rw [if_pos (by unfold frb; rw [s3, ← k4, hk]; simp)]
        exact h
    · simp at h
