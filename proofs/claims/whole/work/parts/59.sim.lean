/-! ===== both sides in one memory; what a call of the law owes ===== -/
def blk (r : Nat → Int32) (i : Nat) : Nat → Int32 := fun k => r (i * 60 + k)
/-- the past: each game and its block of the model's row, the older ones with fewer moves -/
def HR (PH : aH) (r39 r40 : Nat → Int32) (H : List zGm) (md : Nat) : Prop := ∃ hm : Nat → Nat, (∀ i, i < H.length → hm i ≤ md) ∧ (∀ i j, i ≤ j → j < H.length → hm i ≤ hm j) ∧ ∀ i y, H[i]? = some y → chn PH (zGm.lv y) (zGm.L y) ∧ RS y (blk r39 i) r40 (hm i)
def SIM (D : zD) (V : Nat → Nat → Int32) (P : Nat → Nat → Value) (PH : aH) (sz nc : Nat) : Prop :=
  okP D PH ∧ okS D PH sz ∧ ∃ (L : List zPos) (md : Nat) (H : List zGm) (gs : Nat → Nat) (T : Nat → Nat) (n9 : Nat),
    chn PH (P 1 7) L ∧ RS (V 1, V 3, V 4, V 5, P 1 7, L) (V 38) (V 40) md ∧ md ≤ 12 * nc ∧
    atH D V P H gs ∧ V 37 2 = nI H.length ∧ HR PH (V 39) (V 40) H md ∧
    okT V T ∧ okU V T ∧ V 33 1 = nI n9 ∧ V 37 7 = nI n9 ∧ n9 ≤ 60
theorem atH_fr {D : zD} {V V2 : Nat → Nat → Int32} {P P2 : Nat → Nat → Value} {H : List zGm} {gs : Nat → Nat} (h : atH D V P H gs) (hV : ∀ c, 6 ≤ c → c ≤ 32 → V2 c = V c) (hP : ∀ c, 7 ≤ c → c ≤ 28 → P2 c = P c) : atH D V2 P2 H gs := by
  obtain ⟨h1, h2, h3, h4, h5, h6⟩ := h
  refine ⟨fun k hk => ?_, h2, h3, by rw [hV 6 (by decide) (by decide)]; exact h4, h5, fun i y hy => ?_⟩
  · rw [hP 7 (by decide) (by decide)]
    exact h1 k hk
  · have hi : i < 5 := by
      have := (List.getElem?_eq_some_iff.mp hy).1
      omega
    have g1 := (h1 i hi).2.2
    have g2 := h2 i hi
    exact atG_fr (h6 i y hy) (hV _ (by omega) (by omega)) (hV _ (by omega) (by omega)) (hV _ (by omega) (by omega)) (hV _ (by omega) (by omega)) (by rw [hP _ (by omega) (by omega)])
/-- what a query leaves alone -/
theorem SIM_fr {D : zD} {V V2 : Nat → Nat → Int32} {P P2 : Nat → Nat → Value} {PH : aH} {sz nc : Nat} (h : SIM D V P PH sz nc) (hV : ∀ c, c ≠ 36 → c ≠ 37 → c ≠ 41 → c ≠ 42 → V2 c = V c) (h2 : V2 37 2 = V 37 2) (h7 : V2 37 7 = V 37 7) (hP : ∀ c, c ≠ 44 → c ≠ 45 → P2 c = P c) : SIM D V2 P2 PH sz (nc + 1) := by
  obtain ⟨hO, hS, L, md, H, gs, T, n9, a1, a2, a3, a4, a5, a6, a7, a8, a9, a10, a11⟩ := h
  refine ⟨hO, hS, L, md, H, gs, T, n9, by rw [hP 1 (by decide) (by decide)]; exact a1, ?_, by omega, atH_fr a4 (fun c g1 g2 => hV c (by omega) (by omega) (by omega) (by omega)) (fun c g1 g2 => hP c (by omega) (by omega)), by rw [h2]; exact a5, ?_, fun k hk => by rw [hV 34 (by decide) (by decide) (by decide) (by decide)]; exact a7 k hk, fun k hk => by rw [hV 43 (by decide) (by decide) (by decide) (by decide)]; exact a8 k hk, by rw [hV 33 (by decide) (by decide) (by decide) (by decide)]; exact a9, by rw [h7]; exact a10, a11⟩
  · rw [hV 1 (by decide) (by decide) (by decide) (by decide), hV 3 (by decide) (by decide) (by decide) (by decide), hV 4 (by decide) (by decide) (by decide) (by decide), hV 5 (by decide) (by decide) (by decide) (by decide), hP 1 (by decide) (by decide), hV 38 (by decide) (by decide) (by decide) (by decide), hV 40 (by decide) (by decide) (by decide) (by decide)]
    exact a2
  · rw [hV 39 (by decide) (by decide) (by decide) (by decide), hV 40 (by decide) (by decide) (by decide) (by decide)]
    exact a6
theorem HM_pq {E : zE} {D : zD} (hD : zDok E D) {V V2 : Nat → Nat → Int32} {P P2 : Nat → Nat → Value} {PH PH2 : aH} {c : Nat} (hc : c = 44 ∨ c = 45) {x : Value} (h : HM D V2 P2 PH2 = HM D V P PH) : HM D V2 (pset P2 c 0 x) PH2 = HM D V (pset P c 0 x) PH := by
  have hi : c < 53 := by omega
  have e1 : hset (HM D V2 P2 PH2) (D.1 c) (mk D c (V2 c) (pset P2 c 0 x c)) = HM D V2 (pset P2 c 0 x) PH2 := HM_set hD hi rfl (fun _ _ => rfl) (fun j hj => pset_n hj)
  have e2 : hset (HM D V P PH) (D.1 c) (mk D c (V c) (pset P c 0 x c)) = HM D V (pset P c 0 x) PH := HM_set hD hi rfl (fun _ _ => rfl) (fun j hj => pset_n hj)
  have e3 : mk D c (V2 c) (P2 c) = mk D c (V c) (P c) := by
    have := congrFun h (D.1 c)
    rw [HM_at hD hi, HM_at hD hi] at this
    exact Option.some.inj this
  rw [← e1, ← e2, h]
  congr 1
  rw [pset_s, pset_s]
  rcases hc with rfl | rfl
  · have e4 : P2 44 = P 44 := by
      have := congrArg (fun z : aC => z.2.2) e3
      exact this
    rw [e4]
    rfl
  · have e4 : P2 45 = P 45 := by
      have := congrArg (fun z : aC => z.2.2) e3
      exact this
    rw [e4]
    rfl
/-- what the model owes behind the wrapper -/
def mdI (E : zE) (l : Launch) (D : zD) (y : MethodName) (cM : ByteArray) (nM : Nat) (rm : Room) (av : List Value) (kc : Nat) (V2 : Nat → Nat → Int32) (P2 : Nat → Nat → Value) (PH2 : aH) (s2 : Nat) (NX : (Nat → Nat → Int32) → (Nat → Nat → Value) → aH → Nat → Prop) : Prop :=
  ∃ Om : zO, zM E l y [.code y cM nM (some .int)] rm (.ref (D.1 37) :: av) (HM D V2 P2 PH2) s2 Om ∧ (∀ X h s, ¬ Om (.inr X) h s) ∧ ∀ w h3 s3, Om (.inl w) h3 s3 → ∃ (V3 : Nat → Nat → Int32) (bb : Int32), w = some (.int bb) ∧ h3 = HM D V3 P2 PH2 ∧ s3 = s2 ∧ V3 37 8 = nI kc ∧ (kc = 0 → P2 44 0 = .long bb.toInt64) ∧ NX V3 P2 PH2 s2
def mdL (E : zE) (l : Launch) (D : zD) (y : MethodName) (cM : ByteArray) (nM : Nat) (rm : Room) (av : List Value) (kc : Nat) (V2 : Nat → Nat → Int32) (P2 : Nat → Nat → Value) (PH2 : aH) (s2 : Nat) (NX : (Nat → Nat → Int32) → (Nat → Nat → Value) → aH → Nat → Prop) : Prop :=
  ∃ Om : zO, zM E l y [.code y cM nM (some .long)] rm (.ref (D.1 37) :: av) (HM D V2 P2 PH2) s2 Om ∧ (∀ X h s, ¬ Om (.inr X) h s) ∧ ∀ w h3 s3, Om (.inl w) h3 s3 → ∃ (V3 : Nat → Nat → Int32) (bb : Int64), w = some (.long bb) ∧ h3 = HM D V3 P2 PH2 ∧ s3 = s2 ∧ V3 37 8 = nI kc ∧ (kc = 0 → P2 44 0 = .long bb) ∧ NX V3 P2 PH2 s2
def mdD (E : zE) (l : Launch) (D : zD) (y : MethodName) (cM : ByteArray) (nM : Nat) (rm : Room) (av : List Value) (kc : Nat) (V2 : Nat → Nat → Int32) (P2 : Nat → Nat → Value) (PH2 : aH) (s2 : Nat) (NX : (Nat → Nat → Int32) → (Nat → Nat → Value) → aH → Nat → Prop) : Prop :=
  ∃ Om : zO, zM E l y [.code y cM nM (some .double)] rm (.ref (D.1 37) :: av) (HM D V2 P2 PH2) s2 Om ∧ (∀ X h s, ¬ Om (.inr X) h s) ∧ ∀ w h3 s3, Om (.inl w) h3 s3 → ∃ (V3 : Nat → Nat → Int32) (bb : UInt64), w = some (.double bb) ∧ h3 = HM D V3 P2 PH2 ∧ s3 = s2 ∧ V3 37 8 = nI kc ∧ (kc = 0 → P2 45 0 = .double bb) ∧ NX V3 P2 PH2 s2
/-- what a call through a wrapper owes: a code, and the model behind it -/
def agr (E : zE) (l : Launch) (D : zD) (y : MethodName) (cL : ByteArray) (nL : Nat) (hh : List (Nat × Nat × Nat × Nat)) (rm : Room) (av : List Value) (V : Nat → Nat → Int32) (P : Nat → Nat → Value) (PH : aH) (sz : Nat) (M : Nat → (Nat → Nat → Int32) → (Nat → Nat → Value) → aH → Nat → Prop) : Prop :=
  ∃ Oc : zO, zM E l y [.codeWith y cL nL (some .int) hh] rm av (HM D V P PH) sz Oc ∧ (∀ X h s, ¬ Oc (.inr X) h s) ∧ ∀ v h2 s2, Oc (.inl v) h2 s2 → ∃ (kc : Nat) (V2 : Nat → Nat → Int32) (P2 : Nat → Nat → Value) (PH2 : aH), kc < 4 ∧ v = some (.int (nI kc)) ∧ h2 = HM D V2 P2 PH2 ∧ M kc V2 P2 PH2 s2
section AGR
variable {E : zE} {l : Launch} {D : zD} {y yM : MethodName} {cL cM : ByteArray} {nL nM : Nat} {hh : List (Nat × Nat × Nat × Nat)} {rm : Room} {av : List Value} {V V2 V3 : Nat → Nat → Int32} {P P2 : Nat → Nat → Value} {PH PH2 : aH} {sz s2 kc : Nat} {O : zO} {Xs : List String} {c : Nat} {cv : Value → Value} {M : Nat → (Nat → Nat → Int32) → (Nat → Nat → Value) → aH → Nat → Prop} {NX : (Nat → Nat → Int32) → (Nat → Nat → Value) → aH → Nat → Prop}
theorem agr_of (hD : zDok E D) (hc : c = 44 ∨ c = 45) (hX3 : Xs.length ≤ 3) (hM : zM E l y [.codeWith y cL nL (some .int) hh] rm av (HM D V P PH) sz (zWr D O Xs c cv))
    (hO : ∀ w V2 P2 PH2 s2, O (.inl (some w)) (HM D V2 P2 PH2) s2 → ∃ V' P' PH', HM D V2 P2 PH2 = HM D V' P' PH' ∧ M 0 V' (pset P' c 0 (cv w)) PH' s2)
    (hX : ∀ X h2 s2 i, O (.inr X) h2 s2 → Xs[i]? = some X → ∃ V' P' PH', h2 = HM D V' P' PH' ∧ M (i + 1) V' P' PH' s2) : agr E l D y cL nL hh rm av V P PH sz M := by
  refine ⟨_, hM, fun X h s hq => ?_, fun v h2 s2 hq => ?_⟩
  · rcases hq with ⟨w, V2, P2, PH2, -, e, -⟩ | ⟨X, i, -, -, e⟩ <;> cases e
  · rcases hq with ⟨w, V2, P2, PH2, h1, e, h3⟩ | ⟨X, i, h1, h3, e⟩
    · obtain ⟨V', P', PH', g1, g2⟩ := hO w V2 P2 PH2 s2 h1
      cases e
      exact ⟨0, V', _, PH', by decide, rfl, by rw [h3]; exact HM_pq hD hc g1, g2⟩
    · obtain ⟨V', P', PH', g1, g2⟩ := hX X h2 s2 i h1 h3
      cases e
      have hi := (List.getElem?_eq_some_iff.mp h3).1
      exact ⟨i + 1, V', P', PH', by omega, rfl, g1, g2⟩
/-- .. of a call that answers w and leaves the memory -/
theorem agr_ret (hD : zDok E D) {w : Value} (hc : c = 44 ∨ c = 45) (hX3 : Xs.length ≤ 3) (hM : zM E l y [.codeWith y cL nL (some .int) hh] rm av (HM D V P PH) sz (zWr D (zRet (some w) (HM D V3 P2 PH2) s2) Xs c cv)) (hm : M 0 V3 (pset P2 c 0 (cv w)) PH2 s2) : agr E l D y cL nL hh rm av V P PH sz M :=
  agr_of hD hc hX3 hM (fun w2 V4 P4 PH4 s4 h => by
    obtain ⟨e1, e2, e3⟩ := h
    cases e1
    subst e3
    exact ⟨V3, P2, PH2, e2, hm⟩) (fun X h2 s4 i h => by cases h.1)
/-- .. of one that throws the exception at place i -/
theorem agr_thr (hD : zDok E D) {X : String} {i : Nat} (hc : c = 44 ∨ c = 45) (hX3 : Xs.length ≤ 3) (hM : zM E l y [.codeWith y cL nL (some .int) hh] rm av (HM D V P PH) sz (zWr D (zThr X (HM D V P PH) sz) Xs c cv)) (hi : ∀ j : Nat, Xs[j]? = some X → j = i) (hm : M (i + 1) V P PH sz) : agr E l D y cL nL hh rm av V P PH sz M :=
  agr_of hD hc hX3 hM (fun w2 V4 P4 PH4 s4 h => by cases h.1) (fun X2 h2 s4 j h hj => by
    obtain ⟨e1, e2, e3⟩ := h
    cases e1
    subst e3
    rw [hi j hj]
    exact ⟨V, P, PH, e2, hm⟩)
theorem mdI_ret {bb : Int32} (hM : zM E l yM [.code yM cM nM (some .int)] rm (.ref (D.1 37) :: av) (HM D V2 P2 PH2) s2 (zRet (some (.int bb)) (HM D V3 P2 PH2) s2)) (h8 : V3 37 8 = nI kc) (hk : kc = 0 → P2 44 0 = .long bb.toInt64) (hn : NX V3 P2 PH2 s2) : mdI E l D yM cM nM rm av kc V2 P2 PH2 s2 NX :=
  ⟨_, hM, fun X h s q => (by cases q.1), fun w h3 s3 q => by
    obtain ⟨e1, e2, e3⟩ := q
    cases e1
    subst e3
    exact ⟨V3, bb, rfl, e2, rfl, h8, hk, hn⟩⟩
theorem mdL_ret {bb : Int64} (hM : zM E l yM [.code yM cM nM (some .long)] rm (.ref (D.1 37) :: av) (HM D V2 P2 PH2) s2 (zRet (some (.long bb)) (HM D V3 P2 PH2) s2)) (h8 : V3 37 8 = nI kc) (hk : kc = 0 → P2 44 0 = .long bb) (hn : NX V3 P2 PH2 s2) : mdL E l D yM cM nM rm av kc V2 P2 PH2 s2 NX :=
  ⟨_, hM, fun X h s q => (by cases q.1), fun w h3 s3 q => by
    obtain ⟨e1, e2, e3⟩ := q
    cases e1
    subst e3
    exact ⟨V3, bb, rfl, e2, rfl, h8, hk, hn⟩⟩
theorem mdD_ret {bb : UInt64} (hM : zM E l yM [.code yM cM nM (some .double)] rm (.ref (D.1 37) :: av) (HM D V2 P2 PH2) s2 (zRet (some (.double bb)) (HM D V3 P2 PH2) s2)) (h8 : V3 37 8 = nI kc) (hk : kc = 0 → P2 45 0 = .double bb) (hn : NX V3 P2 PH2 s2) : mdD E l D yM cM nM rm av kc V2 P2 PH2 s2 NX :=
  ⟨_, hM, fun X h s q => (by cases q.1), fun w h3 s3 q => by
    obtain ⟨e1, e2, e3⟩ := q
    cases e1
    subst e3
    exact ⟨V3, bb, rfl, e2, rfl, h8, hk, hn⟩⟩
theorem okI_ret {v : Int32} : okI D (zRet (some (.int v)) (HM D V3 P2 PH2) s2) := fun w h s q => ⟨v, V3, P2, PH2, q.1 |> fun e => by cases e; rfl, q.2.1⟩
theorem okL_ret {v : Int64} : okL D (zRet (some (.long v)) (HM D V3 P2 PH2) s2) := fun w h s q => ⟨v, V3, P2, PH2, q.1 |> fun e => by cases e; rfl, q.2.1⟩
theorem okD_ret {v : UInt64} : okD D (zRet (some (.double v)) (HM D V3 P2 PH2) s2) := fun w h s q => ⟨v, V3, P2, PH2, q.1 |> fun e => by cases e; rfl, q.2.1⟩
theorem okX_ret {v : Option Value} {h : aH} : okX (zRet v h s2) Xs := fun X h2 s q => by cases q.1
theorem okI_thr {X : String} {h : aH} : okI D (zThr X h s2) := fun v h2 s q => by cases q.1
theorem okL_thr {X : String} {h : aH} : okL D (zThr X h s2) := fun v h2 s q => by cases q.1
theorem okD_thr {X : String} {h : aH} : okD D (zThr X h s2) := fun v h2 s q => by cases q.1
theorem okX_thr {X : String} {h : aH} (hX : X ∈ Xs) : okX (zThr X h s2) Xs := fun X2 h2 s q => by
  obtain ⟨e, -⟩ := q
  cases e
  exact hX
end AGR
/-- behind a query: thrown set, the answer stored -/
theorem SIM_q {D : zD} {V : Nat → Nat → Int32} {P : Nat → Nat → Value} {PH : aH} {sz nc : Nat} {x : Int32} {c : Nat} {w : Value} (hc : c = 44 ∨ c = 45) (h : SIM D V P PH sz nc) : SIM D (vset V 37 8 x) (pset P c 0 w) PH sz (nc + 1) :=
  SIM_fr h (fun d _ h37 _ _ => vset_n h37) (vrd_n (by decide)) (vrd_n (by decide)) (fun d h4 h5 => pset_n (by omega))
theorem SIM_q0 {D : zD} {V : Nat → Nat → Int32} {P : Nat → Nat → Value} {PH : aH} {sz nc : Nat} {x : Int32} (h : SIM D V P PH sz nc) : SIM D (vset V 37 8 x) P PH sz (nc + 1) :=
  SIM_fr h (fun d _ h37 _ _ => vset_n h37) (vrd_n (by decide)) (vrd_n (by decide)) (fun _ _ _ => rfl)
theorem ix_1 {A X : String} {j : Nat} (h : [A][j]? = some X) : j = 0 := by
  match j with
  | 0 => rfl
  | j + 1 => cases h
theorem ix_20 {A B X : String} (hne : B ≠ X) {j : Nat} (h : [A, B][j]? = some X) : j = 0 := by
  match j with
  | 0 => rfl
  | 1 => exact absurd (Option.some.inj h) hne
  | j + 2 => cases h
theorem ix_21 {A B X : String} (hne : A ≠ X) {j : Nat} (h : [A, B][j]? = some X) : j = 1 := by
  match j with
  | 0 => exact absurd (Option.some.inj h) hne
  | 1 => rfl
  | j + 2 => cases h
theorem ix_3 {A B C X : String} {i : Nat} (hA : A = X → i = 0) (hB : B = X → i = 1) (hC : C = X → i = 2) {j : Nat} (h : [A, B, C][j]? = some X) : j = i := by
  match j with
  | 0 => exact (hA (Option.some.inj h)).symm
  | 1 => exact (hB (Option.some.inj h)).symm
  | 2 => exact (hC (Option.some.inj h)).symm
  | j + 3 => cases h
