theorem kI_Ps : Cond.instantiable R_Ps 7 ∈ zWs := zmem 566 (by decide +kernel) rfl
theorem kN_Ps : Cond.initialized R_Ps ∈ zWs := zmem 27 (by decide +kernel) rfl
theorem kI_Gm : Cond.instantiable R_Gm 8 ∈ zWs := zmem 37 (by decide +kernel) rfl
theorem kN_Gm : Cond.initialized R_Gm ∈ zWs := zmem 12 (by decide +kernel) rfl
theorem kI_Bd : Cond.instantiable R_Bd 1 ∈ zWs := zmem 43 (by decide +kernel) rfl
theorem kN_Bd : Cond.initialized R_Bd ∈ zWs := zmem 13 (by decide +kernel) rfl
theorem kI_Hs : Cond.instantiable R_Hs 2 ∈ zWs := zmem 86 (by decide +kernel) rfl
theorem kN_Hs : Cond.initialized R_Hs ∈ zWs := zmem 14 (by decide +kernel) rfl
theorem kI_Tx : Cond.instantiable R_Tx 2 ∈ zWs := zmem 102 (by decide +kernel) rfl
theorem kN_Tx : Cond.initialized R_Tx ∈ zWs := zmem 15 (by decide +kernel) rfl
theorem kI_Xx : Cond.instantiable R_Xx 4 ∈ zWs := zmem 29 (by decide +kernel) rfl
theorem kN_Xx : Cond.initialized R_Xx ∈ zWs := zmem 11 (by decide +kernel) rfl
/-! ===== Game: begin, makeMove, copy ===== -/
def okS (D : zD) (PH : aH) (sz : Nat) : Prop := (∀ i, zin i → D.1 i < sz) ∧ ∀ q c, PH q = some c → q < sz
theorem okS_n {D : zD} {PH : aH} {sz q : Nat} (h : okS D PH sz) (hq : sz ≤ q) : notD D q := fun z => by
  have := h.1 _ z.1
  rw [z.2] at this
  omega
theorem okS_p {D : zD} {PH : aH} {sz q : Nat} (h : okS D PH sz) (hq : sz ≤ q) : PH q = none := by
  cases hc : PH q with
  | none => rfl
  | some c => exact absurd (h.2 q c hc) (by omega)
theorem okS_set {D : zD} {PH : aH} {sz q : Nat} {c : aC} (h : okS D PH sz) (hq : sz ≤ q) : okS D (hset PH q c) (q + 1) := by
  refine ⟨fun i hi => by have := h.1 i hi; omega, fun a d hd => ?_⟩
  by_cases e : a = q
  · omega
  · rw [hset_n e] at hd
    have := h.2 a d hd
    omega
section ZPN
variable {E : zE} {G : zG} {cc : ByteArray} {nL : Nat} {own nm : String} {ret : Option FieldType} {R : Room} {h : aH} {sz k n : Nat} {t : List zI} {pc : Nat} {ls : zL} {rest : List Value} {D : zD} {V : Nat → Nat → Int32} {P : Nat → Nat → Value} {PH : aH}
theorem Zp_new (C : zCx E G cc nL own nm ret R) (ht : zT cc t) (hs : okS D PH sz) {idx : Nat} {r : Nat × Int32 × Nat} (hl : t.lookup pc = some (.new idx, r)) (hcl : Cond.classLink own idx R_Ps ∈ zWs) (hk : k + 1 ≤ R.cells) (hn : n + 7 ≤ R.slots) (kk : ∀ q0 : Nat, sz ≤ q0 → zB E ≤ q0 → notD D q0 → PH q0 = none → Z E G (HM D V P (hset PH q0 (4, 0, fs0))) (q0 + 1) (k + 1) (n + 7) (pc + 3, ls, .ref q0 :: rest)) : Z E G (HM D V P PH) sz k n (pc, ls, rest) := by
  refine Z_new C ht hl wi_Ps t_Ps t_Ps_ok (ci := 4) rfl (List.mem_filter.mp hcl).1 (zgw_good (List.mem_filter.mp hcl).2) kI_Ps kN_Ps hk hn (fun q0 h1 h2 => ?_)
  have hn0 := okS_n hs h1
  rw [HM_ps hn0]
  exact kk q0 h1 h2 hn0 (okS_p hs h1)
theorem Zr_callK (C : zCx E G cc nL own nm ret R) (ht : zT cc t) {idx : Nat} {r : Nat × Int32 × Nat} (hl : t.lookup pc = some (.invokespecial idx, r)) {y : MethodName} {c9 : ByteArray} {n9 a : Nat} {rm : Room} (hp : zPk y c9 n9 a) {host : String} (hlk : Cond.methodLink own idx y ∈ zWs ∨ Cond.methodLinkNest own idx y host ∈ lw_tbl) {b : Nat} (As : List Value) {h2 : aH} {sz2 : Nat} {st : List Value} (hM : zK E (zGl G) y [.code y c9 n9 none] rm (.ref b :: As) h sz (zRet none h2 sz2)) (hst : st = As.reverse ++ .ref b :: rest) (ha : As.length = a) (hR : zRm rm R n9 k n) (hcat : (rest.map fun v => v.category).sum ≤ 8) (hls : ls.length = nL)
    (kk : Z E G h2 sz2 (k + rm.cells) (n + rm.slots) (pc + 3, ls, rest)) : Z E G h sz k n (pc, ls, st) :=
  Z_callK C ht hl hp hlk As hM hst ha hR hcat hls (fun w h3 sz3 hO => by obtain ⟨e1, rfl, rfl⟩ := hO; cases e1; exact kk)
end ZPN
/-- a position comes, and the game's latest is it -/
def zNewP (D : zD) (V : Nat → Nat → Int32) (P : Nat → Nat → Value) (PH : aH) (c : aC) (v : Value) (sz : Nat) : zO := fun o h2 sz2 => ∃ q0 : Nat, sz ≤ q0 ∧ notD D q0 ∧ PH q0 = none ∧ o = .inl (some v) ∧ h2 = HM D V (pset P 1 7 (.ref q0)) (hset PH q0 c) ∧ sz2 = q0 + 1
def n1t (t : Nat) (F : Nat → Nat) (L : List zPos) : Nat := 1 + tbf t (pq4 F) L
theorem okF_e {F F2 : Nat → Nat} (h : okF F2) (e : ∀ k, k < 36 → F k = F2 k) : okF F := fun k hk => by rw [e k hk]; exact h k hk
set_option maxRecDepth 20000 in
theorem ct_Gm_begin {E : zE} (hE : zEv E) {l : Launch} (hl : l.stackTraces = false) {D : zD} (hD : zDok E D) (V : Nat → Nat → Int32) (P : Nat → Nat → Value) (PH : aH) (hF : okF (bF V 2)) (L : List zPos) (hch : chn PH (P 1 7) L) (tn : Nat) (htn : tn < 2) (hT : V 1 3 = nI tn) (hP : okP D PH) (sz : Nat) (hs : okS D PH sz) : zM E l y_Gm_begin [.code y_Gm_begin c_Gm_begin 2 (some .int)] rm_Gm_begin [.ref (D.1 1)] (HM D V P PH) sz (zNewP D (vset V 1 5 (bI (mvs (bF V 2) tn 36 == 0))) P PH (pcl (P 1 7) tn (pq4 (bF V 2)) (n1t tn (bF V 2) L)) (.int (nI (mvs (bF V 2) tn 36))) sz) := by
  cases L with
  | nil =>
    have hlv : P 1 7 = .null := hch
    refine zM_of hE hl (by decide +kernel) [some (.ref (D.1 1)), none] ⟨rfl, rfl, Nat.le_of_ble_eq_true rfl⟩ ?_
    intro G C q htb
    have hmv := mvs_le (bF V 2) tn (n := 36) (by omega)
    refine Z_run C it_Gm_begin 1 (f2 := (1, [some (.ref (D.1 1)), none], [.ref (D.1 1)])) rfl ?_
    refine Zm_get C it_Gm_begin hD rfl 1 wi_Gm (by decide) rfl rfl (j := 0) (by decide) fl_Gm_12 (v := .ref (D.1 2)) rfl ?_
    refine Z_run C it_Gm_begin 1 (f2 := (5, [some (.ref (D.1 1)), none], [.ref (D.1 1), .ref (D.1 2)])) rfl ?_
    refine Zm_get C it_Gm_begin hD rfl 1 wi_Gm (by decide) rfl rfl (j := 3) (by decide) fl_Gm_25 (v := .int (nI tn)) (congrArg Value.int hT) ?_
    refine Zr_callV C it_Gm_begin hD rfl p_Bd_movesOf ml_Gm_82 2 (by decide) rfl rfl [.int (nI tn)] (ct_Bd_movesOf C.ev C.l hD _ _ _ 2 isB_2 hF tn (by first | assumption | omega) _) rfl rfl ⟨by decide, by decide, by decide, by decide⟩ (Nat.le_of_ble_eq_true rfl) rfl ?_
    show Z E G (HM D V P PH) sz 0 0 (11, [some (.ref (D.1 1)), none], [.int (nI (mvs (bF V 2) tn 36))])
    refine Z_run C it_Gm_begin 2 (f2 := (13, [some (.ref (D.1 1)), some (.int (nI (mvs (bF V 2) tn 36)))], [.ref (D.1 1)])) rfl ?_
    refine Zp_new C it_Gm_begin hs rfl kl_Gm_48 (by decide) (by decide) (fun q0 hq0 hBq hn0 hPq => ?_)
    show Z E G (HM D V P (hset PH q0 (4, 0, fs0))) (q0 + 1) 1 7 (16, [some (.ref (D.1 1)), some (.int (nI (mvs (bF V 2) tn 36)))], [.ref q0, .ref (D.1 1)])
    refine Z_run C it_Gm_begin 2 (f2 := (18, [some (.ref (D.1 1)), some (.int (nI (mvs (bF V 2) tn 36)))], [.ref (D.1 1), .ref q0, .ref q0, .ref (D.1 1)])) rfl ?_
    refine Zm_get C it_Gm_begin hD rfl 1 wi_Gm (by decide) rfl rfl (j := 7) (by decide) fl_Gm_39 (v := .null) hlv ?_
    refine Z_run C it_Gm_begin 1 (f2 := (22, [some (.ref (D.1 1)), some (.int (nI (mvs (bF V 2) tn 36)))], [.ref (D.1 1), .null, .ref q0, .ref q0, .ref (D.1 1)])) rfl ?_
    refine Zm_get C it_Gm_begin hD rfl 1 wi_Gm (by decide) rfl rfl (j := 0) (by decide) fl_Gm_12 (v := .ref (D.1 2)) rfl ?_
    refine Z_run C it_Gm_begin 1 (f2 := (26, [some (.ref (D.1 1)), some (.int (nI (mvs (bF V 2) tn 36)))], [.ref (D.1 1), .ref (D.1 2), .null, .ref q0, .ref q0, .ref (D.1 1)])) rfl ?_
    refine Zm_get C it_Gm_begin hD rfl 1 wi_Gm (by decide) rfl rfl (j := 3) (by decide) fl_Gm_25 (v := .int (nI tn)) (congrArg Value.int hT) ?_
    refine Zr_callK C it_Gm_begin rfl p_Ps_init (host := R_Xx) (Or.inl ml_Gm_85) [.null, .ref (D.1 2), .int (nI tn)] (ct_Ps_init_n C.ev C.l hD _ _ _ 2 isB_2 hF hP q0 tn (by omega) hn0 hBq hPq [] (by rw [← hlv]; exact hch) _) rfl rfl ⟨by decide, by decide, by decide, by decide⟩ (Nat.le_of_ble_eq_true rfl) rfl ?_
    show Z E G (HM D V P (hset PH q0 (pcl (.null) tn (pq4 (bF V 2)) (n1t tn (bF V 2) [])))) (q0 + 1) 1 7 (32, [some (.ref (D.1 1)), some (.int (nI (mvs (bF V 2) tn 36)))], [.ref q0, .ref (D.1 1)])
    refine Zm_putr C it_Gm_begin hD rfl 1 wi_Gm t_Gm t_Gm_ok n_Gm (by first | decide | omega) rfl rfl (j := 7) (by decide) fl_Gm_39 rfl rfl (x := .ref q0) rfl rfl ?_
    refine Z_run C it_Gm_begin 2 (f2 := (37, [some (.ref (D.1 1)), some (.int (nI (mvs (bF V 2) tn 36)))], [.int (nI (mvs (bF V 2) tn 36)), .ref (D.1 1)])) rfl ?_
    refine Z_br C it_Gm_begin rfl rfl (fun hc1 => ?_) (fun hc1 => ?_)
    · replace hc1 : ¬ _ := fun z9 => hc1 ((nI_e0 (a := mvs (bF V 2) tn 36) (by omega)).mpr z9)
      refine Z_run C it_Gm_begin 1 (f2 := (45, [some (.ref (D.1 1)), some (.int (nI (mvs (bF V 2) tn 36)))], [.int (nI 0), .ref (D.1 1)])) rfl ?_
      have e9 : nI 0 = bI (mvs (bF V 2) tn 36 == 0) := by simp [hc1, bI]; try rfl
      rw [e9]
      refine Zm_put C it_Gm_begin hD rfl 1 wi_Gm t_Gm t_Gm_ok n_Gm (by first | decide | omega) rfl rfl (j := 5) (by decide) fl_Gm_32 rfl rfl (zfit_n (by first | exact bI_v | assumption)) (zfit_f (by first | exact bI_v | assumption)) ?_
      refine Z_run C it_Gm_begin 1 (f2 := (49, [some (.ref (D.1 1)), some (.int (nI (mvs (bF V 2) tn 36)))], [.int (nI (mvs (bF V 2) tn 36))])) rfl ?_
      exact Z_iret C q.e it_Gm_begin rfl (⟨q0, hq0, hn0, hPq, rfl, by rw [hlv], rfl⟩) (by decide) (by decide)
    · replace hc1 := Classical.not_not.mp hc1
      replace hc1 := (nI_e0 (a := mvs (bF V 2) tn 36) (by omega)).mp hc1
      refine Z_run C it_Gm_begin 2 (f2 := (45, [some (.ref (D.1 1)), some (.int (nI (mvs (bF V 2) tn 36)))], [.int (nI 1), .ref (D.1 1)])) rfl ?_
      have e9 : nI 1 = bI (mvs (bF V 2) tn 36 == 0) := by simp [hc1, bI]; try rfl
      rw [e9]
      refine Zm_put C it_Gm_begin hD rfl 1 wi_Gm t_Gm t_Gm_ok n_Gm (by first | decide | omega) rfl rfl (j := 5) (by decide) fl_Gm_32 rfl rfl (zfit_n (by first | exact bI_v | assumption)) (zfit_f (by first | exact bI_v | assumption)) ?_
      refine Z_run C it_Gm_begin 1 (f2 := (49, [some (.ref (D.1 1)), some (.int (nI (mvs (bF V 2) tn 36)))], [.int (nI (mvs (bF V 2) tn 36))])) rfl ?_
      exact Z_iret C q.e it_Gm_begin rfl (⟨q0, hq0, hn0, hPq, rfl, by rw [hlv], rfl⟩) (by decide) (by decide)
  | cons p L =>
    obtain ⟨q9, ev9, hlv, hq9, hpk9, hch9⟩ := id hch
    refine zM_of hE hl (by decide +kernel) [some (.ref (D.1 1)), none] ⟨rfl, rfl, Nat.le_of_ble_eq_true rfl⟩ ?_
    intro G C q htb
    have hmv := mvs_le (bF V 2) tn (n := 36) (by omega)
    refine Z_run C it_Gm_begin 1 (f2 := (1, [some (.ref (D.1 1)), none], [.ref (D.1 1)])) rfl ?_
    refine Zm_get C it_Gm_begin hD rfl 1 wi_Gm (by decide) rfl rfl (j := 0) (by decide) fl_Gm_12 (v := .ref (D.1 2)) rfl ?_
    refine Z_run C it_Gm_begin 1 (f2 := (5, [some (.ref (D.1 1)), none], [.ref (D.1 1), .ref (D.1 2)])) rfl ?_
    refine Zm_get C it_Gm_begin hD rfl 1 wi_Gm (by decide) rfl rfl (j := 3) (by decide) fl_Gm_25 (v := .int (nI tn)) (congrArg Value.int hT) ?_
    refine Zr_callV C it_Gm_begin hD rfl p_Bd_movesOf ml_Gm_82 2 (by decide) rfl rfl [.int (nI tn)] (ct_Bd_movesOf C.ev C.l hD _ _ _ 2 isB_2 hF tn (by first | assumption | omega) _) rfl rfl ⟨by decide, by decide, by decide, by decide⟩ (Nat.le_of_ble_eq_true rfl) rfl ?_
    show Z E G (HM D V P PH) sz 0 0 (11, [some (.ref (D.1 1)), none], [.int (nI (mvs (bF V 2) tn 36))])
    refine Z_run C it_Gm_begin 2 (f2 := (13, [some (.ref (D.1 1)), some (.int (nI (mvs (bF V 2) tn 36)))], [.ref (D.1 1)])) rfl ?_
    refine Zp_new C it_Gm_begin hs rfl kl_Gm_48 (by decide) (by decide) (fun q0 hq0 hBq hn0 hPq => ?_)
    show Z E G (HM D V P (hset PH q0 (4, 0, fs0))) (q0 + 1) 1 7 (16, [some (.ref (D.1 1)), some (.int (nI (mvs (bF V 2) tn 36)))], [.ref q0, .ref (D.1 1)])
    refine Z_run C it_Gm_begin 2 (f2 := (18, [some (.ref (D.1 1)), some (.int (nI (mvs (bF V 2) tn 36)))], [.ref (D.1 1), .ref q0, .ref q0, .ref (D.1 1)])) rfl ?_
    refine Zm_get C it_Gm_begin hD rfl 1 wi_Gm (by decide) rfl rfl (j := 7) (by decide) fl_Gm_39 (v := .ref q9) hlv ?_
    refine Z_run C it_Gm_begin 1 (f2 := (22, [some (.ref (D.1 1)), some (.int (nI (mvs (bF V 2) tn 36)))], [.ref (D.1 1), .ref q9, .ref q0, .ref q0, .ref (D.1 1)])) rfl ?_
    refine Zm_get C it_Gm_begin hD rfl 1 wi_Gm (by decide) rfl rfl (j := 0) (by decide) fl_Gm_12 (v := .ref (D.1 2)) rfl ?_
    refine Z_run C it_Gm_begin 1 (f2 := (26, [some (.ref (D.1 1)), some (.int (nI (mvs (bF V 2) tn 36)))], [.ref (D.1 1), .ref (D.1 2), .ref q9, .ref q0, .ref q0, .ref (D.1 1)])) rfl ?_
    refine Zm_get C it_Gm_begin hD rfl 1 wi_Gm (by decide) rfl rfl (j := 3) (by decide) fl_Gm_25 (v := .int (nI tn)) (congrArg Value.int hT) ?_
    refine Zr_callK C it_Gm_begin rfl p_Ps_init (host := R_Xx) (Or.inl ml_Gm_85) [.ref q9, .ref (D.1 2), .int (nI tn)] (ct_Ps_init_r C.ev C.l hD _ _ _ 2 isB_2 hF hP q0 tn (by omega) hn0 hBq hPq q9 (p :: L) (by rw [← hlv]; exact hch) _) rfl rfl ⟨by decide, by decide, by decide, by decide⟩ (Nat.le_of_ble_eq_true rfl) rfl ?_
    show Z E G (HM D V P (hset PH q0 (pcl (.ref q9) tn (pq4 (bF V 2)) (n1t tn (bF V 2) (p :: L))))) (q0 + 1) 1 7 (32, [some (.ref (D.1 1)), some (.int (nI (mvs (bF V 2) tn 36)))], [.ref q0, .ref (D.1 1)])
    refine Zm_putr C it_Gm_begin hD rfl 1 wi_Gm t_Gm t_Gm_ok n_Gm (by first | decide | omega) rfl rfl (j := 7) (by decide) fl_Gm_39 rfl rfl (x := .ref q0) rfl rfl ?_
    refine Z_run C it_Gm_begin 2 (f2 := (37, [some (.ref (D.1 1)), some (.int (nI (mvs (bF V 2) tn 36)))], [.int (nI (mvs (bF V 2) tn 36)), .ref (D.1 1)])) rfl ?_
    refine Z_br C it_Gm_begin rfl rfl (fun hc1 => ?_) (fun hc1 => ?_)
    · replace hc1 : ¬ _ := fun z9 => hc1 ((nI_e0 (a := mvs (bF V 2) tn 36) (by omega)).mpr z9)
      refine Z_run C it_Gm_begin 1 (f2 := (45, [some (.ref (D.1 1)), some (.int (nI (mvs (bF V 2) tn 36)))], [.int (nI 0), .ref (D.1 1)])) rfl ?_
      have e9 : nI 0 = bI (mvs (bF V 2) tn 36 == 0) := by simp [hc1, bI]; try rfl
      rw [e9]
      refine Zm_put C it_Gm_begin hD rfl 1 wi_Gm t_Gm t_Gm_ok n_Gm (by first | decide | omega) rfl rfl (j := 5) (by decide) fl_Gm_32 rfl rfl (zfit_n (by first | exact bI_v | assumption)) (zfit_f (by first | exact bI_v | assumption)) ?_
      refine Z_run C it_Gm_begin 1 (f2 := (49, [some (.ref (D.1 1)), some (.int (nI (mvs (bF V 2) tn 36)))], [.int (nI (mvs (bF V 2) tn 36))])) rfl ?_
      exact Z_iret C q.e it_Gm_begin rfl (⟨q0, hq0, hn0, hPq, rfl, by rw [hlv], rfl⟩) (by decide) (by decide)
    · replace hc1 := Classical.not_not.mp hc1
      replace hc1 := (nI_e0 (a := mvs (bF V 2) tn 36) (by omega)).mp hc1
      refine Z_run C it_Gm_begin 2 (f2 := (45, [some (.ref (D.1 1)), some (.int (nI (mvs (bF V 2) tn 36)))], [.int (nI 1), .ref (D.1 1)])) rfl ?_
      have e9 : nI 1 = bI (mvs (bF V 2) tn 36 == 0) := by simp [hc1, bI]; try rfl
      rw [e9]
      refine Zm_put C it_Gm_begin hD rfl 1 wi_Gm t_Gm t_Gm_ok n_Gm (by first | decide | omega) rfl rfl (j := 5) (by decide) fl_Gm_32 rfl rfl (zfit_n (by first | exact bI_v | assumption)) (zfit_f (by first | exact bI_v | assumption)) ?_
      refine Z_run C it_Gm_begin 1 (f2 := (49, [some (.ref (D.1 1)), some (.int (nI (mvs (bF V 2) tn 36)))], [.int (nI (mvs (bF V 2) tn 36))])) rfl ?_
      exact Z_iret C q.e it_Gm_begin rfl (⟨q0, hq0, hn0, hPq, rfl, by rw [hlv], rfl⟩) (by decide) (by decide)
/-- the board behind a move -/
def mvF (F : Nat → Nat) (fr to : Nat) : Nat → Nat := fun k => if k = fr then 0 else if k = to then crr F fr to else F k
theorem crr_lt {F : Nat → Nat} (hF : okF F) {fr to : Nat} (h1 : fr < 36) : crr F fr to < 128 := by
  have h2 := hF fr h1
  have h3 := lrn_lt (F fr) (F to)
  exact Nat.or_lt_two_pow (n := 7) h2 (by omega)
theorem okF_mv {F : Nat → Nat} (hF : okF F) {fr to : Nat} (h1 : fr < 36) : okF (mvF F fr to) := fun k hk => by
  unfold mvF
  split
  · omega
  · split
    · exact crr_lt hF h1
    · exact hF k hk
/-- the whole numbers behind a move, but whether the game is over -/
def mvA (V : Nat → Nat → Int32) (fr to tn : Nat) : Nat → Nat → Int32 := vset (vset (vset V 4 tn (V 4 tn + nI (wst (lrn (bF V 2 fr) (bF V 2 to))))) 4 (1 - tn) ((vset V 4 tn (V 4 tn + nI (wst (lrn (bF V 2 fr) (bF V 2 to))))) 4 (1 - tn) - nI (wr (bF V 2 to)))) 5 tn (V 5 tn + nI (wr (bF V 2 to)))
def mvB (V : Nat → Nat → Int32) (fr to tn md : Nat) (W : Nat → Nat → Int32) : Nat → Nat → Int32 := vset (vset (vset (vset W 3 to (nI (crr (bF V 2) fr to))) 3 fr (nI 0)) 1 4 (nI (md + 1))) 1 3 (nI (1 - tn))
def mvV (V : Nat → Nat → Int32) (fr to tn md : Nat) (ld : Bool) : Nat → Nat → Int32 := mvB V fr to tn md (if ld then vset (mvA V fr to tn) 1 6 (nI tn) else mvA V fr to tn)
theorem bF_mv {V : Nat → Nat → Int32} {fr to tn md : Nat} {ld : Bool} (hF : okF (bF V 2)) (h1 : fr < 36) : bF (mvV V fr to tn md ld) 2 = mvF (bF V 2) fr to := by
  have hc := crr_lt hF (to := to) h1
  have h3 : ∀ k, (mvA V fr to tn) 3 k = V 3 k := fun k => rfl
  funext k
  unfold bF mvV mvB mvF
  have e3 : (vset (vset (vset (vset (if ld then vset (mvA V fr to tn) 1 6 (nI tn) else mvA V fr to tn) 3 to (nI (crr (bF V 2) fr to))) 3 fr (nI 0)) 1 4 (nI (md + 1))) 1 3 (nI (1 - tn))) (2 + 1) k = upd (upd (V 3) to (nI (crr (bF V 2) fr to))) fr (nI 0) k := by
    cases ld <;> rfl
  rw [e3]
  unfold upd
  split
  · rfl
  · split
    · exact pn_nI (by omega)
    · rfl
theorem nI_m1 {a : Nat} (h : a < 36) : ¬ nI a = -1 := by
  have h3 : ∀ j, j < 36 → nI j ≠ -1 := by decide
  exact h3 a h
def ovr (ch : Option Nat) (n m : Nat) : Bool := ch.isSome || (decide (3 ≤ n) || m == 0)
theorem h31z {n : Nat} (h : n < 2 ^ 31) : n < 2 ^ 31 := h
set_option maxRecDepth 20000 in
set_option maxHeartbeats 2000000 in
theorem ct_Gm_makeMove {E : zE} (hE : zEv E) {l : Launch} (hl : l.stackTraces = false) {D : zD} (hD : zDok E D) (V : Nat → Nat → Int32) (P : Nat → Nat → Value) (PH : aH) (hF : okF (bF V 2)) (L : List zPos) (hch : chn PH (P 1 7) L) (tn : Nat) (htn : tn < 2) (hT : V 1 3 = nI tn) (md : Nat) (hMd : V 1 4 = nI md) (ch : Option Nat) (hCh : V 1 6 = oI ch) (hcz : ∀ k, ch = some k → k < 2) (h31 : ∀ t F, n1t t F L < 2 ^ 31) (hP : okP D PH) (fr : Nat) (hfr : fr < 36) (to : Nat) (hto : to < 36) (sz : Nat) (hs : okS D PH sz) : zM E l y_Gm_makeMove [.code y_Gm_makeMove c_Gm_makeMove 6 (some .int)] rm_Gm_makeMove [.ref (D.1 1), .int (nI fr), .int (nI to)] (HM D V P PH) sz (zNewP D (vset (mvV V fr to tn md (ldr (bF V 2 to))) 1 5 (bI (ovr (if ldr (bF V 2 to) then some tn else ch) (n1t (1 - tn) (mvF (bF V 2) fr to) L) (mvs (mvF (bF V 2) fr to) (1 - tn) 36)))) P PH (pcl (P 1 7) (1 - tn) (pq4 (mvF (bF V 2) fr to)) (n1t (1 - tn) (mvF (bF V 2) fr to) L)) (.int (nI (wr (bF V 2 to)))) sz) := by
  have hwt := wr_le (bF V 2 to)
  cases L with
  | nil =>
    have hlv : P 1 7 = .null := hch
    cases hld : ldr (bF V 2 to) with
    | false =>
      rw [← hld]
      refine zM_of hE hl (by decide +kernel) [some (.ref (D.1 1)), some (.int (nI fr)), some (.int (nI to)), none, none, none] ⟨rfl, rfl, Nat.le_of_ble_eq_true rfl⟩ ?_
      intro G C q htb
      refine Z_run C it_Gm_makeMove 1 (f2 := (1, [some (.ref (D.1 1)), some (.int (nI fr)), some (.int (nI to)), none, none, none], [.ref (D.1 1)])) rfl ?_
      refine Zm_get C it_Gm_makeMove hD rfl 1 wi_Gm (by decide) rfl rfl (j := 0) (by decide) fl_Gm_12 (v := .ref (D.1 2)) rfl ?_
      refine Z_run C it_Gm_makeMove 1 (f2 := (5, [some (.ref (D.1 1)), some (.int (nI fr)), some (.int (nI to)), none, none, none], [.int (nI to), .ref (D.1 2)])) rfl ?_
      refine Zr_callV C it_Gm_makeMove hD rfl p_Bd_pieceOn ml_Gm_79 2 (by decide) rfl rfl [.int (nI to)] (ct_Bd_pieceOn C.ev C.l hD _ _ _ 2 isB_2 to (by first | assumption | omega) _) rfl rfl ⟨by decide, by decide, by decide, by decide⟩ (Nat.le_of_ble_eq_true rfl) rfl ?_
      show Z E G (HM D V P PH) sz 0 0 (8, [some (.ref (D.1 1)), some (.int (nI fr)), some (.int (nI to)), none, none, none], [.int (nI (bF V 2 to))])
      refine Z_run C it_Gm_makeMove 2 (f2 := (10, [some (.ref (D.1 1)), some (.int (nI fr)), some (.int (nI to)), some (.int (nI (bF V 2 to))), none, none], [.int (nI (bF V 2 to))])) rfl ?_
      refine Zr_callS C it_Gm_makeMove rfl p_Pc_worthOf ml_Gm_76 [.int (nI (bF V 2 to))] (ct_Pc_worthOf C.ev C.l hD _ _ _ (bF V 2 to) (by first | assumption | omega | exact hF _ (by omega)) _) rfl rfl ⟨by decide, by decide, by decide, by decide⟩ (Nat.le_of_ble_eq_true rfl) rfl ?_
      show Z E G (HM D V P PH) sz 0 0 (13, [some (.ref (D.1 1)), some (.int (nI fr)), some (.int (nI to)), some (.int (nI (bF V 2 to))), none, none], [.int (nI (wr (bF V 2 to)))])
      refine Z_run C it_Gm_makeMove 3 (f2 := (17, [some (.ref (D.1 1)), some (.int (nI fr)), some (.int (nI to)), some (.int (nI (bF V 2 to))), some (.int (nI (wr (bF V 2 to)))), none], [.ref (D.1 1), .int (nI 1)])) rfl ?_
      refine Zm_get C it_Gm_makeMove hD rfl 1 wi_Gm (by decide) rfl rfl (j := 3) (by decide) fl_Gm_25 (v := .int (nI tn)) (congrArg Value.int hT) ?_
      refine Z_run C it_Gm_makeMove 1 (f2 := (21, [some (.ref (D.1 1)), some (.int (nI fr)), some (.int (nI to)), some (.int (nI (bF V 2 to))), some (.int (nI (wr (bF V 2 to)))), none], [.int (nI 1 - nI tn)])) rfl ?_
      have e1 : nI 1 - nI tn = nI (1 - tn) := nI_sub (by omega)
      rw [e1]
      refine Z_run C it_Gm_makeMove 2 (f2 := (24, [some (.ref (D.1 1)), some (.int (nI fr)), some (.int (nI to)), some (.int (nI (bF V 2 to))), some (.int (nI (wr (bF V 2 to)))), some (.int (nI (1 - tn)))], [.ref (D.1 1)])) rfl ?_
      refine Zm_get C it_Gm_makeMove hD rfl 1 wi_Gm (by decide) rfl rfl (j := 1) (by decide) fl_Gm_18 (v := .ref (D.1 4)) rfl ?_
      refine Z_run C it_Gm_makeMove 1 (f2 := (28, [some (.ref (D.1 1)), some (.int (nI fr)), some (.int (nI to)), some (.int (nI (bF V 2 to))), some (.int (nI (wr (bF V 2 to)))), some (.int (nI (1 - tn)))], [.ref (D.1 1), .ref (D.1 4)])) rfl ?_
      refine Zm_get C it_Gm_makeMove hD rfl 1 wi_Gm (by decide) rfl rfl (j := 3) (by decide) fl_Gm_25 (v := .int (nI tn)) (congrArg Value.int hT) ?_
      refine Z_run C it_Gm_makeMove 1 (f2 := (32, [some (.ref (D.1 1)), some (.int (nI fr)), some (.int (nI to)), some (.int (nI (bF V 2 to))), some (.int (nI (wr (bF V 2 to)))), some (.int (nI (1 - tn)))], [.int (nI tn), .ref (D.1 4), .int (nI tn), .ref (D.1 4)])) rfl ?_
      refine Zm_ald C it_Gm_makeMove hD 4 10 rfl (by decide) rfl (by decide) (by decide) rfl (j := tn) (by omega) (v := .int (V 4 tn)) rfl ?_
      refine Z_run C it_Gm_makeMove 1 (f2 := (34, [some (.ref (D.1 1)), some (.int (nI fr)), some (.int (nI to)), some (.int (nI (bF V 2 to))), some (.int (nI (wr (bF V 2 to)))), some (.int (nI (1 - tn)))], [.ref (D.1 1), .int (V 4 tn), .int (nI tn), .ref (D.1 4)])) rfl ?_
      refine Zm_get C it_Gm_makeMove hD rfl 1 wi_Gm (by decide) rfl rfl (j := 0) (by decide) fl_Gm_12 (v := .ref (D.1 2)) rfl ?_
      refine Z_run C it_Gm_makeMove 1 (f2 := (38, [some (.ref (D.1 1)), some (.int (nI fr)), some (.int (nI to)), some (.int (nI (bF V 2 to))), some (.int (nI (wr (bF V 2 to)))), some (.int (nI (1 - tn)))], [.int (nI fr), .ref (D.1 2), .int (V 4 tn), .int (nI tn), .ref (D.1 4)])) rfl ?_
      refine Zr_callV C it_Gm_makeMove hD rfl p_Bd_pieceOn ml_Gm_79 2 (by decide) rfl rfl [.int (nI fr)] (ct_Bd_pieceOn C.ev C.l hD _ _ _ 2 isB_2 fr (by first | assumption | omega) _) rfl rfl ⟨by decide, by decide, by decide, by decide⟩ (Nat.le_of_ble_eq_true rfl) rfl ?_
      show Z E G (HM D V P PH) sz 0 0 (41, [some (.ref (D.1 1)), some (.int (nI fr)), some (.int (nI to)), some (.int (nI (bF V 2 to))), some (.int (nI (wr (bF V 2 to)))), some (.int (nI (1 - tn)))], [.int (nI (bF V 2 fr)), .int (V 4 tn), .int (nI tn), .ref (D.1 4)])
      refine Z_run C it_Gm_makeMove 1 (f2 := (42, [some (.ref (D.1 1)), some (.int (nI fr)), some (.int (nI to)), some (.int (nI (bF V 2 to))), some (.int (nI (wr (bF V 2 to)))), some (.int (nI (1 - tn)))], [.int (nI (bF V 2 to)), .int (nI (bF V 2 fr)), .int (V 4 tn), .int (nI tn), .ref (D.1 4)])) rfl ?_
      refine Zr_callS C it_Gm_makeMove rfl p_Pc_learnt ml_Gm_96 [.int (nI (bF V 2 fr)), .int (nI (bF V 2 to))] (ct_Pc_learnt C.ev C.l (bF V 2 fr) (by first | assumption | omega | exact hF _ (by omega)) (bF V 2 to) (by first | assumption | omega | exact hF _ (by omega)) _ _) rfl rfl ⟨by decide, by decide, by decide, by decide⟩ (Nat.le_of_ble_eq_true rfl) rfl ?_
      show Z E G (HM D V P PH) sz 0 0 (45, [some (.ref (D.1 1)), some (.int (nI fr)), some (.int (nI to)), some (.int (nI (bF V 2 to))), some (.int (nI (wr (bF V 2 to)))), some (.int (nI (1 - tn)))], [.int (nI (lrn (bF V 2 fr) (bF V 2 to))), .int (V 4 tn), .int (nI tn), .ref (D.1 4)])
      refine Zr_callS C it_Gm_makeMove rfl p_Pc_worthOfSteps ml_Gm_100 [.int (nI (lrn (bF V 2 fr) (bF V 2 to)))] (ct_Pc_worthOfSteps C.ev C.l hD _ _ _ (lrn (bF V 2 fr) (bF V 2 to)) (by first | exact stp_lt _ | exact lrn_lt _ _ | assumption | omega) _) rfl rfl ⟨by decide, by decide, by decide, by decide⟩ (Nat.le_of_ble_eq_true rfl) rfl ?_
      show Z E G (HM D V P PH) sz 0 0 (48, [some (.ref (D.1 1)), some (.int (nI fr)), some (.int (nI to)), some (.int (nI (bF V 2 to))), some (.int (nI (wr (bF V 2 to)))), some (.int (nI (1 - tn)))], [.int (nI (wst (lrn (bF V 2 fr) (bF V 2 to)))), .int (V 4 tn), .int (nI tn), .ref (D.1 4)])
      refine Z_run C it_Gm_makeMove 1 (f2 := (49, [some (.ref (D.1 1)), some (.int (nI fr)), some (.int (nI to)), some (.int (nI (bF V 2 to))), some (.int (nI (wr (bF V 2 to)))), some (.int (nI (1 - tn)))], [.int (V 4 tn + nI (wst (lrn (bF V 2 fr) (bF V 2 to)))), .int (nI tn), .ref (D.1 4)])) rfl ?_
      refine Zm_ast C it_Gm_makeMove hD 4 10 rfl (by first | decide | exact isB_k hb | omega) rfl (by decide) rfl (j := tn) (by omega) trivial rfl ?_
      refine Z_run C it_Gm_makeMove 1 (f2 := (51, [some (.ref (D.1 1)), some (.int (nI fr)), some (.int (nI to)), some (.int (nI (bF V 2 to))), some (.int (nI (wr (bF V 2 to)))), some (.int (nI (1 - tn)))], [.ref (D.1 1)])) rfl ?_
      refine Zm_get C it_Gm_makeMove hD rfl 1 wi_Gm (by decide) rfl rfl (j := 1) (by decide) fl_Gm_18 (v := .ref (D.1 4)) rfl ?_
      refine Z_run C it_Gm_makeMove 2 (f2 := (57, [some (.ref (D.1 1)), some (.int (nI fr)), some (.int (nI to)), some (.int (nI (bF V 2 to))), some (.int (nI (wr (bF V 2 to)))), some (.int (nI (1 - tn)))], [.int (nI (1 - tn)), .ref (D.1 4), .int (nI (1 - tn)), .ref (D.1 4)])) rfl ?_
      refine Zm_ald C it_Gm_makeMove hD 4 10 rfl (by decide) rfl (by decide) (by decide) rfl (j := 1 - tn) (by omega) (v := .int ((vset V 4 tn (V 4 tn + nI (wst (lrn (bF V 2 fr) (bF V 2 to))))) 4 (1 - tn))) rfl ?_
      refine Z_run C it_Gm_makeMove 2 (f2 := (61, [some (.ref (D.1 1)), some (.int (nI fr)), some (.int (nI to)), some (.int (nI (bF V 2 to))), some (.int (nI (wr (bF V 2 to)))), some (.int (nI (1 - tn)))], [.int ((vset V 4 tn (V 4 tn + nI (wst (lrn (bF V 2 fr) (bF V 2 to))))) 4 (1 - tn) - nI (wr (bF V 2 to))), .int (nI (1 - tn)), .ref (D.1 4)])) rfl ?_
      refine Zm_ast C it_Gm_makeMove hD 4 10 rfl (by first | decide | exact isB_k hb | omega) rfl (by decide) rfl (j := 1 - tn) (by omega) trivial rfl ?_
      refine Z_run C it_Gm_makeMove 1 (f2 := (63, [some (.ref (D.1 1)), some (.int (nI fr)), some (.int (nI to)), some (.int (nI (bF V 2 to))), some (.int (nI (wr (bF V 2 to)))), some (.int (nI (1 - tn)))], [.ref (D.1 1)])) rfl ?_
      refine Zm_get C it_Gm_makeMove hD rfl 1 wi_Gm (by decide) rfl rfl (j := 2) (by decide) fl_Gm_22 (v := .ref (D.1 5)) rfl ?_
      refine Z_run C it_Gm_makeMove 1 (f2 := (67, [some (.ref (D.1 1)), some (.int (nI fr)), some (.int (nI to)), some (.int (nI (bF V 2 to))), some (.int (nI (wr (bF V 2 to)))), some (.int (nI (1 - tn)))], [.ref (D.1 1), .ref (D.1 5)])) rfl ?_
      refine Zm_get C it_Gm_makeMove hD rfl 1 wi_Gm (by decide) rfl rfl (j := 3) (by decide) fl_Gm_25 (v := .int (nI tn)) (congrArg Value.int hT) ?_
      refine Z_run C it_Gm_makeMove 1 (f2 := (71, [some (.ref (D.1 1)), some (.int (nI fr)), some (.int (nI to)), some (.int (nI (bF V 2 to))), some (.int (nI (wr (bF V 2 to)))), some (.int (nI (1 - tn)))], [.int (nI tn), .ref (D.1 5), .int (nI tn), .ref (D.1 5)])) rfl ?_
      refine Zm_ald C it_Gm_makeMove hD 5 10 rfl (by decide) rfl (by decide) (by decide) rfl (j := tn) (by omega) (v := .int ((vset (vset V 4 tn (V 4 tn + nI (wst (lrn (bF V 2 fr) (bF V 2 to))))) 4 (1 - tn) ((vset V 4 tn (V 4 tn + nI (wst (lrn (bF V 2 fr) (bF V 2 to))))) 4 (1 - tn) - nI (wr (bF V 2 to)))) 5 tn)) rfl ?_
      refine Z_run C it_Gm_makeMove 2 (f2 := (75, [some (.ref (D.1 1)), some (.int (nI fr)), some (.int (nI to)), some (.int (nI (bF V 2 to))), some (.int (nI (wr (bF V 2 to)))), some (.int (nI (1 - tn)))], [.int ((vset (vset V 4 tn (V 4 tn + nI (wst (lrn (bF V 2 fr) (bF V 2 to))))) 4 (1 - tn) ((vset V 4 tn (V 4 tn + nI (wst (lrn (bF V 2 fr) (bF V 2 to))))) 4 (1 - tn) - nI (wr (bF V 2 to)))) 5 tn + nI (wr (bF V 2 to))), .int (nI tn), .ref (D.1 5)])) rfl ?_
      refine Zm_ast C it_Gm_makeMove hD 5 10 rfl (by first | decide | exact isB_k hb | omega) rfl (by decide) rfl (j := tn) (by omega) trivial rfl ?_
      refine Z_run C it_Gm_makeMove 1 (f2 := (77, [some (.ref (D.1 1)), some (.int (nI fr)), some (.int (nI to)), some (.int (nI (bF V 2 to))), some (.int (nI (wr (bF V 2 to)))), some (.int (nI (1 - tn)))], [.int (nI (bF V 2 to))])) rfl ?_
      refine Zr_callS C it_Gm_makeMove rfl p_Pc_leads ml_Gm_103 [.int (nI (bF V 2 to))] (ct_Pc_leads C.ev C.l (bF V 2 to) (by first | assumption | omega | exact hF _ (by omega)) _ _) rfl rfl ⟨by decide, by decide, by decide, by decide⟩ (Nat.le_of_ble_eq_true rfl) rfl ?_
      show Z E G (HM D (vset (vset (vset V 4 tn (V 4 tn + nI (wst (lrn (bF V 2 fr) (bF V 2 to))))) 4 (1 - tn) ((vset V 4 tn (V 4 tn + nI (wst (lrn (bF V 2 fr) (bF V 2 to))))) 4 (1 - tn) - nI (wr (bF V 2 to)))) 5 tn ((vset (vset V 4 tn (V 4 tn + nI (wst (lrn (bF V 2 fr) (bF V 2 to))))) 4 (1 - tn) ((vset V 4 tn (V 4 tn + nI (wst (lrn (bF V 2 fr) (bF V 2 to))))) 4 (1 - tn) - nI (wr (bF V 2 to)))) 5 tn + nI (wr (bF V 2 to)))) P PH) sz 0 0 (80, [some (.ref (D.1 1)), some (.int (nI fr)), some (.int (nI to)), some (.int (nI (bF V 2 to))), some (.int (nI (wr (bF V 2 to)))), some (.int (nI (1 - tn)))], [.int (bI (ldr (bF V 2 to)))])
      refine Z_br C it_Gm_makeMove rfl rfl (fun hc1 => ?_) (fun hc1 => ?_)
      · skip
        refine Z_run C it_Gm_makeMove 1 (f2 := (92, [some (.ref (D.1 1)), some (.int (nI fr)), some (.int (nI to)), some (.int (nI (bF V 2 to))), some (.int (nI (wr (bF V 2 to)))), some (.int (nI (1 - tn)))], [.ref (D.1 1)])) rfl ?_
        refine Zm_get C it_Gm_makeMove hD rfl 1 wi_Gm (by decide) rfl rfl (j := 0) (by decide) fl_Gm_12 (v := .ref (D.1 2)) rfl ?_
        refine Z_run C it_Gm_makeMove 2 (f2 := (97, [some (.ref (D.1 1)), some (.int (nI fr)), some (.int (nI to)), some (.int (nI (bF V 2 to))), some (.int (nI (wr (bF V 2 to)))), some (.int (nI (1 - tn)))], [.int (nI to), .int (nI fr), .ref (D.1 2)])) rfl ?_
        refine Zr_callV C it_Gm_makeMove hD rfl p_Bd_carry ml_Gm_106 2 (by decide) rfl rfl [.int (nI fr), .int (nI to)] (ct_Bd_carry C.ev C.l hD (vset (vset (vset V 4 tn (V 4 tn + nI (wst (lrn (bF V 2 fr) (bF V 2 to))))) 4 (1 - tn) ((vset V 4 tn (V 4 tn + nI (wst (lrn (bF V 2 fr) (bF V 2 to))))) 4 (1 - tn) - nI (wr (bF V 2 to)))) 5 tn ((vset (vset V 4 tn (V 4 tn + nI (wst (lrn (bF V 2 fr) (bF V 2 to))))) 4 (1 - tn) ((vset V 4 tn (V 4 tn + nI (wst (lrn (bF V 2 fr) (bF V 2 to))))) 4 (1 - tn) - nI (wr (bF V 2 to)))) 5 tn + nI (wr (bF V 2 to)))) _ _ 2 isB_2 hF fr (by first | assumption | omega) to (by first | assumption | omega) _) rfl rfl ⟨by decide, by decide, by decide, by decide⟩ (Nat.le_of_ble_eq_true rfl) rfl ?_
        show Z E G (HM D (vset (vset (vset (vset (vset V 4 tn (V 4 tn + nI (wst (lrn (bF V 2 fr) (bF V 2 to))))) 4 (1 - tn) ((vset V 4 tn (V 4 tn + nI (wst (lrn (bF V 2 fr) (bF V 2 to))))) 4 (1 - tn) - nI (wr (bF V 2 to)))) 5 tn ((vset (vset V 4 tn (V 4 tn + nI (wst (lrn (bF V 2 fr) (bF V 2 to))))) 4 (1 - tn) ((vset V 4 tn (V 4 tn + nI (wst (lrn (bF V 2 fr) (bF V 2 to))))) 4 (1 - tn) - nI (wr (bF V 2 to)))) 5 tn + nI (wr (bF V 2 to)))) 3 to (nI (crr (bF (vset (vset (vset V 4 tn (V 4 tn + nI (wst (lrn (bF V 2 fr) (bF V 2 to))))) 4 (1 - tn) ((vset V 4 tn (V 4 tn + nI (wst (lrn (bF V 2 fr) (bF V 2 to))))) 4 (1 - tn) - nI (wr (bF V 2 to)))) 5 tn ((vset (vset V 4 tn (V 4 tn + nI (wst (lrn (bF V 2 fr) (bF V 2 to))))) 4 (1 - tn) ((vset V 4 tn (V 4 tn + nI (wst (lrn (bF V 2 fr) (bF V 2 to))))) 4 (1 - tn) - nI (wr (bF V 2 to)))) 5 tn + nI (wr (bF V 2 to)))) 2) fr to))) 3 fr (nI 0)) P PH) sz 0 0 (100, [some (.ref (D.1 1)), some (.int (nI fr)), some (.int (nI to)), some (.int (nI (bF V 2 to))), some (.int (nI (wr (bF V 2 to)))), some (.int (nI (1 - tn)))], [])
        refine Z_run C it_Gm_makeMove 2 (f2 := (102, [some (.ref (D.1 1)), some (.int (nI fr)), some (.int (nI to)), some (.int (nI (bF V 2 to))), some (.int (nI (wr (bF V 2 to)))), some (.int (nI (1 - tn)))], [.ref (D.1 1), .ref (D.1 1)])) rfl ?_
        refine Zm_get C it_Gm_makeMove hD rfl 1 wi_Gm (by decide) rfl rfl (j := 4) (by decide) fl_Gm_29 (v := .int (nI md)) (congrArg Value.int hMd) ?_
        refine Z_run C it_Gm_makeMove 2 (f2 := (107, [some (.ref (D.1 1)), some (.int (nI fr)), some (.int (nI to)), some (.int (nI (bF V 2 to))), some (.int (nI (wr (bF V 2 to)))), some (.int (nI (1 - tn)))], [.int (nI md + nI 1), .ref (D.1 1)])) rfl ?_
        rw [nI_add md 1]
        refine Zm_put C it_Gm_makeMove hD rfl 1 wi_Gm t_Gm t_Gm_ok n_Gm (by first | decide | omega) rfl rfl (j := 4) (by decide) fl_Gm_29 rfl rfl rfl rfl ?_
        refine Z_run C it_Gm_makeMove 2 (f2 := (113, [some (.ref (D.1 1)), some (.int (nI fr)), some (.int (nI to)), some (.int (nI (bF V 2 to))), some (.int (nI (wr (bF V 2 to)))), some (.int (nI (1 - tn)))], [.int (nI (1 - tn)), .ref (D.1 1)])) rfl ?_
        refine Zm_put C it_Gm_makeMove hD rfl 1 wi_Gm t_Gm t_Gm_ok n_Gm (by first | decide | omega) rfl rfl (j := 3) (by decide) fl_Gm_25 rfl rfl rfl rfl ?_
        have hVV : (vset (vset (vset (vset (vset (vset (vset V 4 tn (V 4 tn + nI (wst (lrn (bF V 2 fr) (bF V 2 to))))) 4 (1 - tn) ((vset V 4 tn (V 4 tn + nI (wst (lrn (bF V 2 fr) (bF V 2 to))))) 4 (1 - tn) - nI (wr (bF V 2 to)))) 5 tn ((vset (vset V 4 tn (V 4 tn + nI (wst (lrn (bF V 2 fr) (bF V 2 to))))) 4 (1 - tn) ((vset V 4 tn (V 4 tn + nI (wst (lrn (bF V 2 fr) (bF V 2 to))))) 4 (1 - tn) - nI (wr (bF V 2 to)))) 5 tn + nI (wr (bF V 2 to)))) 3 to (nI (crr (bF (vset (vset (vset V 4 tn (V 4 tn + nI (wst (lrn (bF V 2 fr) (bF V 2 to))))) 4 (1 - tn) ((vset V 4 tn (V 4 tn + nI (wst (lrn (bF V 2 fr) (bF V 2 to))))) 4 (1 - tn) - nI (wr (bF V 2 to)))) 5 tn ((vset (vset V 4 tn (V 4 tn + nI (wst (lrn (bF V 2 fr) (bF V 2 to))))) 4 (1 - tn) ((vset V 4 tn (V 4 tn + nI (wst (lrn (bF V 2 fr) (bF V 2 to))))) 4 (1 - tn) - nI (wr (bF V 2 to)))) 5 tn + nI (wr (bF V 2 to)))) 2) fr to))) 3 fr (nI 0)) 1 4 (nI (md + 1))) 1 3 (nI (1 - tn))) = (mvV V fr to tn md false) := rfl
        rw [hVV]
        have eF : bF (mvV V fr to tn md false) 2 = (mvF (bF V 2) fr to) := bF_mv hF hfr
        have hF2 : okF (bF (mvV V fr to tn md false) 2) := by rw [eF]; exact okF_mv hF hfr
        refine Z_run C it_Gm_makeMove 1 (f2 := (117, [some (.ref (D.1 1)), some (.int (nI fr)), some (.int (nI to)), some (.int (nI (bF V 2 to))), some (.int (nI (wr (bF V 2 to)))), some (.int (nI (1 - tn)))], [.ref (D.1 1)])) rfl ?_
        refine Zp_new C it_Gm_makeMove hs rfl kl_Gm_48 (by decide) (by decide) (fun q0 hq0 hBq hn0 hPq => ?_)
        show Z E G (HM D (mvV V fr to tn md false) P (hset PH q0 (4, 0, fs0))) (q0 + 1) 1 7 (120, [some (.ref (D.1 1)), some (.int (nI fr)), some (.int (nI to)), some (.int (nI (bF V 2 to))), some (.int (nI (wr (bF V 2 to)))), some (.int (nI (1 - tn)))], [.ref q0, .ref (D.1 1)])
        refine Z_run C it_Gm_makeMove 2 (f2 := (122, [some (.ref (D.1 1)), some (.int (nI fr)), some (.int (nI to)), some (.int (nI (bF V 2 to))), some (.int (nI (wr (bF V 2 to)))), some (.int (nI (1 - tn)))], [.ref (D.1 1), .ref q0, .ref q0, .ref (D.1 1)])) rfl ?_
        refine Zm_get C it_Gm_makeMove hD rfl 1 wi_Gm (by decide) rfl rfl (j := 7) (by decide) fl_Gm_39 (v := .null) hlv ?_
        refine Z_run C it_Gm_makeMove 1 (f2 := (126, [some (.ref (D.1 1)), some (.int (nI fr)), some (.int (nI to)), some (.int (nI (bF V 2 to))), some (.int (nI (wr (bF V 2 to)))), some (.int (nI (1 - tn)))], [.ref (D.1 1), .null, .ref q0, .ref q0, .ref (D.1 1)])) rfl ?_
        refine Zm_get C it_Gm_makeMove hD rfl 1 wi_Gm (by decide) rfl rfl (j := 0) (by decide) fl_Gm_12 (v := .ref (D.1 2)) rfl ?_
        refine Z_run C it_Gm_makeMove 1 (f2 := (130, [some (.ref (D.1 1)), some (.int (nI fr)), some (.int (nI to)), some (.int (nI (bF V 2 to))), some (.int (nI (wr (bF V 2 to)))), some (.int (nI (1 - tn)))], [.ref (D.1 1), .ref (D.1 2), .null, .ref q0, .ref q0, .ref (D.1 1)])) rfl ?_
        refine Zm_get C it_Gm_makeMove hD rfl 1 wi_Gm (by decide) rfl rfl (j := 3) (by decide) fl_Gm_25 (v := .int (nI (1 - tn))) rfl ?_
        refine Zr_callK C it_Gm_makeMove rfl p_Ps_init (host := R_Xx) (Or.inl ml_Gm_85) [.null, .ref (D.1 2), .int (nI (1 - tn))] (ct_Ps_init_n C.ev C.l hD _ _ _ 2 isB_2 hF2 hP q0 (1 - tn) (by omega) hn0 hBq hPq [] (by rw [← hlv]; exact hch) _) rfl rfl ⟨by decide, by decide, by decide, by decide⟩ (Nat.le_of_ble_eq_true rfl) rfl ?_
        show Z E G (HM D (mvV V fr to tn md false) P (hset PH q0 (pcl (.null) (1 - tn) (pq4 (bF (mvV V fr to tn md false) 2)) (n1t (1 - tn) (bF (mvV V fr to tn md false) 2) [])))) (q0 + 1) 1 7 (136, [some (.ref (D.1 1)), some (.int (nI fr)), some (.int (nI to)), some (.int (nI (bF V 2 to))), some (.int (nI (wr (bF V 2 to)))), some (.int (nI (1 - tn)))], [.ref q0, .ref (D.1 1)])
        refine Zm_putr C it_Gm_makeMove hD rfl 1 wi_Gm t_Gm t_Gm_ok n_Gm (by first | decide | omega) rfl rfl (j := 7) (by decide) fl_Gm_39 rfl rfl (x := .ref q0) rfl rfl ?_
        refine Z_run C it_Gm_makeMove 2 (f2 := (141, [some (.ref (D.1 1)), some (.int (nI fr)), some (.int (nI to)), some (.int (nI (bF V 2 to))), some (.int (nI (wr (bF V 2 to)))), some (.int (nI (1 - tn)))], [.ref (D.1 1), .ref (D.1 1)])) rfl ?_
        refine Zm_get C it_Gm_makeMove hD rfl 1 wi_Gm (by decide) rfl rfl (j := 6) (by decide) fl_Gm_36 (v := .int (oI ch)) (congrArg Value.int hCh) ?_
        refine Z_run C it_Gm_makeMove 1 (f2 := (145, [some (.ref (D.1 1)), some (.int (nI fr)), some (.int (nI to)), some (.int (nI (bF V 2 to))), some (.int (nI (wr (bF V 2 to)))), some (.int (nI (1 - tn)))], [.int ((-1)), .int (oI ch), .ref (D.1 1)])) rfl ?_
        refine Z_br C it_Gm_makeMove rfl rfl (fun hc2 => ?_) (fun hc2 => ?_)
        · replace hc2 : ch.isSome = true := by cases ch with | none => exact absurd rfl hc2 | some c9 => rfl
          refine Z_run C it_Gm_makeMove 2 (f2 := (175, [some (.ref (D.1 1)), some (.int (nI fr)), some (.int (nI to)), some (.int (nI (bF V 2 to))), some (.int (nI (wr (bF V 2 to)))), some (.int (nI (1 - tn)))], [.int (nI 1), .ref (D.1 1)])) rfl ?_
          have e9 : nI 1 = bI (ovr ch (n1t (1 - tn) (mvF (bF V 2) fr to) []) (mvs (mvF (bF V 2) fr to) (1 - tn) 36)) := by have z9 : (ovr ch (n1t (1 - tn) (mvF (bF V 2) fr to) []) (mvs (mvF (bF V 2) fr to) (1 - tn) 36)) = true := (by rw [← eF]; clear hVV eF hF2 q h31 hch; unfold ovr; simp_all <;> omega); rw [z9]; rfl
          rw [e9]
          refine Zm_put C it_Gm_makeMove hD rfl 1 wi_Gm t_Gm t_Gm_ok n_Gm (by first | decide | omega) rfl rfl (j := 5) (by decide) fl_Gm_32 rfl rfl (zfit_n (by first | exact bI_v | assumption)) (zfit_f (by first | exact bI_v | assumption)) ?_
          refine Z_run C it_Gm_makeMove 1 (f2 := (180, [some (.ref (D.1 1)), some (.int (nI fr)), some (.int (nI to)), some (.int (nI (bF V 2 to))), some (.int (nI (wr (bF V 2 to)))), some (.int (nI (1 - tn)))], [.int (nI (wr (bF V 2 to)))])) rfl ?_
          exact Z_iret C q.e it_Gm_makeMove rfl (⟨q0, hq0, hn0, hPq, rfl, by rw [hlv, hld, ← eF]; rfl, rfl⟩) (by decide) (by decide)
        · replace hc2 : ch.isSome = false := by cases ch with | none => rfl | some c9 => exact absurd (Classical.not_not.mp hc2) (nI_m1 (by have := hcz c9 rfl; omega))
          refine Z_run C it_Gm_makeMove 1 (f2 := (149, [some (.ref (D.1 1)), some (.int (nI fr)), some (.int (nI to)), some (.int (nI (bF V 2 to))), some (.int (nI (wr (bF V 2 to)))), some (.int (nI (1 - tn)))], [.ref (D.1 1), .ref (D.1 1)])) rfl ?_
          refine Zr_callV C it_Gm_makeMove hD rfl p_Gm_timesOfBoard ml_Gm_109 1 (by decide) rfl rfl [] (ct_Gm_timesOfBoard C.ev C.l hD _ _ _ (okP_set hP hn0) (((1 - tn, pq4 (bF (mvV V fr to tn md false) 2), n1t (1 - tn) (bF (mvV V fr to tn md false) 2) []) : zPos) :: []) ⟨q0, .null, rfl, hset_s, ⟨by show 1 - tn < 2; omega, fun i hi => qtr_63 hF2 (by omega) (by omega), h31 _ _⟩, chn_set hPq (by rw [← hlv]; exact hch)⟩ _) rfl rfl ⟨by decide, by decide, by decide, by decide⟩ (Nat.le_of_ble_eq_true rfl) rfl ?_
          show Z E G (HM D (mvV V fr to tn md false) (pset P 1 7 (.ref q0)) (hset PH q0 (pcl (.null) (1 - tn) (pq4 (bF (mvV V fr to tn md false) 2)) (n1t (1 - tn) (bF (mvV V fr to tn md false) 2) [])))) (q0 + 1) 1 7 (152, [some (.ref (D.1 1)), some (.int (nI fr)), some (.int (nI to)), some (.int (nI (bF V 2 to))), some (.int (nI (wr (bF V 2 to)))), some (.int (nI (1 - tn)))], [.int (nI (n1t (1 - tn) (bF (mvV V fr to tn md false) 2) [])), .ref (D.1 1)])
          have hmv2 := mvs_le (bF (mvV V fr to tn md false) 2) (1 - tn) (n := 36) (by omega)
          have h3x : n1t (1 - tn) (bF (mvV V fr to tn md false) 2) [] < 2 ^ 31 := h31 _ _
          refine Z_run C it_Gm_makeMove 1 (f2 := (153, [some (.ref (D.1 1)), some (.int (nI fr)), some (.int (nI to)), some (.int (nI (bF V 2 to))), some (.int (nI (wr (bF V 2 to)))), some (.int (nI (1 - tn)))], [.int (nI 3), .int (nI (n1t (1 - tn) (bF (mvV V fr to tn md false) 2) [])), .ref (D.1 1)])) rfl ?_
          refine Z_br C it_Gm_makeMove rfl rfl (fun hc3 => ?_) (fun hc3 => ?_)
          · replace hc3 := (nI_leI (a := 3) (b := n1t (1 - tn) (bF (mvV V fr to tn md false) 2) []) (by omega) (by omega)).mp hc3
            refine Z_run C it_Gm_makeMove 2 (f2 := (175, [some (.ref (D.1 1)), some (.int (nI fr)), some (.int (nI to)), some (.int (nI (bF V 2 to))), some (.int (nI (wr (bF V 2 to)))), some (.int (nI (1 - tn)))], [.int (nI 1), .ref (D.1 1)])) rfl ?_
            have e9 : nI 1 = bI (ovr ch (n1t (1 - tn) (mvF (bF V 2) fr to) []) (mvs (mvF (bF V 2) fr to) (1 - tn) 36)) := by have z9 : (ovr ch (n1t (1 - tn) (mvF (bF V 2) fr to) []) (mvs (mvF (bF V 2) fr to) (1 - tn) 36)) = true := (by rw [← eF]; clear hVV eF hF2 q h31 hch; unfold ovr; simp_all <;> omega); rw [z9]; rfl
            rw [e9]
            refine Zm_put C it_Gm_makeMove hD rfl 1 wi_Gm t_Gm t_Gm_ok n_Gm (by first | decide | omega) rfl rfl (j := 5) (by decide) fl_Gm_32 rfl rfl (zfit_n (by first | exact bI_v | assumption)) (zfit_f (by first | exact bI_v | assumption)) ?_
            refine Z_run C it_Gm_makeMove 1 (f2 := (180, [some (.ref (D.1 1)), some (.int (nI fr)), some (.int (nI to)), some (.int (nI (bF V 2 to))), some (.int (nI (wr (bF V 2 to)))), some (.int (nI (1 - tn)))], [.int (nI (wr (bF V 2 to)))])) rfl ?_
            exact Z_iret C q.e it_Gm_makeMove rfl (⟨q0, hq0, hn0, hPq, rfl, by rw [hlv, hld, ← eF]; rfl, rfl⟩) (by decide) (by decide)
          · replace hc3 : ¬ _ := fun z9 => hc3 ((nI_leI (a := 3) (b := n1t (1 - tn) (bF (mvV V fr to tn md false) 2) []) (by omega) (by omega)).mpr z9)
            refine Z_run C it_Gm_makeMove 1 (f2 := (157, [some (.ref (D.1 1)), some (.int (nI fr)), some (.int (nI to)), some (.int (nI (bF V 2 to))), some (.int (nI (wr (bF V 2 to)))), some (.int (nI (1 - tn)))], [.ref (D.1 1), .ref (D.1 1)])) rfl ?_
            refine Zm_get C it_Gm_makeMove hD rfl 1 wi_Gm (by decide) rfl rfl (j := 0) (by decide) fl_Gm_12 (v := .ref (D.1 2)) rfl ?_
            refine Z_run C it_Gm_makeMove 1 (f2 := (161, [some (.ref (D.1 1)), some (.int (nI fr)), some (.int (nI to)), some (.int (nI (bF V 2 to))), some (.int (nI (wr (bF V 2 to)))), some (.int (nI (1 - tn)))], [.ref (D.1 1), .ref (D.1 2), .ref (D.1 1)])) rfl ?_
            refine Zm_get C it_Gm_makeMove hD rfl 1 wi_Gm (by decide) rfl rfl (j := 3) (by decide) fl_Gm_25 (v := .int (nI (1 - tn))) rfl ?_
            refine Zr_callV C it_Gm_makeMove hD rfl p_Bd_movesOf ml_Gm_82 2 (by decide) rfl rfl [.int (nI (1 - tn))] (ct_Bd_movesOf C.ev C.l hD (mvV V fr to tn md false) _ _ 2 isB_2 hF2 (1 - tn) (by first | assumption | omega) _) rfl rfl ⟨by decide, by decide, by decide, by decide⟩ (Nat.le_of_ble_eq_true rfl) rfl ?_
            show Z E G (HM D (mvV V fr to tn md false) (pset P 1 7 (.ref q0)) (hset PH q0 (pcl (.null) (1 - tn) (pq4 (bF (mvV V fr to tn md false) 2)) (n1t (1 - tn) (bF (mvV V fr to tn md false) 2) [])))) (q0 + 1) 1 7 (167, [some (.ref (D.1 1)), some (.int (nI fr)), some (.int (nI to)), some (.int (nI (bF V 2 to))), some (.int (nI (wr (bF V 2 to)))), some (.int (nI (1 - tn)))], [.int (nI (mvs (bF (mvV V fr to tn md false) 2) (1 - tn) 36)), .ref (D.1 1)])
            refine Z_br C it_Gm_makeMove rfl rfl (fun hc4 => ?_) (fun hc4 => ?_)
            · replace hc4 : ¬ _ := fun z9 => hc4 ((nI_e0 (a := mvs (bF (mvV V fr to tn md false) 2) (1 - tn) 36) (by omega)).mpr z9)
              refine Z_run C it_Gm_makeMove 1 (f2 := (175, [some (.ref (D.1 1)), some (.int (nI fr)), some (.int (nI to)), some (.int (nI (bF V 2 to))), some (.int (nI (wr (bF V 2 to)))), some (.int (nI (1 - tn)))], [.int (nI 0), .ref (D.1 1)])) rfl ?_
              have e9 : nI 0 = bI (ovr ch (n1t (1 - tn) (mvF (bF V 2) fr to) []) (mvs (mvF (bF V 2) fr to) (1 - tn) 36)) := by have z9 : (ovr ch (n1t (1 - tn) (mvF (bF V 2) fr to) []) (mvs (mvF (bF V 2) fr to) (1 - tn) 36)) = false := (by rw [← eF]; clear hVV eF hF2 q h31 hch; unfold ovr; simp_all <;> omega); rw [z9]; rfl
              rw [e9]
              refine Zm_put C it_Gm_makeMove hD rfl 1 wi_Gm t_Gm t_Gm_ok n_Gm (by first | decide | omega) rfl rfl (j := 5) (by decide) fl_Gm_32 rfl rfl (zfit_n (by first | exact bI_v | assumption)) (zfit_f (by first | exact bI_v | assumption)) ?_
              refine Z_run C it_Gm_makeMove 1 (f2 := (180, [some (.ref (D.1 1)), some (.int (nI fr)), some (.int (nI to)), some (.int (nI (bF V 2 to))), some (.int (nI (wr (bF V 2 to)))), some (.int (nI (1 - tn)))], [.int (nI (wr (bF V 2 to)))])) rfl ?_
              exact Z_iret C q.e it_Gm_makeMove rfl (⟨q0, hq0, hn0, hPq, rfl, by rw [hlv, hld, ← eF]; rfl, rfl⟩) (by decide) (by decide)
            · replace hc4 := Classical.not_not.mp hc4
              replace hc4 := (nI_e0 (a := mvs (bF (mvV V fr to tn md false) 2) (1 - tn) 36) (by omega)).mp hc4
              refine Z_run C it_Gm_makeMove 2 (f2 := (175, [some (.ref (D.1 1)), some (.int (nI fr)), some (.int (nI to)), some (.int (nI (bF V 2 to))), some (.int (nI (wr (bF V 2 to)))), some (.int (nI (1 - tn)))], [.int (nI 1), .ref (D.1 1)])) rfl ?_
              have e9 : nI 1 = bI (ovr ch (n1t (1 - tn) (mvF (bF V 2) fr to) []) (mvs (mvF (bF V 2) fr to) (1 - tn) 36)) := by have z9 : (ovr ch (n1t (1 - tn) (mvF (bF V 2) fr to) []) (mvs (mvF (bF V 2) fr to) (1 - tn) 36)) = true := (by rw [← eF]; clear hVV eF hF2 q h31 hch; unfold ovr; simp_all <;> omega); rw [z9]; rfl
              rw [e9]
              refine Zm_put C it_Gm_makeMove hD rfl 1 wi_Gm t_Gm t_Gm_ok n_Gm (by first | decide | omega) rfl rfl (j := 5) (by decide) fl_Gm_32 rfl rfl (zfit_n (by first | exact bI_v | assumption)) (zfit_f (by first | exact bI_v | assumption)) ?_
              refine Z_run C it_Gm_makeMove 1 (f2 := (180, [some (.ref (D.1 1)), some (.int (nI fr)), some (.int (nI to)), some (.int (nI (bF V 2 to))), some (.int (nI (wr (bF V 2 to)))), some (.int (nI (1 - tn)))], [.int (nI (wr (bF V 2 to)))])) rfl ?_
              exact Z_iret C q.e it_Gm_makeMove rfl (⟨q0, hq0, hn0, hPq, rfl, by rw [hlv, hld, ← eF]; rfl, rfl⟩) (by decide) (by decide)
      · exact absurd (show bI (ldr (bF V 2 to)) = 0 by rw [hld]; rfl) hc1
    | true =>
      rw [← hld]
      refine zM_of hE hl (by decide +kernel) [some (.ref (D.1 1)), some (.int (nI fr)), some (.int (nI to)), none, none, none] ⟨rfl, rfl, Nat.le_of_ble_eq_true rfl⟩ ?_
      intro G C q htb
      refine Z_run C it_Gm_makeMove 1 (f2 := (1, [some (.ref (D.1 1)), some (.int (nI fr)), some (.int (nI to)), none, none, none], [.ref (D.1 1)])) rfl ?_
      refine Zm_get C it_Gm_makeMove hD rfl 1 wi_Gm (by decide) rfl rfl (j := 0) (by decide) fl_Gm_12 (v := .ref (D.1 2)) rfl ?_
      refine Z_run C it_Gm_makeMove 1 (f2 := (5, [some (.ref (D.1 1)), some (.int (nI fr)), some (.int (nI to)), none, none, none], [.int (nI to), .ref (D.1 2)])) rfl ?_
      refine Zr_callV C it_Gm_makeMove hD rfl p_Bd_pieceOn ml_Gm_79 2 (by decide) rfl rfl [.int (nI to)] (ct_Bd_pieceOn C.ev C.l hD _ _ _ 2 isB_2 to (by first | assumption | omega) _) rfl rfl ⟨by decide, by decide, by decide, by decide⟩ (Nat.le_of_ble_eq_true rfl) rfl ?_
      show Z E G (HM D V P PH) sz 0 0 (8, [some (.ref (D.1 1)), some (.int (nI fr)), some (.int (nI to)), none, none, none], [.int (nI (bF V 2 to))])
      refine Z_run C it_Gm_makeMove 2 (f2 := (10, [some (.ref (D.1 1)), some (.int (nI fr)), some (.int (nI to)), some (.int (nI (bF V 2 to))), none, none], [.int (nI (bF V 2 to))])) rfl ?_
      refine Zr_callS C it_Gm_makeMove rfl p_Pc_worthOf ml_Gm_76 [.int (nI (bF V 2 to))] (ct_Pc_worthOf C.ev C.l hD _ _ _ (bF V 2 to) (by first | assumption | omega | exact hF _ (by omega)) _) rfl rfl ⟨by decide, by decide, by decide, by decide⟩ (Nat.le_of_ble_eq_true rfl) rfl ?_
      show Z E G (HM D V P PH) sz 0 0 (13, [some (.ref (D.1 1)), some (.int (nI fr)), some (.int (nI to)), some (.int (nI (bF V 2 to))), none, none], [.int (nI (wr (bF V 2 to)))])
      refine Z_run C it_Gm_makeMove 3 (f2 := (17, [some (.ref (D.1 1)), some (.int (nI fr)), some (.int (nI to)), some (.int (nI (bF V 2 to))), some (.int (nI (wr (bF V 2 to)))), none], [.ref (D.1 1), .int (nI 1)])) rfl ?_
      refine Zm_get C it_Gm_makeMove hD rfl 1 wi_Gm (by decide) rfl rfl (j := 3) (by decide) fl_Gm_25 (v := .int (nI tn)) (congrArg Value.int hT) ?_
      refine Z_run C it_Gm_makeMove 1 (f2 := (21, [some (.ref (D.1 1)), some (.int (nI fr)), some (.int (nI to)), some (.int (nI (bF V 2 to))), some (.int (nI (wr (bF V 2 to)))), none], [.int (nI 1 - nI tn)])) rfl ?_
      have e1 : nI 1 - nI tn = nI (1 - tn) := nI_sub (by omega)
      rw [e1]
      refine Z_run C it_Gm_makeMove 2 (f2 := (24, [some (.ref (D.1 1)), some (.int (nI fr)), some (.int (nI to)), some (.int (nI (bF V 2 to))), some (.int (nI (wr (bF V 2 to)))), some (.int (nI (1 - tn)))], [.ref (D.1 1)])) rfl ?_
      refine Zm_get C it_Gm_makeMove hD rfl 1 wi_Gm (by decide) rfl rfl (j := 1) (by decide) fl_Gm_18 (v := .ref (D.1 4)) rfl ?_
      refine Z_run C it_Gm_makeMove 1 (f2 := (28, [some (.ref (D.1 1)), some (.int (nI fr)), some (.int (nI to)), some (.int (nI (bF V 2 to))), some (.int (nI (wr (bF V 2 to)))), some (.int (nI (1 - tn)))], [.ref (D.1 1), .ref (D.1 4)])) rfl ?_
      refine Zm_get C it_Gm_makeMove hD rfl 1 wi_Gm (by decide) rfl rfl (j := 3) (by decide) fl_Gm_25 (v := .int (nI tn)) (congrArg Value.int hT) ?_
      refine Z_run C it_Gm_makeMove 1 (f2 := (32, [some (.ref (D.1 1)), some (.int (nI fr)), some (.int (nI to)), some (.int (nI (bF V 2 to))), some (.int (nI (wr (bF V 2 to)))), some (.int (nI (1 - tn)))], [.int (nI tn), .ref (D.1 4), .int (nI tn), .ref (D.1 4)])) rfl ?_
      refine Zm_ald C it_Gm_makeMove hD 4 10 rfl (by decide) rfl (by decide) (by decide) rfl (j := tn) (by omega) (v := .int (V 4 tn)) rfl ?_
      refine Z_run C it_Gm_makeMove 1 (f2 := (34, [some (.ref (D.1 1)), some (.int (nI fr)), some (.int (nI to)), some (.int (nI (bF V 2 to))), some (.int (nI (wr (bF V 2 to)))), some (.int (nI (1 - tn)))], [.ref (D.1 1), .int (V 4 tn), .int (nI tn), .ref (D.1 4)])) rfl ?_
      refine Zm_get C it_Gm_makeMove hD rfl 1 wi_Gm (by decide) rfl rfl (j := 0) (by decide) fl_Gm_12 (v := .ref (D.1 2)) rfl ?_
      refine Z_run C it_Gm_makeMove 1 (f2 := (38, [some (.ref (D.1 1)), some (.int (nI fr)), some (.int (nI to)), some (.int (nI (bF V 2 to))), some (.int (nI (wr (bF V 2 to)))), some (.int (nI (1 - tn)))], [.int (nI fr), .ref (D.1 2), .int (V 4 tn), .int (nI tn), .ref (D.1 4)])) rfl ?_
      refine Zr_callV C it_Gm_makeMove hD rfl p_Bd_pieceOn ml_Gm_79 2 (by decide) rfl rfl [.int (nI fr)] (ct_Bd_pieceOn C.ev C.l hD _ _ _ 2 isB_2 fr (by first | assumption | omega) _) rfl rfl ⟨by decide, by decide, by decide, by decide⟩ (Nat.le_of_ble_eq_true rfl) rfl ?_
      show Z E G (HM D V P PH) sz 0 0 (41, [some (.ref (D.1 1)), some (.int (nI fr)), some (.int (nI to)), some (.int (nI (bF V 2 to))), some (.int (nI (wr (bF V 2 to)))), some (.int (nI (1 - tn)))], [.int (nI (bF V 2 fr)), .int (V 4 tn), .int (nI tn), .ref (D.1 4)])
      refine Z_run C it_Gm_makeMove 1 (f2 := (42, [some (.ref (D.1 1)), some (.int (nI fr)), some (.int (nI to)), some (.int (nI (bF V 2 to))), some (.int (nI (wr (bF V 2 to)))), some (.int (nI (1 - tn)))], [.int (nI (bF V 2 to)), .int (nI (bF V 2 fr)), .int (V 4 tn), .int (nI tn), .ref (D.1 4)])) rfl ?_
      refine Zr_callS C it_Gm_makeMove rfl p_Pc_learnt ml_Gm_96 [.int (nI (bF V 2 fr)), .int (nI (bF V 2 to))] (ct_Pc_learnt C.ev C.l (bF V 2 fr) (by first | assumption | omega | exact hF _ (by omega)) (bF V 2 to) (by first | assumption | omega | exact hF _ (by omega)) _ _) rfl rfl ⟨by decide, by decide, by decide, by decide⟩ (Nat.le_of_ble_eq_true rfl) rfl ?_
      show Z E G (HM D V P PH) sz 0 0 (45, [some (.ref (D.1 1)), some (.int (nI fr)), some (.int (nI to)), some (.int (nI (bF V 2 to))), some (.int (nI (wr (bF V 2 to)))), some (.int (nI (1 - tn)))], [.int (nI (lrn (bF V 2 fr) (bF V 2 to))), .int (V 4 tn), .int (nI tn), .ref (D.1 4)])
      refine Zr_callS C it_Gm_makeMove rfl p_Pc_worthOfSteps ml_Gm_100 [.int (nI (lrn (bF V 2 fr) (bF V 2 to)))] (ct_Pc_worthOfSteps C.ev C.l hD _ _ _ (lrn (bF V 2 fr) (bF V 2 to)) (by first | exact stp_lt _ | exact lrn_lt _ _ | assumption | omega) _) rfl rfl ⟨by decide, by decide, by decide, by decide⟩ (Nat.le_of_ble_eq_true rfl) rfl ?_
      show Z E G (HM D V P PH) sz 0 0 (48, [some (.ref (D.1 1)), some (.int (nI fr)), some (.int (nI to)), some (.int (nI (bF V 2 to))), some (.int (nI (wr (bF V 2 to)))), some (.int (nI (1 - tn)))], [.int (nI (wst (lrn (bF V 2 fr) (bF V 2 to)))), .int (V 4 tn), .int (nI tn), .ref (D.1 4)])
      refine Z_run C it_Gm_makeMove 1 (f2 := (49, [some (.ref (D.1 1)), some (.int (nI fr)), some (.int (nI to)), some (.int (nI (bF V 2 to))), some (.int (nI (wr (bF V 2 to)))), some (.int (nI (1 - tn)))], [.int (V 4 tn + nI (wst (lrn (bF V 2 fr) (bF V 2 to)))), .int (nI tn), .ref (D.1 4)])) rfl ?_
      refine Zm_ast C it_Gm_makeMove hD 4 10 rfl (by first | decide | exact isB_k hb | omega) rfl (by decide) rfl (j := tn) (by omega) trivial rfl ?_
      refine Z_run C it_Gm_makeMove 1 (f2 := (51, [some (.ref (D.1 1)), some (.int (nI fr)), some (.int (nI to)), some (.int (nI (bF V 2 to))), some (.int (nI (wr (bF V 2 to)))), some (.int (nI (1 - tn)))], [.ref (D.1 1)])) rfl ?_
      refine Zm_get C it_Gm_makeMove hD rfl 1 wi_Gm (by decide) rfl rfl (j := 1) (by decide) fl_Gm_18 (v := .ref (D.1 4)) rfl ?_
      refine Z_run C it_Gm_makeMove 2 (f2 := (57, [some (.ref (D.1 1)), some (.int (nI fr)), some (.int (nI to)), some (.int (nI (bF V 2 to))), some (.int (nI (wr (bF V 2 to)))), some (.int (nI (1 - tn)))], [.int (nI (1 - tn)), .ref (D.1 4), .int (nI (1 - tn)), .ref (D.1 4)])) rfl ?_
      refine Zm_ald C it_Gm_makeMove hD 4 10 rfl (by decide) rfl (by decide) (by decide) rfl (j := 1 - tn) (by omega) (v := .int ((vset V 4 tn (V 4 tn + nI (wst (lrn (bF V 2 fr) (bF V 2 to))))) 4 (1 - tn))) rfl ?_
      refine Z_run C it_Gm_makeMove 2 (f2 := (61, [some (.ref (D.1 1)), some (.int (nI fr)), some (.int (nI to)), some (.int (nI (bF V 2 to))), some (.int (nI (wr (bF V 2 to)))), some (.int (nI (1 - tn)))], [.int ((vset V 4 tn (V 4 tn + nI (wst (lrn (bF V 2 fr) (bF V 2 to))))) 4 (1 - tn) - nI (wr (bF V 2 to))), .int (nI (1 - tn)), .ref (D.1 4)])) rfl ?_
      refine Zm_ast C it_Gm_makeMove hD 4 10 rfl (by first | decide | exact isB_k hb | omega) rfl (by decide) rfl (j := 1 - tn) (by omega) trivial rfl ?_
      refine Z_run C it_Gm_makeMove 1 (f2 := (63, [some (.ref (D.1 1)), some (.int (nI fr)), some (.int (nI to)), some (.int (nI (bF V 2 to))), some (.int (nI (wr (bF V 2 to)))), some (.int (nI (1 - tn)))], [.ref (D.1 1)])) rfl ?_
      refine Zm_get C it_Gm_makeMove hD rfl 1 wi_Gm (by decide) rfl rfl (j := 2) (by decide) fl_Gm_22 (v := .ref (D.1 5)) rfl ?_
      refine Z_run C it_Gm_makeMove 1 (f2 := (67, [some (.ref (D.1 1)), some (.int (nI fr)), some (.int (nI to)), some (.int (nI (bF V 2 to))), some (.int (nI (wr (bF V 2 to)))), some (.int (nI (1 - tn)))], [.ref (D.1 1), .ref (D.1 5)])) rfl ?_
      refine Zm_get C it_Gm_makeMove hD rfl 1 wi_Gm (by decide) rfl rfl (j := 3) (by decide) fl_Gm_25 (v := .int (nI tn)) (congrArg Value.int hT) ?_
      refine Z_run C it_Gm_makeMove 1 (f2 := (71, [some (.ref (D.1 1)), some (.int (nI fr)), some (.int (nI to)), some (.int (nI (bF V 2 to))), some (.int (nI (wr (bF V 2 to)))), some (.int (nI (1 - tn)))], [.int (nI tn), .ref (D.1 5), .int (nI tn), .ref (D.1 5)])) rfl ?_
      refine Zm_ald C it_Gm_makeMove hD 5 10 rfl (by decide) rfl (by decide) (by decide) rfl (j := tn) (by omega) (v := .int ((vset (vset V 4 tn (V 4 tn + nI (wst (lrn (bF V 2 fr) (bF V 2 to))))) 4 (1 - tn) ((vset V 4 tn (V 4 tn + nI (wst (lrn (bF V 2 fr) (bF V 2 to))))) 4 (1 - tn) - nI (wr (bF V 2 to)))) 5 tn)) rfl ?_
      refine Z_run C it_Gm_makeMove 2 (f2 := (75, [some (.ref (D.1 1)), some (.int (nI fr)), some (.int (nI to)), some (.int (nI (bF V 2 to))), some (.int (nI (wr (bF V 2 to)))), some (.int (nI (1 - tn)))], [.int ((vset (vset V 4 tn (V 4 tn + nI (wst (lrn (bF V 2 fr) (bF V 2 to))))) 4 (1 - tn) ((vset V 4 tn (V 4 tn + nI (wst (lrn (bF V 2 fr) (bF V 2 to))))) 4 (1 - tn) - nI (wr (bF V 2 to)))) 5 tn + nI (wr (bF V 2 to))), .int (nI tn), .ref (D.1 5)])) rfl ?_
      refine Zm_ast C it_Gm_makeMove hD 5 10 rfl (by first | decide | exact isB_k hb | omega) rfl (by decide) rfl (j := tn) (by omega) trivial rfl ?_
      refine Z_run C it_Gm_makeMove 1 (f2 := (77, [some (.ref (D.1 1)), some (.int (nI fr)), some (.int (nI to)), some (.int (nI (bF V 2 to))), some (.int (nI (wr (bF V 2 to)))), some (.int (nI (1 - tn)))], [.int (nI (bF V 2 to))])) rfl ?_
      refine Zr_callS C it_Gm_makeMove rfl p_Pc_leads ml_Gm_103 [.int (nI (bF V 2 to))] (ct_Pc_leads C.ev C.l (bF V 2 to) (by first | assumption | omega | exact hF _ (by omega)) _ _) rfl rfl ⟨by decide, by decide, by decide, by decide⟩ (Nat.le_of_ble_eq_true rfl) rfl ?_
      show Z E G (HM D (vset (vset (vset V 4 tn (V 4 tn + nI (wst (lrn (bF V 2 fr) (bF V 2 to))))) 4 (1 - tn) ((vset V 4 tn (V 4 tn + nI (wst (lrn (bF V 2 fr) (bF V 2 to))))) 4 (1 - tn) - nI (wr (bF V 2 to)))) 5 tn ((vset (vset V 4 tn (V 4 tn + nI (wst (lrn (bF V 2 fr) (bF V 2 to))))) 4 (1 - tn) ((vset V 4 tn (V 4 tn + nI (wst (lrn (bF V 2 fr) (bF V 2 to))))) 4 (1 - tn) - nI (wr (bF V 2 to)))) 5 tn + nI (wr (bF V 2 to)))) P PH) sz 0 0 (80, [some (.ref (D.1 1)), some (.int (nI fr)), some (.int (nI to)), some (.int (nI (bF V 2 to))), some (.int (nI (wr (bF V 2 to)))), some (.int (nI (1 - tn)))], [.int (bI (ldr (bF V 2 to)))])
      refine Z_br C it_Gm_makeMove rfl rfl (fun hc1 => ?_) (fun hc1 => ?_)
      · exact absurd hc1 (by rw [hld]; decide)
      · skip
        refine Z_run C it_Gm_makeMove 2 (f2 := (85, [some (.ref (D.1 1)), some (.int (nI fr)), some (.int (nI to)), some (.int (nI (bF V 2 to))), some (.int (nI (wr (bF V 2 to)))), some (.int (nI (1 - tn)))], [.ref (D.1 1), .ref (D.1 1)])) rfl ?_
        refine Zm_get C it_Gm_makeMove hD rfl 1 wi_Gm (by decide) rfl rfl (j := 3) (by decide) fl_Gm_25 (v := .int (nI tn)) (congrArg Value.int hT) ?_
        refine Zm_put C it_Gm_makeMove hD rfl 1 wi_Gm t_Gm t_Gm_ok n_Gm (by first | decide | omega) rfl rfl (j := 6) (by decide) fl_Gm_36 rfl rfl rfl rfl ?_
        refine Z_run C it_Gm_makeMove 1 (f2 := (92, [some (.ref (D.1 1)), some (.int (nI fr)), some (.int (nI to)), some (.int (nI (bF V 2 to))), some (.int (nI (wr (bF V 2 to)))), some (.int (nI (1 - tn)))], [.ref (D.1 1)])) rfl ?_
        refine Zm_get C it_Gm_makeMove hD rfl 1 wi_Gm (by decide) rfl rfl (j := 0) (by decide) fl_Gm_12 (v := .ref (D.1 2)) rfl ?_
        refine Z_run C it_Gm_makeMove 2 (f2 := (97, [some (.ref (D.1 1)), some (.int (nI fr)), some (.int (nI to)), some (.int (nI (bF V 2 to))), some (.int (nI (wr (bF V 2 to)))), some (.int (nI (1 - tn)))], [.int (nI to), .int (nI fr), .ref (D.1 2)])) rfl ?_
        refine Zr_callV C it_Gm_makeMove hD rfl p_Bd_carry ml_Gm_106 2 (by decide) rfl rfl [.int (nI fr), .int (nI to)] (ct_Bd_carry C.ev C.l hD (vset (vset (vset (vset V 4 tn (V 4 tn + nI (wst (lrn (bF V 2 fr) (bF V 2 to))))) 4 (1 - tn) ((vset V 4 tn (V 4 tn + nI (wst (lrn (bF V 2 fr) (bF V 2 to))))) 4 (1 - tn) - nI (wr (bF V 2 to)))) 5 tn ((vset (vset V 4 tn (V 4 tn + nI (wst (lrn (bF V 2 fr) (bF V 2 to))))) 4 (1 - tn) ((vset V 4 tn (V 4 tn + nI (wst (lrn (bF V 2 fr) (bF V 2 to))))) 4 (1 - tn) - nI (wr (bF V 2 to)))) 5 tn + nI (wr (bF V 2 to)))) 1 6 (nI tn)) _ _ 2 isB_2 hF fr (by first | assumption | omega) to (by first | assumption | omega) _) rfl rfl ⟨by decide, by decide, by decide, by decide⟩ (Nat.le_of_ble_eq_true rfl) rfl ?_
        show Z E G (HM D (vset (vset (vset (vset (vset (vset V 4 tn (V 4 tn + nI (wst (lrn (bF V 2 fr) (bF V 2 to))))) 4 (1 - tn) ((vset V 4 tn (V 4 tn + nI (wst (lrn (bF V 2 fr) (bF V 2 to))))) 4 (1 - tn) - nI (wr (bF V 2 to)))) 5 tn ((vset (vset V 4 tn (V 4 tn + nI (wst (lrn (bF V 2 fr) (bF V 2 to))))) 4 (1 - tn) ((vset V 4 tn (V 4 tn + nI (wst (lrn (bF V 2 fr) (bF V 2 to))))) 4 (1 - tn) - nI (wr (bF V 2 to)))) 5 tn + nI (wr (bF V 2 to)))) 1 6 (nI tn)) 3 to (nI (crr (bF (vset (vset (vset (vset V 4 tn (V 4 tn + nI (wst (lrn (bF V 2 fr) (bF V 2 to))))) 4 (1 - tn) ((vset V 4 tn (V 4 tn + nI (wst (lrn (bF V 2 fr) (bF V 2 to))))) 4 (1 - tn) - nI (wr (bF V 2 to)))) 5 tn ((vset (vset V 4 tn (V 4 tn + nI (wst (lrn (bF V 2 fr) (bF V 2 to))))) 4 (1 - tn) ((vset V 4 tn (V 4 tn + nI (wst (lrn (bF V 2 fr) (bF V 2 to))))) 4 (1 - tn) - nI (wr (bF V 2 to)))) 5 tn + nI (wr (bF V 2 to)))) 1 6 (nI tn)) 2) fr to))) 3 fr (nI 0)) P PH) sz 0 0 (100, [some (.ref (D.1 1)), some (.int (nI fr)), some (.int (nI to)), some (.int (nI (bF V 2 to))), some (.int (nI (wr (bF V 2 to)))), some (.int (nI (1 - tn)))], [])
        refine Z_run C it_Gm_makeMove 2 (f2 := (102, [some (.ref (D.1 1)), some (.int (nI fr)), some (.int (nI to)), some (.int (nI (bF V 2 to))), some (.int (nI (wr (bF V 2 to)))), some (.int (nI (1 - tn)))], [.ref (D.1 1), .ref (D.1 1)])) rfl ?_
        refine Zm_get C it_Gm_makeMove hD rfl 1 wi_Gm (by decide) rfl rfl (j := 4) (by decide) fl_Gm_29 (v := .int (nI md)) (congrArg Value.int hMd) ?_
        refine Z_run C it_Gm_makeMove 2 (f2 := (107, [some (.ref (D.1 1)), some (.int (nI fr)), some (.int (nI to)), some (.int (nI (bF V 2 to))), some (.int (nI (wr (bF V 2 to)))), some (.int (nI (1 - tn)))], [.int (nI md + nI 1), .ref (D.1 1)])) rfl ?_
        rw [nI_add md 1]
        refine Zm_put C it_Gm_makeMove hD rfl 1 wi_Gm t_Gm t_Gm_ok n_Gm (by first | decide | omega) rfl rfl (j := 4) (by decide) fl_Gm_29 rfl rfl rfl rfl ?_
        refine Z_run C it_Gm_makeMove 2 (f2 := (113, [some (.ref (D.1 1)), some (.int (nI fr)), some (.int (nI to)), some (.int (nI (bF V 2 to))), some (.int (nI (wr (bF V 2 to)))), some (.int (nI (1 - tn)))], [.int (nI (1 - tn)), .ref (D.1 1)])) rfl ?_
        refine Zm_put C it_Gm_makeMove hD rfl 1 wi_Gm t_Gm t_Gm_ok n_Gm (by first | decide | omega) rfl rfl (j := 3) (by decide) fl_Gm_25 rfl rfl rfl rfl ?_
        have hVV : (vset (vset (vset (vset (vset (vset (vset (vset V 4 tn (V 4 tn + nI (wst (lrn (bF V 2 fr) (bF V 2 to))))) 4 (1 - tn) ((vset V 4 tn (V 4 tn + nI (wst (lrn (bF V 2 fr) (bF V 2 to))))) 4 (1 - tn) - nI (wr (bF V 2 to)))) 5 tn ((vset (vset V 4 tn (V 4 tn + nI (wst (lrn (bF V 2 fr) (bF V 2 to))))) 4 (1 - tn) ((vset V 4 tn (V 4 tn + nI (wst (lrn (bF V 2 fr) (bF V 2 to))))) 4 (1 - tn) - nI (wr (bF V 2 to)))) 5 tn + nI (wr (bF V 2 to)))) 1 6 (nI tn)) 3 to (nI (crr (bF (vset (vset (vset (vset V 4 tn (V 4 tn + nI (wst (lrn (bF V 2 fr) (bF V 2 to))))) 4 (1 - tn) ((vset V 4 tn (V 4 tn + nI (wst (lrn (bF V 2 fr) (bF V 2 to))))) 4 (1 - tn) - nI (wr (bF V 2 to)))) 5 tn ((vset (vset V 4 tn (V 4 tn + nI (wst (lrn (bF V 2 fr) (bF V 2 to))))) 4 (1 - tn) ((vset V 4 tn (V 4 tn + nI (wst (lrn (bF V 2 fr) (bF V 2 to))))) 4 (1 - tn) - nI (wr (bF V 2 to)))) 5 tn + nI (wr (bF V 2 to)))) 1 6 (nI tn)) 2) fr to))) 3 fr (nI 0)) 1 4 (nI (md + 1))) 1 3 (nI (1 - tn))) = (mvV V fr to tn md true) := rfl
        rw [hVV]
        have eF : bF (mvV V fr to tn md true) 2 = (mvF (bF V 2) fr to) := bF_mv hF hfr
        have hF2 : okF (bF (mvV V fr to tn md true) 2) := by rw [eF]; exact okF_mv hF hfr
        refine Z_run C it_Gm_makeMove 1 (f2 := (117, [some (.ref (D.1 1)), some (.int (nI fr)), some (.int (nI to)), some (.int (nI (bF V 2 to))), some (.int (nI (wr (bF V 2 to)))), some (.int (nI (1 - tn)))], [.ref (D.1 1)])) rfl ?_
        refine Zp_new C it_Gm_makeMove hs rfl kl_Gm_48 (by decide) (by decide) (fun q0 hq0 hBq hn0 hPq => ?_)
        show Z E G (HM D (mvV V fr to tn md true) P (hset PH q0 (4, 0, fs0))) (q0 + 1) 1 7 (120, [some (.ref (D.1 1)), some (.int (nI fr)), some (.int (nI to)), some (.int (nI (bF V 2 to))), some (.int (nI (wr (bF V 2 to)))), some (.int (nI (1 - tn)))], [.ref q0, .ref (D.1 1)])
        refine Z_run C it_Gm_makeMove 2 (f2 := (122, [some (.ref (D.1 1)), some (.int (nI fr)), some (.int (nI to)), some (.int (nI (bF V 2 to))), some (.int (nI (wr (bF V 2 to)))), some (.int (nI (1 - tn)))], [.ref (D.1 1), .ref q0, .ref q0, .ref (D.1 1)])) rfl ?_
        refine Zm_get C it_Gm_makeMove hD rfl 1 wi_Gm (by decide) rfl rfl (j := 7) (by decide) fl_Gm_39 (v := .null) hlv ?_
        refine Z_run C it_Gm_makeMove 1 (f2 := (126, [some (.ref (D.1 1)), some (.int (nI fr)), some (.int (nI to)), some (.int (nI (bF V 2 to))), some (.int (nI (wr (bF V 2 to)))), some (.int (nI (1 - tn)))], [.ref (D.1 1), .null, .ref q0, .ref q0, .ref (D.1 1)])) rfl ?_
        refine Zm_get C it_Gm_makeMove hD rfl 1 wi_Gm (by decide) rfl rfl (j := 0) (by decide) fl_Gm_12 (v := .ref (D.1 2)) rfl ?_
        refine Z_run C it_Gm_makeMove 1 (f2 := (130, [some (.ref (D.1 1)), some (.int (nI fr)), some (.int (nI to)), some (.int (nI (bF V 2 to))), some (.int (nI (wr (bF V 2 to)))), some (.int (nI (1 - tn)))], [.ref (D.1 1), .ref (D.1 2), .null, .ref q0, .ref q0, .ref (D.1 1)])) rfl ?_
        refine Zm_get C it_Gm_makeMove hD rfl 1 wi_Gm (by decide) rfl rfl (j := 3) (by decide) fl_Gm_25 (v := .int (nI (1 - tn))) rfl ?_
        refine Zr_callK C it_Gm_makeMove rfl p_Ps_init (host := R_Xx) (Or.inl ml_Gm_85) [.null, .ref (D.1 2), .int (nI (1 - tn))] (ct_Ps_init_n C.ev C.l hD _ _ _ 2 isB_2 hF2 hP q0 (1 - tn) (by omega) hn0 hBq hPq [] (by rw [← hlv]; exact hch) _) rfl rfl ⟨by decide, by decide, by decide, by decide⟩ (Nat.le_of_ble_eq_true rfl) rfl ?_
        show Z E G (HM D (mvV V fr to tn md true) P (hset PH q0 (pcl (.null) (1 - tn) (pq4 (bF (mvV V fr to tn md true) 2)) (n1t (1 - tn) (bF (mvV V fr to tn md true) 2) [])))) (q0 + 1) 1 7 (136, [some (.ref (D.1 1)), some (.int (nI fr)), some (.int (nI to)), some (.int (nI (bF V 2 to))), some (.int (nI (wr (bF V 2 to)))), some (.int (nI (1 - tn)))], [.ref q0, .ref (D.1 1)])
        refine Zm_putr C it_Gm_makeMove hD rfl 1 wi_Gm t_Gm t_Gm_ok n_Gm (by first | decide | omega) rfl rfl (j := 7) (by decide) fl_Gm_39 rfl rfl (x := .ref q0) rfl rfl ?_
        refine Z_run C it_Gm_makeMove 2 (f2 := (141, [some (.ref (D.1 1)), some (.int (nI fr)), some (.int (nI to)), some (.int (nI (bF V 2 to))), some (.int (nI (wr (bF V 2 to)))), some (.int (nI (1 - tn)))], [.ref (D.1 1), .ref (D.1 1)])) rfl ?_
        refine Zm_get C it_Gm_makeMove hD rfl 1 wi_Gm (by decide) rfl rfl (j := 6) (by decide) fl_Gm_36 (v := .int (nI tn)) rfl ?_
        refine Z_run C it_Gm_makeMove 1 (f2 := (145, [some (.ref (D.1 1)), some (.int (nI fr)), some (.int (nI to)), some (.int (nI (bF V 2 to))), some (.int (nI (wr (bF V 2 to)))), some (.int (nI (1 - tn)))], [.int ((-1)), .int (nI tn), .ref (D.1 1)])) rfl ?_
        refine Z_br C it_Gm_makeMove rfl rfl (fun hc2 => ?_) (fun hc2 => ?_)
        · skip
          refine Z_run C it_Gm_makeMove 2 (f2 := (175, [some (.ref (D.1 1)), some (.int (nI fr)), some (.int (nI to)), some (.int (nI (bF V 2 to))), some (.int (nI (wr (bF V 2 to)))), some (.int (nI (1 - tn)))], [.int (nI 1), .ref (D.1 1)])) rfl ?_
          have e9 : nI 1 = bI (ovr (some tn) (n1t (1 - tn) (mvF (bF V 2) fr to) []) (mvs (mvF (bF V 2) fr to) (1 - tn) 36)) := by have z9 : (ovr (some tn) (n1t (1 - tn) (mvF (bF V 2) fr to) []) (mvs (mvF (bF V 2) fr to) (1 - tn) 36)) = true := (by rw [← eF]; clear hVV eF hF2 q h31 hch; unfold ovr; simp_all <;> omega); rw [z9]; rfl
          rw [e9]
          refine Zm_put C it_Gm_makeMove hD rfl 1 wi_Gm t_Gm t_Gm_ok n_Gm (by first | decide | omega) rfl rfl (j := 5) (by decide) fl_Gm_32 rfl rfl (zfit_n (by first | exact bI_v | assumption)) (zfit_f (by first | exact bI_v | assumption)) ?_
          refine Z_run C it_Gm_makeMove 1 (f2 := (180, [some (.ref (D.1 1)), some (.int (nI fr)), some (.int (nI to)), some (.int (nI (bF V 2 to))), some (.int (nI (wr (bF V 2 to)))), some (.int (nI (1 - tn)))], [.int (nI (wr (bF V 2 to)))])) rfl ?_
          exact Z_iret C q.e it_Gm_makeMove rfl (⟨q0, hq0, hn0, hPq, rfl, by rw [hlv, hld, ← eF]; rfl, rfl⟩) (by decide) (by decide)
        · exact absurd (Classical.not_not.mp hc2) (nI_m1 (by omega))
  | cons p L =>
    obtain ⟨q9, ev9, hlv, hq9, hpk9, hch9⟩ := id hch
    cases hld : ldr (bF V 2 to) with
    | false =>
      rw [← hld]
      refine zM_of hE hl (by decide +kernel) [some (.ref (D.1 1)), some (.int (nI fr)), some (.int (nI to)), none, none, none] ⟨rfl, rfl, Nat.le_of_ble_eq_true rfl⟩ ?_
      intro G C q htb
      refine Z_run C it_Gm_makeMove 1 (f2 := (1, [some (.ref (D.1 1)), some (.int (nI fr)), some (.int (nI to)), none, none, none], [.ref (D.1 1)])) rfl ?_
      refine Zm_get C it_Gm_makeMove hD rfl 1 wi_Gm (by decide) rfl rfl (j := 0) (by decide) fl_Gm_12 (v := .ref (D.1 2)) rfl ?_
      refine Z_run C it_Gm_makeMove 1 (f2 := (5, [some (.ref (D.1 1)), some (.int (nI fr)), some (.int (nI to)), none, none, none], [.int (nI to), .ref (D.1 2)])) rfl ?_
      refine Zr_callV C it_Gm_makeMove hD rfl p_Bd_pieceOn ml_Gm_79 2 (by decide) rfl rfl [.int (nI to)] (ct_Bd_pieceOn C.ev C.l hD _ _ _ 2 isB_2 to (by first | assumption | omega) _) rfl rfl ⟨by decide, by decide, by decide, by decide⟩ (Nat.le_of_ble_eq_true rfl) rfl ?_
      show Z E G (HM D V P PH) sz 0 0 (8, [some (.ref (D.1 1)), some (.int (nI fr)), some (.int (nI to)), none, none, none], [.int (nI (bF V 2 to))])
      refine Z_run C it_Gm_makeMove 2 (f2 := (10, [some (.ref (D.1 1)), some (.int (nI fr)), some (.int (nI to)), some (.int (nI (bF V 2 to))), none, none], [.int (nI (bF V 2 to))])) rfl ?_
      refine Zr_callS C it_Gm_makeMove rfl p_Pc_worthOf ml_Gm_76 [.int (nI (bF V 2 to))] (ct_Pc_worthOf C.ev C.l hD _ _ _ (bF V 2 to) (by first | assumption | omega | exact hF _ (by omega)) _) rfl rfl ⟨by decide, by decide, by decide, by decide⟩ (Nat.le_of_ble_eq_true rfl) rfl ?_
      show Z E G (HM D V P PH) sz 0 0 (13, [some (.ref (D.1 1)), some (.int (nI fr)), some (.int (nI to)), some (.int (nI (bF V 2 to))), none, none], [.int (nI (wr (bF V 2 to)))])
      refine Z_run C it_Gm_makeMove 3 (f2 := (17, [some (.ref (D.1 1)), some (.int (nI fr)), some (.int (nI to)), some (.int (nI (bF V 2 to))), some (.int (nI (wr (bF V 2 to)))), none], [.ref (D.1 1), .int (nI 1)])) rfl ?_
      refine Zm_get C it_Gm_makeMove hD rfl 1 wi_Gm (by decide) rfl rfl (j := 3) (by decide) fl_Gm_25 (v := .int (nI tn)) (congrArg Value.int hT) ?_
      refine Z_run C it_Gm_makeMove 1 (f2 := (21, [some (.ref (D.1 1)), some (.int (nI fr)), some (.int (nI to)), some (.int (nI (bF V 2 to))), some (.int (nI (wr (bF V 2 to)))), none], [.int (nI 1 - nI tn)])) rfl ?_
      have e1 : nI 1 - nI tn = nI (1 - tn) := nI_sub (by omega)
      rw [e1]
      refine Z_run C it_Gm_makeMove 2 (f2 := (24, [some (.ref (D.1 1)), some (.int (nI fr)), some (.int (nI to)), some (.int (nI (bF V 2 to))), some (.int (nI (wr (bF V 2 to)))), some (.int (nI (1 - tn)))], [.ref (D.1 1)])) rfl ?_
      refine Zm_get C it_Gm_makeMove hD rfl 1 wi_Gm (by decide) rfl rfl (j := 1) (by decide) fl_Gm_18 (v := .ref (D.1 4)) rfl ?_
      refine Z_run C it_Gm_makeMove 1 (f2 := (28, [some (.ref (D.1 1)), some (.int (nI fr)), some (.int (nI to)), some (.int (nI (bF V 2 to))), some (.int (nI (wr (bF V 2 to)))), some (.int (nI (1 - tn)))], [.ref (D.1 1), .ref (D.1 4)])) rfl ?_
      refine Zm_get C it_Gm_makeMove hD rfl 1 wi_Gm (by decide) rfl rfl (j := 3) (by decide) fl_Gm_25 (v := .int (nI tn)) (congrArg Value.int hT) ?_
      refine Z_run C it_Gm_makeMove 1 (f2 := (32, [some (.ref (D.1 1)), some (.int (nI fr)), some (.int (nI to)), some (.int (nI (bF V 2 to))), some (.int (nI (wr (bF V 2 to)))), some (.int (nI (1 - tn)))], [.int (nI tn), .ref (D.1 4), .int (nI tn), .ref (D.1 4)])) rfl ?_
      refine Zm_ald C it_Gm_makeMove hD 4 10 rfl (by decide) rfl (by decide) (by decide) rfl (j := tn) (by omega) (v := .int (V 4 tn)) rfl ?_
      refine Z_run C it_Gm_makeMove 1 (f2 := (34, [some (.ref (D.1 1)), some (.int (nI fr)), some (.int (nI to)), some (.int (nI (bF V 2 to))), some (.int (nI (wr (bF V 2 to)))), some (.int (nI (1 - tn)))], [.ref (D.1 1), .int (V 4 tn), .int (nI tn), .ref (D.1 4)])) rfl ?_
      refine Zm_get C it_Gm_makeMove hD rfl 1 wi_Gm (by decide) rfl rfl (j := 0) (by decide) fl_Gm_12 (v := .ref (D.1 2)) rfl ?_
      refine Z_run C it_Gm_makeMove 1 (f2 := (38, [some (.ref (D.1 1)), some (.int (nI fr)), some (.int (nI to)), some (.int (nI (bF V 2 to))), some (.int (nI (wr (bF V 2 to)))), some (.int (nI (1 - tn)))], [.int (nI fr), .ref (D.1 2), .int (V 4 tn), .int (nI tn), .ref (D.1 4)])) rfl ?_
      refine Zr_callV C it_Gm_makeMove hD rfl p_Bd_pieceOn ml_Gm_79 2 (by decide) rfl rfl [.int (nI fr)] (ct_Bd_pieceOn C.ev C.l hD _ _ _ 2 isB_2 fr (by first | assumption | omega) _) rfl rfl ⟨by decide, by decide, by decide, by decide⟩ (Nat.le_of_ble_eq_true rfl) rfl ?_
      show Z E G (HM D V P PH) sz 0 0 (41, [some (.ref (D.1 1)), some (.int (nI fr)), some (.int (nI to)), some (.int (nI (bF V 2 to))), some (.int (nI (wr (bF V 2 to)))), some (.int (nI (1 - tn)))], [.int (nI (bF V 2 fr)), .int (V 4 tn), .int (nI tn), .ref (D.1 4)])
      refine Z_run C it_Gm_makeMove 1 (f2 := (42, [some (.ref (D.1 1)), some (.int (nI fr)), some (.int (nI to)), some (.int (nI (bF V 2 to))), some (.int (nI (wr (bF V 2 to)))), some (.int (nI (1 - tn)))], [.int (nI (bF V 2 to)), .int (nI (bF V 2 fr)), .int (V 4 tn), .int (nI tn), .ref (D.1 4)])) rfl ?_
      refine Zr_callS C it_Gm_makeMove rfl p_Pc_learnt ml_Gm_96 [.int (nI (bF V 2 fr)), .int (nI (bF V 2 to))] (ct_Pc_learnt C.ev C.l (bF V 2 fr) (by first | assumption | omega | exact hF _ (by omega)) (bF V 2 to) (by first | assumption | omega | exact hF _ (by omega)) _ _) rfl rfl ⟨by decide, by decide, by decide, by decide⟩ (Nat.le_of_ble_eq_true rfl) rfl ?_
      show Z E G (HM D V P PH) sz 0 0 (45, [some (.ref (D.1 1)), some (.int (nI fr)), some (.int (nI to)), some (.int (nI (bF V 2 to))), some (.int (nI (wr (bF V 2 to)))), some (.int (nI (1 - tn)))], [.int (nI (lrn (bF V 2 fr) (bF V 2 to))), .int (V 4 tn), .int (nI tn), .ref (D.1 4)])
      refine Zr_callS C it_Gm_makeMove rfl p_Pc_worthOfSteps ml_Gm_100 [.int (nI (lrn (bF V 2 fr) (bF V 2 to)))] (ct_Pc_worthOfSteps C.ev C.l hD _ _ _ (lrn (bF V 2 fr) (bF V 2 to)) (by first | exact stp_lt _ | exact lrn_lt _ _ | assumption | omega) _) rfl rfl ⟨by decide, by decide, by decide, by decide⟩ (Nat.le_of_ble_eq_true rfl) rfl ?_
      show Z E G (HM D V P PH) sz 0 0 (48, [some (.ref (D.1 1)), some (.int (nI fr)), some (.int (nI to)), some (.int (nI (bF V 2 to))), some (.int (nI (wr (bF V 2 to)))), some (.int (nI (1 - tn)))], [.int (nI (wst (lrn (bF V 2 fr) (bF V 2 to)))), .int (V 4 tn), .int (nI tn), .ref (D.1 4)])
      refine Z_run C it_Gm_makeMove 1 (f2 := (49, [some (.ref (D.1 1)), some (.int (nI fr)), some (.int (nI to)), some (.int (nI (bF V 2 to))), some (.int (nI (wr (bF V 2 to)))), some (.int (nI (1 - tn)))], [.int (V 4 tn + nI (wst (lrn (bF V 2 fr) (bF V 2 to)))), .int (nI tn), .ref (D.1 4)])) rfl ?_
      refine Zm_ast C it_Gm_makeMove hD 4 10 rfl (by first | decide | exact isB_k hb | omega) rfl (by decide) rfl (j := tn) (by omega) trivial rfl ?_
      refine Z_run C it_Gm_makeMove 1 (f2 := (51, [some (.ref (D.1 1)), some (.int (nI fr)), some (.int (nI to)), some (.int (nI (bF V 2 to))), some (.int (nI (wr (bF V 2 to)))), some (.int (nI (1 - tn)))], [.ref (D.1 1)])) rfl ?_
      refine Zm_get C it_Gm_makeMove hD rfl 1 wi_Gm (by decide) rfl rfl (j := 1) (by decide) fl_Gm_18 (v := .ref (D.1 4)) rfl ?_
      refine Z_run C it_Gm_makeMove 2 (f2 := (57, [some (.ref (D.1 1)), some (.int (nI fr)), some (.int (nI to)), some (.int (nI (bF V 2 to))), some (.int (nI (wr (bF V 2 to)))), some (.int (nI (1 - tn)))], [.int (nI (1 - tn)), .ref (D.1 4), .int (nI (1 - tn)), .ref (D.1 4)])) rfl ?_
      refine Zm_ald C it_Gm_makeMove hD 4 10 rfl (by decide) rfl (by decide) (by decide) rfl (j := 1 - tn) (by omega) (v := .int ((vset V 4 tn (V 4 tn + nI (wst (lrn (bF V 2 fr) (bF V 2 to))))) 4 (1 - tn))) rfl ?_
      refine Z_run C it_Gm_makeMove 2 (f2 := (61, [some (.ref (D.1 1)), some (.int (nI fr)), some (.int (nI to)), some (.int (nI (bF V 2 to))), some (.int (nI (wr (bF V 2 to)))), some (.int (nI (1 - tn)))], [.int ((vset V 4 tn (V 4 tn + nI (wst (lrn (bF V 2 fr) (bF V 2 to))))) 4 (1 - tn) - nI (wr (bF V 2 to))), .int (nI (1 - tn)), .ref (D.1 4)])) rfl ?_
      refine Zm_ast C it_Gm_makeMove hD 4 10 rfl (by first | decide | exact isB_k hb | omega) rfl (by decide) rfl (j := 1 - tn) (by omega) trivial rfl ?_
      refine Z_run C it_Gm_makeMove 1 (f2 := (63, [some (.ref (D.1 1)), some (.int (nI fr)), some (.int (nI to)), some (.int (nI (bF V 2 to))), some (.int (nI (wr (bF V 2 to)))), some (.int (nI (1 - tn)))], [.ref (D.1 1)])) rfl ?_
      refine Zm_get C it_Gm_makeMove hD rfl 1 wi_Gm (by decide) rfl rfl (j := 2) (by decide) fl_Gm_22 (v := .ref (D.1 5)) rfl ?_
      refine Z_run C it_Gm_makeMove 1 (f2 := (67, [some (.ref (D.1 1)), some (.int (nI fr)), some (.int (nI to)), some (.int (nI (bF V 2 to))), some (.int (nI (wr (bF V 2 to)))), some (.int (nI (1 - tn)))], [.ref (D.1 1), .ref (D.1 5)])) rfl ?_
      refine Zm_get C it_Gm_makeMove hD rfl 1 wi_Gm (by decide) rfl rfl (j := 3) (by decide) fl_Gm_25 (v := .int (nI tn)) (congrArg Value.int hT) ?_
      refine Z_run C it_Gm_makeMove 1 (f2 := (71, [some (.ref (D.1 1)), some (.int (nI fr)), some (.int (nI to)), some (.int (nI (bF V 2 to))), some (.int (nI (wr (bF V 2 to)))), some (.int (nI (1 - tn)))], [.int (nI tn), .ref (D.1 5), .int (nI tn), .ref (D.1 5)])) rfl ?_
      refine Zm_ald C it_Gm_makeMove hD 5 10 rfl (by decide) rfl (by decide) (by decide) rfl (j := tn) (by omega) (v := .int ((vset (vset V 4 tn (V 4 tn + nI (wst (lrn (bF V 2 fr) (bF V 2 to))))) 4 (1 - tn) ((vset V 4 tn (V 4 tn + nI (wst (lrn (bF V 2 fr) (bF V 2 to))))) 4 (1 - tn) - nI (wr (bF V 2 to)))) 5 tn)) rfl ?_
      refine Z_run C it_Gm_makeMove 2 (f2 := (75, [some (.ref (D.1 1)), some (.int (nI fr)), some (.int (nI to)), some (.int (nI (bF V 2 to))), some (.int (nI (wr (bF V 2 to)))), some (.int (nI (1 - tn)))], [.int ((vset (vset V 4 tn (V 4 tn + nI (wst (lrn (bF V 2 fr) (bF V 2 to))))) 4 (1 - tn) ((vset V 4 tn (V 4 tn + nI (wst (lrn (bF V 2 fr) (bF V 2 to))))) 4 (1 - tn) - nI (wr (bF V 2 to)))) 5 tn + nI (wr (bF V 2 to))), .int (nI tn), .ref (D.1 5)])) rfl ?_
      refine Zm_ast C it_Gm_makeMove hD 5 10 rfl (by first | decide | exact isB_k hb | omega) rfl (by decide) rfl (j := tn) (by omega) trivial rfl ?_
      refine Z_run C it_Gm_makeMove 1 (f2 := (77, [some (.ref (D.1 1)), some (.int (nI fr)), some (.int (nI to)), some (.int (nI (bF V 2 to))), some (.int (nI (wr (bF V 2 to)))), some (.int (nI (1 - tn)))], [.int (nI (bF V 2 to))])) rfl ?_
      refine Zr_callS C it_Gm_makeMove rfl p_Pc_leads ml_Gm_103 [.int (nI (bF V 2 to))] (ct_Pc_leads C.ev C.l (bF V 2 to) (by first | assumption | omega | exact hF _ (by omega)) _ _) rfl rfl ⟨by decide, by decide, by decide, by decide⟩ (Nat.le_of_ble_eq_true rfl) rfl ?_
      show Z E G (HM D (vset (vset (vset V 4 tn (V 4 tn + nI (wst (lrn (bF V 2 fr) (bF V 2 to))))) 4 (1 - tn) ((vset V 4 tn (V 4 tn + nI (wst (lrn (bF V 2 fr) (bF V 2 to))))) 4 (1 - tn) - nI (wr (bF V 2 to)))) 5 tn ((vset (vset V 4 tn (V 4 tn + nI (wst (lrn (bF V 2 fr) (bF V 2 to))))) 4 (1 - tn) ((vset V 4 tn (V 4 tn + nI (wst (lrn (bF V 2 fr) (bF V 2 to))))) 4 (1 - tn) - nI (wr (bF V 2 to)))) 5 tn + nI (wr (bF V 2 to)))) P PH) sz 0 0 (80, [some (.ref (D.1 1)), some (.int (nI fr)), some (.int (nI to)), some (.int (nI (bF V 2 to))), some (.int (nI (wr (bF V 2 to)))), some (.int (nI (1 - tn)))], [.int (bI (ldr (bF V 2 to)))])
      refine Z_br C it_Gm_makeMove rfl rfl (fun hc1 => ?_) (fun hc1 => ?_)
      · skip
        refine Z_run C it_Gm_makeMove 1 (f2 := (92, [some (.ref (D.1 1)), some (.int (nI fr)), some (.int (nI to)), some (.int (nI (bF V 2 to))), some (.int (nI (wr (bF V 2 to)))), some (.int (nI (1 - tn)))], [.ref (D.1 1)])) rfl ?_
        refine Zm_get C it_Gm_makeMove hD rfl 1 wi_Gm (by decide) rfl rfl (j := 0) (by decide) fl_Gm_12 (v := .ref (D.1 2)) rfl ?_
        refine Z_run C it_Gm_makeMove 2 (f2 := (97, [some (.ref (D.1 1)), some (.int (nI fr)), some (.int (nI to)), some (.int (nI (bF V 2 to))), some (.int (nI (wr (bF V 2 to)))), some (.int (nI (1 - tn)))], [.int (nI to), .int (nI fr), .ref (D.1 2)])) rfl ?_
        refine Zr_callV C it_Gm_makeMove hD rfl p_Bd_carry ml_Gm_106 2 (by decide) rfl rfl [.int (nI fr), .int (nI to)] (ct_Bd_carry C.ev C.l hD (vset (vset (vset V 4 tn (V 4 tn + nI (wst (lrn (bF V 2 fr) (bF V 2 to))))) 4 (1 - tn) ((vset V 4 tn (V 4 tn + nI (wst (lrn (bF V 2 fr) (bF V 2 to))))) 4 (1 - tn) - nI (wr (bF V 2 to)))) 5 tn ((vset (vset V 4 tn (V 4 tn + nI (wst (lrn (bF V 2 fr) (bF V 2 to))))) 4 (1 - tn) ((vset V 4 tn (V 4 tn + nI (wst (lrn (bF V 2 fr) (bF V 2 to))))) 4 (1 - tn) - nI (wr (bF V 2 to)))) 5 tn + nI (wr (bF V 2 to)))) _ _ 2 isB_2 hF fr (by first | assumption | omega) to (by first | assumption | omega) _) rfl rfl ⟨by decide, by decide, by decide, by decide⟩ (Nat.le_of_ble_eq_true rfl) rfl ?_
        show Z E G (HM D (vset (vset (vset (vset (vset V 4 tn (V 4 tn + nI (wst (lrn (bF V 2 fr) (bF V 2 to))))) 4 (1 - tn) ((vset V 4 tn (V 4 tn + nI (wst (lrn (bF V 2 fr) (bF V 2 to))))) 4 (1 - tn) - nI (wr (bF V 2 to)))) 5 tn ((vset (vset V 4 tn (V 4 tn + nI (wst (lrn (bF V 2 fr) (bF V 2 to))))) 4 (1 - tn) ((vset V 4 tn (V 4 tn + nI (wst (lrn (bF V 2 fr) (bF V 2 to))))) 4 (1 - tn) - nI (wr (bF V 2 to)))) 5 tn + nI (wr (bF V 2 to)))) 3 to (nI (crr (bF (vset (vset (vset V 4 tn (V 4 tn + nI (wst (lrn (bF V 2 fr) (bF V 2 to))))) 4 (1 - tn) ((vset V 4 tn (V 4 tn + nI (wst (lrn (bF V 2 fr) (bF V 2 to))))) 4 (1 - tn) - nI (wr (bF V 2 to)))) 5 tn ((vset (vset V 4 tn (V 4 tn + nI (wst (lrn (bF V 2 fr) (bF V 2 to))))) 4 (1 - tn) ((vset V 4 tn (V 4 tn + nI (wst (lrn (bF V 2 fr) (bF V 2 to))))) 4 (1 - tn) - nI (wr (bF V 2 to)))) 5 tn + nI (wr (bF V 2 to)))) 2) fr to))) 3 fr (nI 0)) P PH) sz 0 0 (100, [some (.ref (D.1 1)), some (.int (nI fr)), some (.int (nI to)), some (.int (nI (bF V 2 to))), some (.int (nI (wr (bF V 2 to)))), some (.int (nI (1 - tn)))], [])
        refine Z_run C it_Gm_makeMove 2 (f2 := (102, [some (.ref (D.1 1)), some (.int (nI fr)), some (.int (nI to)), some (.int (nI (bF V 2 to))), some (.int (nI (wr (bF V 2 to)))), some (.int (nI (1 - tn)))], [.ref (D.1 1), .ref (D.1 1)])) rfl ?_
        refine Zm_get C it_Gm_makeMove hD rfl 1 wi_Gm (by decide) rfl rfl (j := 4) (by decide) fl_Gm_29 (v := .int (nI md)) (congrArg Value.int hMd) ?_
        refine Z_run C it_Gm_makeMove 2 (f2 := (107, [some (.ref (D.1 1)), some (.int (nI fr)), some (.int (nI to)), some (.int (nI (bF V 2 to))), some (.int (nI (wr (bF V 2 to)))), some (.int (nI (1 - tn)))], [.int (nI md + nI 1), .ref (D.1 1)])) rfl ?_
        rw [nI_add md 1]
        refine Zm_put C it_Gm_makeMove hD rfl 1 wi_Gm t_Gm t_Gm_ok n_Gm (by first | decide | omega) rfl rfl (j := 4) (by decide) fl_Gm_29 rfl rfl rfl rfl ?_
        refine Z_run C it_Gm_makeMove 2 (f2 := (113, [some (.ref (D.1 1)), some (.int (nI fr)), some (.int (nI to)), some (.int (nI (bF V 2 to))), some (.int (nI (wr (bF V 2 to)))), some (.int (nI (1 - tn)))], [.int (nI (1 - tn)), .ref (D.1 1)])) rfl ?_
        refine Zm_put C it_Gm_makeMove hD rfl 1 wi_Gm t_Gm t_Gm_ok n_Gm (by first | decide | omega) rfl rfl (j := 3) (by decide) fl_Gm_25 rfl rfl rfl rfl ?_
        have hVV : (vset (vset (vset (vset (vset (vset (vset V 4 tn (V 4 tn + nI (wst (lrn (bF V 2 fr) (bF V 2 to))))) 4 (1 - tn) ((vset V 4 tn (V 4 tn + nI (wst (lrn (bF V 2 fr) (bF V 2 to))))) 4 (1 - tn) - nI (wr (bF V 2 to)))) 5 tn ((vset (vset V 4 tn (V 4 tn + nI (wst (lrn (bF V 2 fr) (bF V 2 to))))) 4 (1 - tn) ((vset V 4 tn (V 4 tn + nI (wst (lrn (bF V 2 fr) (bF V 2 to))))) 4 (1 - tn) - nI (wr (bF V 2 to)))) 5 tn + nI (wr (bF V 2 to)))) 3 to (nI (crr (bF (vset (vset (vset V 4 tn (V 4 tn + nI (wst (lrn (bF V 2 fr) (bF V 2 to))))) 4 (1 - tn) ((vset V 4 tn (V 4 tn + nI (wst (lrn (bF V 2 fr) (bF V 2 to))))) 4 (1 - tn) - nI (wr (bF V 2 to)))) 5 tn ((vset (vset V 4 tn (V 4 tn + nI (wst (lrn (bF V 2 fr) (bF V 2 to))))) 4 (1 - tn) ((vset V 4 tn (V 4 tn + nI (wst (lrn (bF V 2 fr) (bF V 2 to))))) 4 (1 - tn) - nI (wr (bF V 2 to)))) 5 tn + nI (wr (bF V 2 to)))) 2) fr to))) 3 fr (nI 0)) 1 4 (nI (md + 1))) 1 3 (nI (1 - tn))) = (mvV V fr to tn md false) := rfl
        rw [hVV]
        have eF : bF (mvV V fr to tn md false) 2 = (mvF (bF V 2) fr to) := bF_mv hF hfr
        have hF2 : okF (bF (mvV V fr to tn md false) 2) := by rw [eF]; exact okF_mv hF hfr
        refine Z_run C it_Gm_makeMove 1 (f2 := (117, [some (.ref (D.1 1)), some (.int (nI fr)), some (.int (nI to)), some (.int (nI (bF V 2 to))), some (.int (nI (wr (bF V 2 to)))), some (.int (nI (1 - tn)))], [.ref (D.1 1)])) rfl ?_
        refine Zp_new C it_Gm_makeMove hs rfl kl_Gm_48 (by decide) (by decide) (fun q0 hq0 hBq hn0 hPq => ?_)
        show Z E G (HM D (mvV V fr to tn md false) P (hset PH q0 (4, 0, fs0))) (q0 + 1) 1 7 (120, [some (.ref (D.1 1)), some (.int (nI fr)), some (.int (nI to)), some (.int (nI (bF V 2 to))), some (.int (nI (wr (bF V 2 to)))), some (.int (nI (1 - tn)))], [.ref q0, .ref (D.1 1)])
        refine Z_run C it_Gm_makeMove 2 (f2 := (122, [some (.ref (D.1 1)), some (.int (nI fr)), some (.int (nI to)), some (.int (nI (bF V 2 to))), some (.int (nI (wr (bF V 2 to)))), some (.int (nI (1 - tn)))], [.ref (D.1 1), .ref q0, .ref q0, .ref (D.1 1)])) rfl ?_
        refine Zm_get C it_Gm_makeMove hD rfl 1 wi_Gm (by decide) rfl rfl (j := 7) (by decide) fl_Gm_39 (v := .ref q9) hlv ?_
        refine Z_run C it_Gm_makeMove 1 (f2 := (126, [some (.ref (D.1 1)), some (.int (nI fr)), some (.int (nI to)), some (.int (nI (bF V 2 to))), some (.int (nI (wr (bF V 2 to)))), some (.int (nI (1 - tn)))], [.ref (D.1 1), .ref q9, .ref q0, .ref q0, .ref (D.1 1)])) rfl ?_
        refine Zm_get C it_Gm_makeMove hD rfl 1 wi_Gm (by decide) rfl rfl (j := 0) (by decide) fl_Gm_12 (v := .ref (D.1 2)) rfl ?_
        refine Z_run C it_Gm_makeMove 1 (f2 := (130, [some (.ref (D.1 1)), some (.int (nI fr)), some (.int (nI to)), some (.int (nI (bF V 2 to))), some (.int (nI (wr (bF V 2 to)))), some (.int (nI (1 - tn)))], [.ref (D.1 1), .ref (D.1 2), .ref q9, .ref q0, .ref q0, .ref (D.1 1)])) rfl ?_
        refine Zm_get C it_Gm_makeMove hD rfl 1 wi_Gm (by decide) rfl rfl (j := 3) (by decide) fl_Gm_25 (v := .int (nI (1 - tn))) rfl ?_
        refine Zr_callK C it_Gm_makeMove rfl p_Ps_init (host := R_Xx) (Or.inl ml_Gm_85) [.ref q9, .ref (D.1 2), .int (nI (1 - tn))] (ct_Ps_init_r C.ev C.l hD _ _ _ 2 isB_2 hF2 hP q0 (1 - tn) (by omega) hn0 hBq hPq q9 (p :: L) (by rw [← hlv]; exact hch) _) rfl rfl ⟨by decide, by decide, by decide, by decide⟩ (Nat.le_of_ble_eq_true rfl) rfl ?_
        show Z E G (HM D (mvV V fr to tn md false) P (hset PH q0 (pcl (.ref q9) (1 - tn) (pq4 (bF (mvV V fr to tn md false) 2)) (n1t (1 - tn) (bF (mvV V fr to tn md false) 2) (p :: L))))) (q0 + 1) 1 7 (136, [some (.ref (D.1 1)), some (.int (nI fr)), some (.int (nI to)), some (.int (nI (bF V 2 to))), some (.int (nI (wr (bF V 2 to)))), some (.int (nI (1 - tn)))], [.ref q0, .ref (D.1 1)])
        refine Zm_putr C it_Gm_makeMove hD rfl 1 wi_Gm t_Gm t_Gm_ok n_Gm (by first | decide | omega) rfl rfl (j := 7) (by decide) fl_Gm_39 rfl rfl (x := .ref q0) rfl rfl ?_
        refine Z_run C it_Gm_makeMove 2 (f2 := (141, [some (.ref (D.1 1)), some (.int (nI fr)), some (.int (nI to)), some (.int (nI (bF V 2 to))), some (.int (nI (wr (bF V 2 to)))), some (.int (nI (1 - tn)))], [.ref (D.1 1), .ref (D.1 1)])) rfl ?_
        refine Zm_get C it_Gm_makeMove hD rfl 1 wi_Gm (by decide) rfl rfl (j := 6) (by decide) fl_Gm_36 (v := .int (oI ch)) (congrArg Value.int hCh) ?_
        refine Z_run C it_Gm_makeMove 1 (f2 := (145, [some (.ref (D.1 1)), some (.int (nI fr)), some (.int (nI to)), some (.int (nI (bF V 2 to))), some (.int (nI (wr (bF V 2 to)))), some (.int (nI (1 - tn)))], [.int ((-1)), .int (oI ch), .ref (D.1 1)])) rfl ?_
        refine Z_br C it_Gm_makeMove rfl rfl (fun hc2 => ?_) (fun hc2 => ?_)
        · replace hc2 : ch.isSome = true := by cases ch with | none => exact absurd rfl hc2 | some c9 => rfl
          refine Z_run C it_Gm_makeMove 2 (f2 := (175, [some (.ref (D.1 1)), some (.int (nI fr)), some (.int (nI to)), some (.int (nI (bF V 2 to))), some (.int (nI (wr (bF V 2 to)))), some (.int (nI (1 - tn)))], [.int (nI 1), .ref (D.1 1)])) rfl ?_
          have e9 : nI 1 = bI (ovr ch (n1t (1 - tn) (mvF (bF V 2) fr to) (p :: L)) (mvs (mvF (bF V 2) fr to) (1 - tn) 36)) := by have z9 : (ovr ch (n1t (1 - tn) (mvF (bF V 2) fr to) (p :: L)) (mvs (mvF (bF V 2) fr to) (1 - tn) 36)) = true := (by rw [← eF]; clear hVV eF hF2 q h31 hch; unfold ovr; simp_all <;> omega); rw [z9]; rfl
          rw [e9]
          refine Zm_put C it_Gm_makeMove hD rfl 1 wi_Gm t_Gm t_Gm_ok n_Gm (by first | decide | omega) rfl rfl (j := 5) (by decide) fl_Gm_32 rfl rfl (zfit_n (by first | exact bI_v | assumption)) (zfit_f (by first | exact bI_v | assumption)) ?_
          refine Z_run C it_Gm_makeMove 1 (f2 := (180, [some (.ref (D.1 1)), some (.int (nI fr)), some (.int (nI to)), some (.int (nI (bF V 2 to))), some (.int (nI (wr (bF V 2 to)))), some (.int (nI (1 - tn)))], [.int (nI (wr (bF V 2 to)))])) rfl ?_
          exact Z_iret C q.e it_Gm_makeMove rfl (⟨q0, hq0, hn0, hPq, rfl, by rw [hlv, hld, ← eF]; rfl, rfl⟩) (by decide) (by decide)
        · replace hc2 : ch.isSome = false := by cases ch with | none => rfl | some c9 => exact absurd (Classical.not_not.mp hc2) (nI_m1 (by have := hcz c9 rfl; omega))
          refine Z_run C it_Gm_makeMove 1 (f2 := (149, [some (.ref (D.1 1)), some (.int (nI fr)), some (.int (nI to)), some (.int (nI (bF V 2 to))), some (.int (nI (wr (bF V 2 to)))), some (.int (nI (1 - tn)))], [.ref (D.1 1), .ref (D.1 1)])) rfl ?_
          refine Zr_callV C it_Gm_makeMove hD rfl p_Gm_timesOfBoard ml_Gm_109 1 (by decide) rfl rfl [] (ct_Gm_timesOfBoard C.ev C.l hD _ _ _ (okP_set hP hn0) (((1 - tn, pq4 (bF (mvV V fr to tn md false) 2), n1t (1 - tn) (bF (mvV V fr to tn md false) 2) (p :: L)) : zPos) :: (p :: L)) ⟨q0, .ref q9, rfl, hset_s, ⟨by show 1 - tn < 2; omega, fun i hi => qtr_63 hF2 (by omega) (by omega), h31 _ _⟩, chn_set hPq (by rw [← hlv]; exact hch)⟩ _) rfl rfl ⟨by decide, by decide, by decide, by decide⟩ (Nat.le_of_ble_eq_true rfl) rfl ?_
          show Z E G (HM D (mvV V fr to tn md false) (pset P 1 7 (.ref q0)) (hset PH q0 (pcl (.ref q9) (1 - tn) (pq4 (bF (mvV V fr to tn md false) 2)) (n1t (1 - tn) (bF (mvV V fr to tn md false) 2) (p :: L))))) (q0 + 1) 1 7 (152, [some (.ref (D.1 1)), some (.int (nI fr)), some (.int (nI to)), some (.int (nI (bF V 2 to))), some (.int (nI (wr (bF V 2 to)))), some (.int (nI (1 - tn)))], [.int (nI (n1t (1 - tn) (bF (mvV V fr to tn md false) 2) (p :: L))), .ref (D.1 1)])
          have hmv2 := mvs_le (bF (mvV V fr to tn md false) 2) (1 - tn) (n := 36) (by omega)
          have h3x : n1t (1 - tn) (bF (mvV V fr to tn md false) 2) (p :: L) < 2 ^ 31 := h31 _ _
          refine Z_run C it_Gm_makeMove 1 (f2 := (153, [some (.ref (D.1 1)), some (.int (nI fr)), some (.int (nI to)), some (.int (nI (bF V 2 to))), some (.int (nI (wr (bF V 2 to)))), some (.int (nI (1 - tn)))], [.int (nI 3), .int (nI (n1t (1 - tn) (bF (mvV V fr to tn md false) 2) (p :: L))), .ref (D.1 1)])) rfl ?_
          refine Z_br C it_Gm_makeMove rfl rfl (fun hc3 => ?_) (fun hc3 => ?_)
          · replace hc3 := (nI_leI (a := 3) (b := n1t (1 - tn) (bF (mvV V fr to tn md false) 2) (p :: L)) (by omega) (by omega)).mp hc3
            refine Z_run C it_Gm_makeMove 2 (f2 := (175, [some (.ref (D.1 1)), some (.int (nI fr)), some (.int (nI to)), some (.int (nI (bF V 2 to))), some (.int (nI (wr (bF V 2 to)))), some (.int (nI (1 - tn)))], [.int (nI 1), .ref (D.1 1)])) rfl ?_
            have e9 : nI 1 = bI (ovr ch (n1t (1 - tn) (mvF (bF V 2) fr to) (p :: L)) (mvs (mvF (bF V 2) fr to) (1 - tn) 36)) := by have z9 : (ovr ch (n1t (1 - tn) (mvF (bF V 2) fr to) (p :: L)) (mvs (mvF (bF V 2) fr to) (1 - tn) 36)) = true := (by rw [← eF]; clear hVV eF hF2 q h31 hch; unfold ovr; simp_all <;> omega); rw [z9]; rfl
            rw [e9]
            refine Zm_put C it_Gm_makeMove hD rfl 1 wi_Gm t_Gm t_Gm_ok n_Gm (by first | decide | omega) rfl rfl (j := 5) (by decide) fl_Gm_32 rfl rfl (zfit_n (by first | exact bI_v | assumption)) (zfit_f (by first | exact bI_v | assumption)) ?_
            refine Z_run C it_Gm_makeMove 1 (f2 := (180, [some (.ref (D.1 1)), some (.int (nI fr)), some (.int (nI to)), some (.int (nI (bF V 2 to))), some (.int (nI (wr (bF V 2 to)))), some (.int (nI (1 - tn)))], [.int (nI (wr (bF V 2 to)))])) rfl ?_
            exact Z_iret C q.e it_Gm_makeMove rfl (⟨q0, hq0, hn0, hPq, rfl, by rw [hlv, hld, ← eF]; rfl, rfl⟩) (by decide) (by decide)
          · replace hc3 : ¬ _ := fun z9 => hc3 ((nI_leI (a := 3) (b := n1t (1 - tn) (bF (mvV V fr to tn md false) 2) (p :: L)) (by omega) (by omega)).mpr z9)
            refine Z_run C it_Gm_makeMove 1 (f2 := (157, [some (.ref (D.1 1)), some (.int (nI fr)), some (.int (nI to)), some (.int (nI (bF V 2 to))), some (.int (nI (wr (bF V 2 to)))), some (.int (nI (1 - tn)))], [.ref (D.1 1), .ref (D.1 1)])) rfl ?_
            refine Zm_get C it_Gm_makeMove hD rfl 1 wi_Gm (by decide) rfl rfl (j := 0) (by decide) fl_Gm_12 (v := .ref (D.1 2)) rfl ?_
            refine Z_run C it_Gm_makeMove 1 (f2 := (161, [some (.ref (D.1 1)), some (.int (nI fr)), some (.int (nI to)), some (.int (nI (bF V 2 to))), some (.int (nI (wr (bF V 2 to)))), some (.int (nI (1 - tn)))], [.ref (D.1 1), .ref (D.1 2), .ref (D.1 1)])) rfl ?_
            refine Zm_get C it_Gm_makeMove hD rfl 1 wi_Gm (by decide) rfl rfl (j := 3) (by decide) fl_Gm_25 (v := .int (nI (1 - tn))) rfl ?_
            refine Zr_callV C it_Gm_makeMove hD rfl p_Bd_movesOf ml_Gm_82 2 (by decide) rfl rfl [.int (nI (1 - tn))] (ct_Bd_movesOf C.ev C.l hD (mvV V fr to tn md false) _ _ 2 isB_2 hF2 (1 - tn) (by first | assumption | omega) _) rfl rfl ⟨by decide, by decide, by decide, by decide⟩ (Nat.le_of_ble_eq_true rfl) rfl ?_
            show Z E G (HM D (mvV V fr to tn md false) (pset P 1 7 (.ref q0)) (hset PH q0 (pcl (.ref q9) (1 - tn) (pq4 (bF (mvV V fr to tn md false) 2)) (n1t (1 - tn) (bF (mvV V fr to tn md false) 2) (p :: L))))) (q0 + 1) 1 7 (167, [some (.ref (D.1 1)), some (.int (nI fr)), some (.int (nI to)), some (.int (nI (bF V 2 to))), some (.int (nI (wr (bF V 2 to)))), some (.int (nI (1 - tn)))], [.int (nI (mvs (bF (mvV V fr to tn md false) 2) (1 - tn) 36)), .ref (D.1 1)])
            refine Z_br C it_Gm_makeMove rfl rfl (fun hc4 => ?_) (fun hc4 => ?_)
            · replace hc4 : ¬ _ := fun z9 => hc4 ((nI_e0 (a := mvs (bF (mvV V fr to tn md false) 2) (1 - tn) 36) (by omega)).mpr z9)
              refine Z_run C it_Gm_makeMove 1 (f2 := (175, [some (.ref (D.1 1)), some (.int (nI fr)), some (.int (nI to)), some (.int (nI (bF V 2 to))), some (.int (nI (wr (bF V 2 to)))), some (.int (nI (1 - tn)))], [.int (nI 0), .ref (D.1 1)])) rfl ?_
              have e9 : nI 0 = bI (ovr ch (n1t (1 - tn) (mvF (bF V 2) fr to) (p :: L)) (mvs (mvF (bF V 2) fr to) (1 - tn) 36)) := by have z9 : (ovr ch (n1t (1 - tn) (mvF (bF V 2) fr to) (p :: L)) (mvs (mvF (bF V 2) fr to) (1 - tn) 36)) = false := (by rw [← eF]; clear hVV eF hF2 q h31 hch; unfold ovr; simp_all <;> omega); rw [z9]; rfl
              rw [e9]
              refine Zm_put C it_Gm_makeMove hD rfl 1 wi_Gm t_Gm t_Gm_ok n_Gm (by first | decide | omega) rfl rfl (j := 5) (by decide) fl_Gm_32 rfl rfl (zfit_n (by first | exact bI_v | assumption)) (zfit_f (by first | exact bI_v | assumption)) ?_
              refine Z_run C it_Gm_makeMove 1 (f2 := (180, [some (.ref (D.1 1)), some (.int (nI fr)), some (.int (nI to)), some (.int (nI (bF V 2 to))), some (.int (nI (wr (bF V 2 to)))), some (.int (nI (1 - tn)))], [.int (nI (wr (bF V 2 to)))])) rfl ?_
              exact Z_iret C q.e it_Gm_makeMove rfl (⟨q0, hq0, hn0, hPq, rfl, by rw [hlv, hld, ← eF]; rfl, rfl⟩) (by decide) (by decide)
            · replace hc4 := Classical.not_not.mp hc4
              replace hc4 := (nI_e0 (a := mvs (bF (mvV V fr to tn md false) 2) (1 - tn) 36) (by omega)).mp hc4
              refine Z_run C it_Gm_makeMove 2 (f2 := (175, [some (.ref (D.1 1)), some (.int (nI fr)), some (.int (nI to)), some (.int (nI (bF V 2 to))), some (.int (nI (wr (bF V 2 to)))), some (.int (nI (1 - tn)))], [.int (nI 1), .ref (D.1 1)])) rfl ?_
              have e9 : nI 1 = bI (ovr ch (n1t (1 - tn) (mvF (bF V 2) fr to) (p :: L)) (mvs (mvF (bF V 2) fr to) (1 - tn) 36)) := by have z9 : (ovr ch (n1t (1 - tn) (mvF (bF V 2) fr to) (p :: L)) (mvs (mvF (bF V 2) fr to) (1 - tn) 36)) = true := (by rw [← eF]; clear hVV eF hF2 q h31 hch; unfold ovr; simp_all <;> omega); rw [z9]; rfl
              rw [e9]
              refine Zm_put C it_Gm_makeMove hD rfl 1 wi_Gm t_Gm t_Gm_ok n_Gm (by first | decide | omega) rfl rfl (j := 5) (by decide) fl_Gm_32 rfl rfl (zfit_n (by first | exact bI_v | assumption)) (zfit_f (by first | exact bI_v | assumption)) ?_
              refine Z_run C it_Gm_makeMove 1 (f2 := (180, [some (.ref (D.1 1)), some (.int (nI fr)), some (.int (nI to)), some (.int (nI (bF V 2 to))), some (.int (nI (wr (bF V 2 to)))), some (.int (nI (1 - tn)))], [.int (nI (wr (bF V 2 to)))])) rfl ?_
              exact Z_iret C q.e it_Gm_makeMove rfl (⟨q0, hq0, hn0, hPq, rfl, by rw [hlv, hld, ← eF]; rfl, rfl⟩) (by decide) (by decide)
      · exact absurd (show bI (ldr (bF V 2 to)) = 0 by rw [hld]; rfl) hc1
    | true =>
      rw [← hld]
      refine zM_of hE hl (by decide +kernel) [some (.ref (D.1 1)), some (.int (nI fr)), some (.int (nI to)), none, none, none] ⟨rfl, rfl, Nat.le_of_ble_eq_true rfl⟩ ?_
      intro G C q htb
      refine Z_run C it_Gm_makeMove 1 (f2 := (1, [some (.ref (D.1 1)), some (.int (nI fr)), some (.int (nI to)), none, none, none], [.ref (D.1 1)])) rfl ?_
      refine Zm_get C it_Gm_makeMove hD rfl 1 wi_Gm (by decide) rfl rfl (j := 0) (by decide) fl_Gm_12 (v := .ref (D.1 2)) rfl ?_
      refine Z_run C it_Gm_makeMove 1 (f2 := (5, [some (.ref (D.1 1)), some (.int (nI fr)), some (.int (nI to)), none, none, none], [.int (nI to), .ref (D.1 2)])) rfl ?_
      refine Zr_callV C it_Gm_makeMove hD rfl p_Bd_pieceOn ml_Gm_79 2 (by decide) rfl rfl [.int (nI to)] (ct_Bd_pieceOn C.ev C.l hD _ _ _ 2 isB_2 to (by first | assumption | omega) _) rfl rfl ⟨by decide, by decide, by decide, by decide⟩ (Nat.le_of_ble_eq_true rfl) rfl ?_
      show Z E G (HM D V P PH) sz 0 0 (8, [some (.ref (D.1 1)), some (.int (nI fr)), some (.int (nI to)), none, none, none], [.int (nI (bF V 2 to))])
      refine Z_run C it_Gm_makeMove 2 (f2 := (10, [some (.ref (D.1 1)), some (.int (nI fr)), some (.int (nI to)), some (.int (nI (bF V 2 to))), none, none], [.int (nI (bF V 2 to))])) rfl ?_
      refine Zr_callS C it_Gm_makeMove rfl p_Pc_worthOf ml_Gm_76 [.int (nI (bF V 2 to))] (ct_Pc_worthOf C.ev C.l hD _ _ _ (bF V 2 to) (by first | assumption | omega | exact hF _ (by omega)) _) rfl rfl ⟨by decide, by decide, by decide, by decide⟩ (Nat.le_of_ble_eq_true rfl) rfl ?_
      show Z E G (HM D V P PH) sz 0 0 (13, [some (.ref (D.1 1)), some (.int (nI fr)), some (.int (nI to)), some (.int (nI (bF V 2 to))), none, none], [.int (nI (wr (bF V 2 to)))])
      refine Z_run C it_Gm_makeMove 3 (f2 := (17, [some (.ref (D.1 1)), some (.int (nI fr)), some (.int (nI to)), some (.int (nI (bF V 2 to))), some (.int (nI (wr (bF V 2 to)))), none], [.ref (D.1 1), .int (nI 1)])) rfl ?_
      refine Zm_get C it_Gm_makeMove hD rfl 1 wi_Gm (by decide) rfl rfl (j := 3) (by decide) fl_Gm_25 (v := .int (nI tn)) (congrArg Value.int hT) ?_
      refine Z_run C it_Gm_makeMove 1 (f2 := (21, [some (.ref (D.1 1)), some (.int (nI fr)), some (.int (nI to)), some (.int (nI (bF V 2 to))), some (.int (nI (wr (bF V 2 to)))), none], [.int (nI 1 - nI tn)])) rfl ?_
      have e1 : nI 1 - nI tn = nI (1 - tn) := nI_sub (by omega)
      rw [e1]
      refine Z_run C it_Gm_makeMove 2 (f2 := (24, [some (.ref (D.1 1)), some (.int (nI fr)), some (.int (nI to)), some (.int (nI (bF V 2 to))), some (.int (nI (wr (bF V 2 to)))), some (.int (nI (1 - tn)))], [.ref (D.1 1)])) rfl ?_
      refine Zm_get C it_Gm_makeMove hD rfl 1 wi_Gm (by decide) rfl rfl (j := 1) (by decide) fl_Gm_18 (v := .ref (D.1 4)) rfl ?_
      refine Z_run C it_Gm_makeMove 1 (f2 := (28, [some (.ref (D.1 1)), some (.int (nI fr)), some (.int (nI to)), some (.int (nI (bF V 2 to))), some (.int (nI (wr (bF V 2 to)))), some (.int (nI (1 - tn)))], [.ref (D.1 1), .ref (D.1 4)])) rfl ?_
      refine Zm_get C it_Gm_makeMove hD rfl 1 wi_Gm (by decide) rfl rfl (j := 3) (by decide) fl_Gm_25 (v := .int (nI tn)) (congrArg Value.int hT) ?_
      refine Z_run C it_Gm_makeMove 1 (f2 := (32, [some (.ref (D.1 1)), some (.int (nI fr)), some (.int (nI to)), some (.int (nI (bF V 2 to))), some (.int (nI (wr (bF V 2 to)))), some (.int (nI (1 - tn)))], [.int (nI tn), .ref (D.1 4), .int (nI tn), .ref (D.1 4)])) rfl ?_
      refine Zm_ald C it_Gm_makeMove hD 4 10 rfl (by decide) rfl (by decide) (by decide) rfl (j := tn) (by omega) (v := .int (V 4 tn)) rfl ?_
      refine Z_run C it_Gm_makeMove 1 (f2 := (34, [some (.ref (D.1 1)), some (.int (nI fr)), some (.int (nI to)), some (.int (nI (bF V 2 to))), some (.int (nI (wr (bF V 2 to)))), some (.int (nI (1 - tn)))], [.ref (D.1 1), .int (V 4 tn), .int (nI tn), .ref (D.1 4)])) rfl ?_
      refine Zm_get C it_Gm_makeMove hD rfl 1 wi_Gm (by decide) rfl rfl (j := 0) (by decide) fl_Gm_12 (v := .ref (D.1 2)) rfl ?_
      refine Z_run C it_Gm_makeMove 1 (f2 := (38, [some (.ref (D.1 1)), some (.int (nI fr)), some (.int (nI to)), some (.int (nI (bF V 2 to))), some (.int (nI (wr (bF V 2 to)))), some (.int (nI (1 - tn)))], [.int (nI fr), .ref (D.1 2), .int (V 4 tn), .int (nI tn), .ref (D.1 4)])) rfl ?_
      refine Zr_callV C it_Gm_makeMove hD rfl p_Bd_pieceOn ml_Gm_79 2 (by decide) rfl rfl [.int (nI fr)] (ct_Bd_pieceOn C.ev C.l hD _ _ _ 2 isB_2 fr (by first | assumption | omega) _) rfl rfl ⟨by decide, by decide, by decide, by decide⟩ (Nat.le_of_ble_eq_true rfl) rfl ?_
      show Z E G (HM D V P PH) sz 0 0 (41, [some (.ref (D.1 1)), some (.int (nI fr)), some (.int (nI to)), some (.int (nI (bF V 2 to))), some (.int (nI (wr (bF V 2 to)))), some (.int (nI (1 - tn)))], [.int (nI (bF V 2 fr)), .int (V 4 tn), .int (nI tn), .ref (D.1 4)])
      refine Z_run C it_Gm_makeMove 1 (f2 := (42, [some (.ref (D.1 1)), some (.int (nI fr)), some (.int (nI to)), some (.int (nI (bF V 2 to))), some (.int (nI (wr (bF V 2 to)))), some (.int (nI (1 - tn)))], [.int (nI (bF V 2 to)), .int (nI (bF V 2 fr)), .int (V 4 tn), .int (nI tn), .ref (D.1 4)])) rfl ?_
      refine Zr_callS C it_Gm_makeMove rfl p_Pc_learnt ml_Gm_96 [.int (nI (bF V 2 fr)), .int (nI (bF V 2 to))] (ct_Pc_learnt C.ev C.l (bF V 2 fr) (by first | assumption | omega | exact hF _ (by omega)) (bF V 2 to) (by first | assumption | omega | exact hF _ (by omega)) _ _) rfl rfl ⟨by decide, by decide, by decide, by decide⟩ (Nat.le_of_ble_eq_true rfl) rfl ?_
      show Z E G (HM D V P PH) sz 0 0 (45, [some (.ref (D.1 1)), some (.int (nI fr)), some (.int (nI to)), some (.int (nI (bF V 2 to))), some (.int (nI (wr (bF V 2 to)))), some (.int (nI (1 - tn)))], [.int (nI (lrn (bF V 2 fr) (bF V 2 to))), .int (V 4 tn), .int (nI tn), .ref (D.1 4)])
      refine Zr_callS C it_Gm_makeMove rfl p_Pc_worthOfSteps ml_Gm_100 [.int (nI (lrn (bF V 2 fr) (bF V 2 to)))] (ct_Pc_worthOfSteps C.ev C.l hD _ _ _ (lrn (bF V 2 fr) (bF V 2 to)) (by first | exact stp_lt _ | exact lrn_lt _ _ | assumption | omega) _) rfl rfl ⟨by decide, by decide, by decide, by decide⟩ (Nat.le_of_ble_eq_true rfl) rfl ?_
      show Z E G (HM D V P PH) sz 0 0 (48, [some (.ref (D.1 1)), some (.int (nI fr)), some (.int (nI to)), some (.int (nI (bF V 2 to))), some (.int (nI (wr (bF V 2 to)))), some (.int (nI (1 - tn)))], [.int (nI (wst (lrn (bF V 2 fr) (bF V 2 to)))), .int (V 4 tn), .int (nI tn), .ref (D.1 4)])
      refine Z_run C it_Gm_makeMove 1 (f2 := (49, [some (.ref (D.1 1)), some (.int (nI fr)), some (.int (nI to)), some (.int (nI (bF V 2 to))), some (.int (nI (wr (bF V 2 to)))), some (.int (nI (1 - tn)))], [.int (V 4 tn + nI (wst (lrn (bF V 2 fr) (bF V 2 to)))), .int (nI tn), .ref (D.1 4)])) rfl ?_
      refine Zm_ast C it_Gm_makeMove hD 4 10 rfl (by first | decide | exact isB_k hb | omega) rfl (by decide) rfl (j := tn) (by omega) trivial rfl ?_
      refine Z_run C it_Gm_makeMove 1 (f2 := (51, [some (.ref (D.1 1)), some (.int (nI fr)), some (.int (nI to)), some (.int (nI (bF V 2 to))), some (.int (nI (wr (bF V 2 to)))), some (.int (nI (1 - tn)))], [.ref (D.1 1)])) rfl ?_
      refine Zm_get C it_Gm_makeMove hD rfl 1 wi_Gm (by decide) rfl rfl (j := 1) (by decide) fl_Gm_18 (v := .ref (D.1 4)) rfl ?_
      refine Z_run C it_Gm_makeMove 2 (f2 := (57, [some (.ref (D.1 1)), some (.int (nI fr)), some (.int (nI to)), some (.int (nI (bF V 2 to))), some (.int (nI (wr (bF V 2 to)))), some (.int (nI (1 - tn)))], [.int (nI (1 - tn)), .ref (D.1 4), .int (nI (1 - tn)), .ref (D.1 4)])) rfl ?_
      refine Zm_ald C it_Gm_makeMove hD 4 10 rfl (by decide) rfl (by decide) (by decide) rfl (j := 1 - tn) (by omega) (v := .int ((vset V 4 tn (V 4 tn + nI (wst (lrn (bF V 2 fr) (bF V 2 to))))) 4 (1 - tn))) rfl ?_
      refine Z_run C it_Gm_makeMove 2 (f2 := (61, [some (.ref (D.1 1)), some (.int (nI fr)), some (.int (nI to)), some (.int (nI (bF V 2 to))), some (.int (nI (wr (bF V 2 to)))), some (.int (nI (1 - tn)))], [.int ((vset V 4 tn (V 4 tn + nI (wst (lrn (bF V 2 fr) (bF V 2 to))))) 4 (1 - tn) - nI (wr (bF V 2 to))), .int (nI (1 - tn)), .ref (D.1 4)])) rfl ?_
      refine Zm_ast C it_Gm_makeMove hD 4 10 rfl (by first | decide | exact isB_k hb | omega) rfl (by decide) rfl (j := 1 - tn) (by omega) trivial rfl ?_
      refine Z_run C it_Gm_makeMove 1 (f2 := (63, [some (.ref (D.1 1)), some (.int (nI fr)), some (.int (nI to)), some (.int (nI (bF V 2 to))), some (.int (nI (wr (bF V 2 to)))), some (.int (nI (1 - tn)))], [.ref (D.1 1)])) rfl ?_
      refine Zm_get C it_Gm_makeMove hD rfl 1 wi_Gm (by decide) rfl rfl (j := 2) (by decide) fl_Gm_22 (v := .ref (D.1 5)) rfl ?_
      refine Z_run C it_Gm_makeMove 1 (f2 := (67, [some (.ref (D.1 1)), some (.int (nI fr)), some (.int (nI to)), some (.int (nI (bF V 2 to))), some (.int (nI (wr (bF V 2 to)))), some (.int (nI (1 - tn)))], [.ref (D.1 1), .ref (D.1 5)])) rfl ?_
      refine Zm_get C it_Gm_makeMove hD rfl 1 wi_Gm (by decide) rfl rfl (j := 3) (by decide) fl_Gm_25 (v := .int (nI tn)) (congrArg Value.int hT) ?_
      refine Z_run C it_Gm_makeMove 1 (f2 := (71, [some (.ref (D.1 1)), some (.int (nI fr)), some (.int (nI to)), some (.int (nI (bF V 2 to))), some (.int (nI (wr (bF V 2 to)))), some (.int (nI (1 - tn)))], [.int (nI tn), .ref (D.1 5), .int (nI tn), .ref (D.1 5)])) rfl ?_
      refine Zm_ald C it_Gm_makeMove hD 5 10 rfl (by decide) rfl (by decide) (by decide) rfl (j := tn) (by omega) (v := .int ((vset (vset V 4 tn (V 4 tn + nI (wst (lrn (bF V 2 fr) (bF V 2 to))))) 4 (1 - tn) ((vset V 4 tn (V 4 tn + nI (wst (lrn (bF V 2 fr) (bF V 2 to))))) 4 (1 - tn) - nI (wr (bF V 2 to)))) 5 tn)) rfl ?_
      refine Z_run C it_Gm_makeMove 2 (f2 := (75, [some (.ref (D.1 1)), some (.int (nI fr)), some (.int (nI to)), some (.int (nI (bF V 2 to))), some (.int (nI (wr (bF V 2 to)))), some (.int (nI (1 - tn)))], [.int ((vset (vset V 4 tn (V 4 tn + nI (wst (lrn (bF V 2 fr) (bF V 2 to))))) 4 (1 - tn) ((vset V 4 tn (V 4 tn + nI (wst (lrn (bF V 2 fr) (bF V 2 to))))) 4 (1 - tn) - nI (wr (bF V 2 to)))) 5 tn + nI (wr (bF V 2 to))), .int (nI tn), .ref (D.1 5)])) rfl ?_
      refine Zm_ast C it_Gm_makeMove hD 5 10 rfl (by first | decide | exact isB_k hb | omega) rfl (by decide) rfl (j := tn) (by omega) trivial rfl ?_
      refine Z_run C it_Gm_makeMove 1 (f2 := (77, [some (.ref (D.1 1)), some (.int (nI fr)), some (.int (nI to)), some (.int (nI (bF V 2 to))), some (.int (nI (wr (bF V 2 to)))), some (.int (nI (1 - tn)))], [.int (nI (bF V 2 to))])) rfl ?_
      refine Zr_callS C it_Gm_makeMove rfl p_Pc_leads ml_Gm_103 [.int (nI (bF V 2 to))] (ct_Pc_leads C.ev C.l (bF V 2 to) (by first | assumption | omega | exact hF _ (by omega)) _ _) rfl rfl ⟨by decide, by decide, by decide, by decide⟩ (Nat.le_of_ble_eq_true rfl) rfl ?_
      show Z E G (HM D (vset (vset (vset V 4 tn (V 4 tn + nI (wst (lrn (bF V 2 fr) (bF V 2 to))))) 4 (1 - tn) ((vset V 4 tn (V 4 tn + nI (wst (lrn (bF V 2 fr) (bF V 2 to))))) 4 (1 - tn) - nI (wr (bF V 2 to)))) 5 tn ((vset (vset V 4 tn (V 4 tn + nI (wst (lrn (bF V 2 fr) (bF V 2 to))))) 4 (1 - tn) ((vset V 4 tn (V 4 tn + nI (wst (lrn (bF V 2 fr) (bF V 2 to))))) 4 (1 - tn) - nI (wr (bF V 2 to)))) 5 tn + nI (wr (bF V 2 to)))) P PH) sz 0 0 (80, [some (.ref (D.1 1)), some (.int (nI fr)), some (.int (nI to)), some (.int (nI (bF V 2 to))), some (.int (nI (wr (bF V 2 to)))), some (.int (nI (1 - tn)))], [.int (bI (ldr (bF V 2 to)))])
      refine Z_br C it_Gm_makeMove rfl rfl (fun hc1 => ?_) (fun hc1 => ?_)
      · exact absurd hc1 (by rw [hld]; decide)
      · skip
        refine Z_run C it_Gm_makeMove 2 (f2 := (85, [some (.ref (D.1 1)), some (.int (nI fr)), some (.int (nI to)), some (.int (nI (bF V 2 to))), some (.int (nI (wr (bF V 2 to)))), some (.int (nI (1 - tn)))], [.ref (D.1 1), .ref (D.1 1)])) rfl ?_
        refine Zm_get C it_Gm_makeMove hD rfl 1 wi_Gm (by decide) rfl rfl (j := 3) (by decide) fl_Gm_25 (v := .int (nI tn)) (congrArg Value.int hT) ?_
        refine Zm_put C it_Gm_makeMove hD rfl 1 wi_Gm t_Gm t_Gm_ok n_Gm (by first | decide | omega) rfl rfl (j := 6) (by decide) fl_Gm_36 rfl rfl rfl rfl ?_
        refine Z_run C it_Gm_makeMove 1 (f2 := (92, [some (.ref (D.1 1)), some (.int (nI fr)), some (.int (nI to)), some (.int (nI (bF V 2 to))), some (.int (nI (wr (bF V 2 to)))), some (.int (nI (1 - tn)))], [.ref (D.1 1)])) rfl ?_
        refine Zm_get C it_Gm_makeMove hD rfl 1 wi_Gm (by decide) rfl rfl (j := 0) (by decide) fl_Gm_12 (v := .ref (D.1 2)) rfl ?_
        refine Z_run C it_Gm_makeMove 2 (f2 := (97, [some (.ref (D.1 1)), some (.int (nI fr)), some (.int (nI to)), some (.int (nI (bF V 2 to))), some (.int (nI (wr (bF V 2 to)))), some (.int (nI (1 - tn)))], [.int (nI to), .int (nI fr), .ref (D.1 2)])) rfl ?_
        refine Zr_callV C it_Gm_makeMove hD rfl p_Bd_carry ml_Gm_106 2 (by decide) rfl rfl [.int (nI fr), .int (nI to)] (ct_Bd_carry C.ev C.l hD (vset (vset (vset (vset V 4 tn (V 4 tn + nI (wst (lrn (bF V 2 fr) (bF V 2 to))))) 4 (1 - tn) ((vset V 4 tn (V 4 tn + nI (wst (lrn (bF V 2 fr) (bF V 2 to))))) 4 (1 - tn) - nI (wr (bF V 2 to)))) 5 tn ((vset (vset V 4 tn (V 4 tn + nI (wst (lrn (bF V 2 fr) (bF V 2 to))))) 4 (1 - tn) ((vset V 4 tn (V 4 tn + nI (wst (lrn (bF V 2 fr) (bF V 2 to))))) 4 (1 - tn) - nI (wr (bF V 2 to)))) 5 tn + nI (wr (bF V 2 to)))) 1 6 (nI tn)) _ _ 2 isB_2 hF fr (by first | assumption | omega) to (by first | assumption | omega) _) rfl rfl ⟨by decide, by decide, by decide, by decide⟩ (Nat.le_of_ble_eq_true rfl) rfl ?_
        show Z E G (HM D (vset (vset (vset (vset (vset (vset V 4 tn (V 4 tn + nI (wst (lrn (bF V 2 fr) (bF V 2 to))))) 4 (1 - tn) ((vset V 4 tn (V 4 tn + nI (wst (lrn (bF V 2 fr) (bF V 2 to))))) 4 (1 - tn) - nI (wr (bF V 2 to)))) 5 tn ((vset (vset V 4 tn (V 4 tn + nI (wst (lrn (bF V 2 fr) (bF V 2 to))))) 4 (1 - tn) ((vset V 4 tn (V 4 tn + nI (wst (lrn (bF V 2 fr) (bF V 2 to))))) 4 (1 - tn) - nI (wr (bF V 2 to)))) 5 tn + nI (wr (bF V 2 to)))) 1 6 (nI tn)) 3 to (nI (crr (bF (vset (vset (vset (vset V 4 tn (V 4 tn + nI (wst (lrn (bF V 2 fr) (bF V 2 to))))) 4 (1 - tn) ((vset V 4 tn (V 4 tn + nI (wst (lrn (bF V 2 fr) (bF V 2 to))))) 4 (1 - tn) - nI (wr (bF V 2 to)))) 5 tn ((vset (vset V 4 tn (V 4 tn + nI (wst (lrn (bF V 2 fr) (bF V 2 to))))) 4 (1 - tn) ((vset V 4 tn (V 4 tn + nI (wst (lrn (bF V 2 fr) (bF V 2 to))))) 4 (1 - tn) - nI (wr (bF V 2 to)))) 5 tn + nI (wr (bF V 2 to)))) 1 6 (nI tn)) 2) fr to))) 3 fr (nI 0)) P PH) sz 0 0 (100, [some (.ref (D.1 1)), some (.int (nI fr)), some (.int (nI to)), some (.int (nI (bF V 2 to))), some (.int (nI (wr (bF V 2 to)))), some (.int (nI (1 - tn)))], [])
        refine Z_run C it_Gm_makeMove 2 (f2 := (102, [some (.ref (D.1 1)), some (.int (nI fr)), some (.int (nI to)), some (.int (nI (bF V 2 to))), some (.int (nI (wr (bF V 2 to)))), some (.int (nI (1 - tn)))], [.ref (D.1 1), .ref (D.1 1)])) rfl ?_
        refine Zm_get C it_Gm_makeMove hD rfl 1 wi_Gm (by decide) rfl rfl (j := 4) (by decide) fl_Gm_29 (v := .int (nI md)) (congrArg Value.int hMd) ?_
        refine Z_run C it_Gm_makeMove 2 (f2 := (107, [some (.ref (D.1 1)), some (.int (nI fr)), some (.int (nI to)), some (.int (nI (bF V 2 to))), some (.int (nI (wr (bF V 2 to)))), some (.int (nI (1 - tn)))], [.int (nI md + nI 1), .ref (D.1 1)])) rfl ?_
        rw [nI_add md 1]
        refine Zm_put C it_Gm_makeMove hD rfl 1 wi_Gm t_Gm t_Gm_ok n_Gm (by first | decide | omega) rfl rfl (j := 4) (by decide) fl_Gm_29 rfl rfl rfl rfl ?_
        refine Z_run C it_Gm_makeMove 2 (f2 := (113, [some (.ref (D.1 1)), some (.int (nI fr)), some (.int (nI to)), some (.int (nI (bF V 2 to))), some (.int (nI (wr (bF V 2 to)))), some (.int (nI (1 - tn)))], [.int (nI (1 - tn)), .ref (D.1 1)])) rfl ?_
        refine Zm_put C it_Gm_makeMove hD rfl 1 wi_Gm t_Gm t_Gm_ok n_Gm (by first | decide | omega) rfl rfl (j := 3) (by decide) fl_Gm_25 rfl rfl rfl rfl ?_
        have hVV : (vset (vset (vset (vset (vset (vset (vset (vset V 4 tn (V 4 tn + nI (wst (lrn (bF V 2 fr) (bF V 2 to))))) 4 (1 - tn) ((vset V 4 tn (V 4 tn + nI (wst (lrn (bF V 2 fr) (bF V 2 to))))) 4 (1 - tn) - nI (wr (bF V 2 to)))) 5 tn ((vset (vset V 4 tn (V 4 tn + nI (wst (lrn (bF V 2 fr) (bF V 2 to))))) 4 (1 - tn) ((vset V 4 tn (V 4 tn + nI (wst (lrn (bF V 2 fr) (bF V 2 to))))) 4 (1 - tn) - nI (wr (bF V 2 to)))) 5 tn + nI (wr (bF V 2 to)))) 1 6 (nI tn)) 3 to (nI (crr (bF (vset (vset (vset (vset V 4 tn (V 4 tn + nI (wst (lrn (bF V 2 fr) (bF V 2 to))))) 4 (1 - tn) ((vset V 4 tn (V 4 tn + nI (wst (lrn (bF V 2 fr) (bF V 2 to))))) 4 (1 - tn) - nI (wr (bF V 2 to)))) 5 tn ((vset (vset V 4 tn (V 4 tn + nI (wst (lrn (bF V 2 fr) (bF V 2 to))))) 4 (1 - tn) ((vset V 4 tn (V 4 tn + nI (wst (lrn (bF V 2 fr) (bF V 2 to))))) 4 (1 - tn) - nI (wr (bF V 2 to)))) 5 tn + nI (wr (bF V 2 to)))) 1 6 (nI tn)) 2) fr to))) 3 fr (nI 0)) 1 4 (nI (md + 1))) 1 3 (nI (1 - tn))) = (mvV V fr to tn md true) := rfl
        rw [hVV]
        have eF : bF (mvV V fr to tn md true) 2 = (mvF (bF V 2) fr to) := bF_mv hF hfr
        have hF2 : okF (bF (mvV V fr to tn md true) 2) := by rw [eF]; exact okF_mv hF hfr
        refine Z_run C it_Gm_makeMove 1 (f2 := (117, [some (.ref (D.1 1)), some (.int (nI fr)), some (.int (nI to)), some (.int (nI (bF V 2 to))), some (.int (nI (wr (bF V 2 to)))), some (.int (nI (1 - tn)))], [.ref (D.1 1)])) rfl ?_
        refine Zp_new C it_Gm_makeMove hs rfl kl_Gm_48 (by decide) (by decide) (fun q0 hq0 hBq hn0 hPq => ?_)
        show Z E G (HM D (mvV V fr to tn md true) P (hset PH q0 (4, 0, fs0))) (q0 + 1) 1 7 (120, [some (.ref (D.1 1)), some (.int (nI fr)), some (.int (nI to)), some (.int (nI (bF V 2 to))), some (.int (nI (wr (bF V 2 to)))), some (.int (nI (1 - tn)))], [.ref q0, .ref (D.1 1)])
        refine Z_run C it_Gm_makeMove 2 (f2 := (122, [some (.ref (D.1 1)), some (.int (nI fr)), some (.int (nI to)), some (.int (nI (bF V 2 to))), some (.int (nI (wr (bF V 2 to)))), some (.int (nI (1 - tn)))], [.ref (D.1 1), .ref q0, .ref q0, .ref (D.1 1)])) rfl ?_
        refine Zm_get C it_Gm_makeMove hD rfl 1 wi_Gm (by decide) rfl rfl (j := 7) (by decide) fl_Gm_39 (v := .ref q9) hlv ?_
        refine Z_run C it_Gm_makeMove 1 (f2 := (126, [some (.ref (D.1 1)), some (.int (nI fr)), some (.int (nI to)), some (.int (nI (bF V 2 to))), some (.int (nI (wr (bF V 2 to)))), some (.int (nI (1 - tn)))], [.ref (D.1 1), .ref q9, .ref q0, .ref q0, .ref (D.1 1)])) rfl ?_
        refine Zm_get C it_Gm_makeMove hD rfl 1 wi_Gm (by decide) rfl rfl (j := 0) (by decide) fl_Gm_12 (v := .ref (D.1 2)) rfl ?_
        refine Z_run C it_Gm_makeMove 1 (f2 := (130, [some (.ref (D.1 1)), some (.int (nI fr)), some (.int (nI to)), some (.int (nI (bF V 2 to))), some (.int (nI (wr (bF V 2 to)))), some (.int (nI (1 - tn)))], [.ref (D.1 1), .ref (D.1 2), .ref q9, .ref q0, .ref q0, .ref (D.1 1)])) rfl ?_
        refine Zm_get C it_Gm_makeMove hD rfl 1 wi_Gm (by decide) rfl rfl (j := 3) (by decide) fl_Gm_25 (v := .int (nI (1 - tn))) rfl ?_
        refine Zr_callK C it_Gm_makeMove rfl p_Ps_init (host := R_Xx) (Or.inl ml_Gm_85) [.ref q9, .ref (D.1 2), .int (nI (1 - tn))] (ct_Ps_init_r C.ev C.l hD _ _ _ 2 isB_2 hF2 hP q0 (1 - tn) (by omega) hn0 hBq hPq q9 (p :: L) (by rw [← hlv]; exact hch) _) rfl rfl ⟨by decide, by decide, by decide, by decide⟩ (Nat.le_of_ble_eq_true rfl) rfl ?_
        show Z E G (HM D (mvV V fr to tn md true) P (hset PH q0 (pcl (.ref q9) (1 - tn) (pq4 (bF (mvV V fr to tn md true) 2)) (n1t (1 - tn) (bF (mvV V fr to tn md true) 2) (p :: L))))) (q0 + 1) 1 7 (136, [some (.ref (D.1 1)), some (.int (nI fr)), some (.int (nI to)), some (.int (nI (bF V 2 to))), some (.int (nI (wr (bF V 2 to)))), some (.int (nI (1 - tn)))], [.ref q0, .ref (D.1 1)])
        refine Zm_putr C it_Gm_makeMove hD rfl 1 wi_Gm t_Gm t_Gm_ok n_Gm (by first | decide | omega) rfl rfl (j := 7) (by decide) fl_Gm_39 rfl rfl (x := .ref q0) rfl rfl ?_
        refine Z_run C it_Gm_makeMove 2 (f2 := (141, [some (.ref (D.1 1)), some (.int (nI fr)), some (.int (nI to)), some (.int (nI (bF V 2 to))), some (.int (nI (wr (bF V 2 to)))), some (.int (nI (1 - tn)))], [.ref (D.1 1), .ref (D.1 1)])) rfl ?_
        refine Zm_get C it_Gm_makeMove hD rfl 1 wi_Gm (by decide) rfl rfl (j := 6) (by decide) fl_Gm_36 (v := .int (nI tn)) rfl ?_
        refine Z_run C it_Gm_makeMove 1 (f2 := (145, [some (.ref (D.1 1)), some (.int (nI fr)), some (.int (nI to)), some (.int (nI (bF V 2 to))), some (.int (nI (wr (bF V 2 to)))), some (.int (nI (1 - tn)))], [.int ((-1)), .int (nI tn), .ref (D.1 1)])) rfl ?_
        refine Z_br C it_Gm_makeMove rfl rfl (fun hc2 => ?_) (fun hc2 => ?_)
        · skip
          refine Z_run C it_Gm_makeMove 2 (f2 := (175, [some (.ref (D.1 1)), some (.int (nI fr)), some (.int (nI to)), some (.int (nI (bF V 2 to))), some (.int (nI (wr (bF V 2 to)))), some (.int (nI (1 - tn)))], [.int (nI 1), .ref (D.1 1)])) rfl ?_
          have e9 : nI 1 = bI (ovr (some tn) (n1t (1 - tn) (mvF (bF V 2) fr to) (p :: L)) (mvs (mvF (bF V 2) fr to) (1 - tn) 36)) := by have z9 : (ovr (some tn) (n1t (1 - tn) (mvF (bF V 2) fr to) (p :: L)) (mvs (mvF (bF V 2) fr to) (1 - tn) 36)) = true := (by rw [← eF]; clear hVV eF hF2 q h31 hch; unfold ovr; simp_all <;> omega); rw [z9]; rfl
          rw [e9]
          refine Zm_put C it_Gm_makeMove hD rfl 1 wi_Gm t_Gm t_Gm_ok n_Gm (by first | decide | omega) rfl rfl (j := 5) (by decide) fl_Gm_32 rfl rfl (zfit_n (by first | exact bI_v | assumption)) (zfit_f (by first | exact bI_v | assumption)) ?_
          refine Z_run C it_Gm_makeMove 1 (f2 := (180, [some (.ref (D.1 1)), some (.int (nI fr)), some (.int (nI to)), some (.int (nI (bF V 2 to))), some (.int (nI (wr (bF V 2 to)))), some (.int (nI (1 - tn)))], [.int (nI (wr (bF V 2 to)))])) rfl ?_
          exact Z_iret C q.e it_Gm_makeMove rfl (⟨q0, hq0, hn0, hPq, rfl, by rw [hlv, hld, ← eF]; rfl, rfl⟩) (by decide) (by decide)
        · exact absurd (Classical.not_not.mp hc2) (nI_m1 (by omega))
/-- a game among the cells -/
def isG (g : Nat) : Prop := (∀ (D : zD) (v : Nat → Int32) (r : Nat → Value), mk D g v r = mkG D g v r) ∧ isB (g + 1) ∧ (∀ (D : zD) (v : Nat → Int32) (r : Nat → Value), mk D (g + 3) v r = mkI 2 v) ∧ (∀ (D : zD) (v : Nat → Int32) (r : Nat → Value), mk D (g + 4) v r = mkI 2 v) ∧ g < 40 ∧ (∀ k, mkW (g + 3) k = true ∧ mkW (g + 4) k = true) ∧ mkW g 3 = true ∧ mkW g 4 = true ∧ mkW g 5 = true ∧ mkW g 6 = true ∧ mkR g 7 = true
theorem isG_1 : isG 1 := ⟨fun _ _ _ => rfl, isB_2, fun _ _ _ => rfl, fun _ _ _ => rfl, by decide, fun _ => ⟨rfl, rfl⟩, rfl, rfl, rfl, rfl, rfl⟩
theorem isG_8 : isG 8 := ⟨fun _ _ _ => rfl, isB_9, fun _ _ _ => rfl, fun _ _ _ => rfl, by decide, fun _ => ⟨rfl, rfl⟩, rfl, rfl, rfl, rfl, rfl⟩
theorem isG_13 : isG 13 := ⟨fun _ _ _ => rfl, isB_14, fun _ _ _ => rfl, fun _ _ _ => rfl, by decide, fun _ => ⟨rfl, rfl⟩, rfl, rfl, rfl, rfl, rfl⟩
theorem isG_18 : isG 18 := ⟨fun _ _ _ => rfl, isB_19, fun _ _ _ => rfl, fun _ _ _ => rfl, by decide, fun _ => ⟨rfl, rfl⟩, rfl, rfl, rfl, rfl, rfl⟩
theorem isG_23 : isG 23 := ⟨fun _ _ _ => rfl, isB_24, fun _ _ _ => rfl, fun _ _ _ => rfl, by decide, fun _ => ⟨rfl, rfl⟩, rfl, rfl, rfl, rfl, rfl⟩
theorem isG_28 : isG 28 := ⟨fun _ _ _ => rfl, isB_29, fun _ _ _ => rfl, fun _ _ _ => rfl, by decide, fun _ => ⟨rfl, rfl⟩, rfl, rfl, rfl, rfl, rfl⟩
