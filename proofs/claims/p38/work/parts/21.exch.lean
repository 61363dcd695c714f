/-! ===== the exchange ===== -/
/-- what an exchange on square q brings, d captures deep at most -/
def exN : Nat → (Nat → Nat) → Nat → Nat
  | 0, _, _ => 0
  | d + 1, F, q => match chs F (gsf F (1 - sd (F q)) q) 36 with
    | none => 0
    | some k => wr (F q) - exN d (mvF F k q) q
theorem exN_le (d : Nat) (F : Nat → Nat) (q : Nat) : exN d F q ≤ 35 := by
  cases d with
  | zero => exact Nat.zero_le _
  | succ d =>
    unfold exN
    split
    · exact Nat.zero_le _
    · have := wr_le (F q)
      omega
theorem max_sub : ∀ a, a < 36 → ∀ b, b < 36 → (if nI 0 < nI a - nI b then nI a - nI b else nI 0) = nI (a - b) := by decide +kernel
theorem bF_car {V : Nat → Nat → Int32} {fr to : Nat} (hF : okF (bF V 35)) (h1 : fr < 36) : bF (vset (vset V 36 to (nI (crr (bF V 35) fr to))) 36 fr (nI 0)) 35 = mvF (bF V 35) fr to := by
  have hc := crr_lt hF (to := to) h1
  funext k
  have e3 : (vset (vset V 36 to (nI (crr (bF V 35) fr to))) 36 fr (nI 0)) (35 + 1) k = upd (upd (V 36) to (nI (crr (bF V 35) fr to))) fr (nI 0) k := rfl
  unfold bF mvF at *
  rw [e3]
  unfold upd
  split
  · rfl
  · split
    · exact pn_nI (by omega)
    · rfl
abbrev rmX (d : Nat) : Room := { frames := 4 + d, cells := 0, slots := 0, locals := 92 + 24 * d }
/-- the trial board alone has changed -/
def zEx (D : zD) (V : Nat → Nat → Int32) (P : Nat → Nat → Value) (PH : aH) (sz r : Nat) : zO := fun o h2 sz2 => o = .inl (some (.int (nI r))) ∧ sz2 = sz ∧ ∃ V2, h2 = HM D V2 P PH ∧ ∀ c, c ≠ 36 → V2 c = V c
section ZEX
variable {E : zE} {G : zG} {cc : ByteArray} {nL : Nat} {own nm : String} {ret : Option FieldType} {R : Room} {sz k n : Nat} {t : List zI} {pc : Nat} {ls : zL} {st rest : List Value} {D : zD} {V : Nat → Nat → Int32} {P : Nat → Nat → Value} {PH : aH}
theorem Zr_exS (C : zCx E G cc nL own nm ret R) (ht : zT cc t) {idx : Nat} {r : Nat × Int32 × Nat} (hl : t.lookup pc = some (.invokestatic idx, r)) {y : MethodName} {c9 : ByteArray} {n9 a : Nat} {r9 : Option FieldType} {rm : Room} (hp : zPs y c9 n9 r9 a) (hlk : Cond.methodLink own idx y ∈ zWs) (As : List Value) {x : Nat} (hM : zM E (zGl G) y [.code y c9 n9 r9] rm As (HM D V P PH) sz (zEx D V P PH sz x)) (hst : st = As.reverse ++ rest) (ha : As.length = a) (hR : zRm rm R n9 k n) (hcat : (rest.map fun v => v.category).sum ≤ 8) (hls : ls.length = nL)
    (kk : ∀ V2 : Nat → Nat → Int32, (∀ c, c ≠ 36 → V2 c = V c) → Z E G (HM D V2 P PH) sz (k + rm.cells) (n + rm.slots) (pc + 3, ls, .int (nI x) :: rest)) : Z E G (HM D V P PH) sz k n (pc, ls, st) :=
  Z_callS C ht hl hp hlk As hM hst ha hR hcat hls (fun v h3 sz3 hO => by
    obtain ⟨e1, rfl, V2, rfl, hV⟩ := hO
    cases e1
    exact kk V2 hV) (fun X h3 sz3 hO => by cases hO.1)
theorem Zr_exV (C : zCx E G cc nL own nm ret R) (ht : zT cc t) (hD : zDok E D) {idx : Nat} {r : Nat × Int32 × Nat} (hl : t.lookup pc = some (.invokevirtual idx, r)) {y : MethodName} {c9 : ByteArray} {n9 a : Nat} {r9 : Option FieldType} {rm : Room} (hp : zPv y c9 n9 r9 a) (hlk : Cond.methodLink own idx y ∈ zWs) (i : Nat) (hi : zin i) {ci nn N : Nat} {fs : Nat → Value} {T : u_T} (hc : mk D i (V i) (P i) = (ci, nn, fs)) (hci : zCl[ci]? = some (y.cls, T, N)) (As : List Value) {x : Nat} (hM : zM E (zGl G) y [.code y c9 n9 r9] rm (.ref (D.1 i) :: As) (HM D V P PH) sz (zEx D V P PH sz x)) (hst : st = As.reverse ++ .ref (D.1 i) :: rest) (ha : As.length = a) (hR : zRm rm R n9 k n) (hcat : (rest.map fun v => v.category).sum ≤ 8) (hls : ls.length = nL)
    (kk : ∀ V2 : Nat → Nat → Int32, (∀ c, c ≠ 36 → V2 c = V c) → Z E G (HM D V2 P PH) sz (k + rm.cells) (n + rm.slots) (pc + 3, ls, .int (nI x) :: rest)) : Z E G (HM D V P PH) sz k n (pc, ls, st) :=
  Z_callV C ht hl hp hlk As hM hst ha (by rw [HM_at hD hi, hc]) hci hR hcat hls (fun v h3 sz3 hO => by
    obtain ⟨e1, rfl, V2, rfl, hV⟩ := hO
    cases e1
    exact kk V2 hV) (fun X h3 sz3 hO => by cases hO.1)
end ZEX
theorem mC_max : Cond.code Lib.Math.max.name Lib.Math.max.code 2 (some .int) ∈ zWs := by
  rw [show Lib.Math.max.code = c_Jm_max by decide +kernel]
  exact wc_Jm_max
set_option maxRecDepth 20000 in
theorem ct_Xx_exchangeOn {D : zD} (P : Nat → Nat → Value) (PH : aH) (sz : Nat) {E : zE} (hD : zDok E D) : ∀ d : Nat, d ≤ 16 → ∀ {l : Launch}, zEv E → l.stackTraces = false → ∀ (V : Nat → Nat → Int32), okF (bF V 35) → ∀ q : Nat, q < 36 → zM E l y_Xx_exchangeOn [.code y_Xx_exchangeOn c_Xx_exchangeOn 5 (some .int)] (rmX d) [.ref (D.1 35), .int (nI q), .int (nI (16 - d))] (HM D V P PH) sz (zEx D V P PH sz (exN d (bF V 35) q)) := by
  intro d
  induction d with
  | zero =>
    intro hd l hE hl V hF q hq
    have hsd := sd_le (bF V 35 q)
    cases hck : chs (bF V 35) (gsf (bF V 35) (1 - sd (bF V 35 q)) q) 36 with
    | none =>
      refine zM_of hE hl (by decide +kernel) [some (.ref (D.1 35)), some (.int (nI q)), some (.int (nI 16)), none, none] ⟨rfl, rfl, Nat.le_of_ble_eq_true rfl⟩ ?_
      intro G C q9 htb
      refine Z_run C it_Xx_exchangeOn 2 (f2 := (2, [some (.ref (D.1 35)), some (.int (nI q)), some (.int (nI 16)), none, none], [.int (nI q), .ref (D.1 35)])) rfl ?_
      refine Zr_callV C it_Xx_exchangeOn hD rfl p_Bd_pieceOn ml_Xx_244 35 (by decide) rfl rfl [.int (nI q)] (ct_Bd_pieceOn C.ev C.l hD _ _ _ 35 isB_35 q (by first | assumption | omega) _) rfl rfl ⟨Nat.le_trans (by decide) (Nat.le_add_right 4 _), Nat.le_trans (by decide) (Nat.le_add_right 92 _), Nat.le_refl _, Nat.le_refl _⟩ (Nat.le_of_ble_eq_true rfl) rfl ?_
      show Z E G (HM D V P PH) sz 0 0 (5, [some (.ref (D.1 35)), some (.int (nI q)), some (.int (nI 16)), none, none], [.int (nI (bF V 35 q))])
      refine Z_run C it_Xx_exchangeOn 5 (f2 := (10, [some (.ref (D.1 35)), some (.int (nI q)), some (.int (nI 16)), some (.int (nI (bF V 35 q))), none], [.int (nI (bF V 35 q)), .int (nI 1), .ref (D.1 35), .ref (D.1 35)])) rfl ?_
      refine Zr_callS C it_Xx_exchangeOn rfl p_Pc_sideOf ml_Xx_141 [.int (nI (bF V 35 q))] (ct_Pc_sideOf C.ev C.l (bF V 35 q) (by first | assumption | omega | exact hF _ (by omega)) _ _) rfl rfl ⟨Nat.le_trans (by decide) (Nat.le_add_right 4 _), Nat.le_trans (by decide) (Nat.le_add_right 92 _), Nat.le_refl _, Nat.le_refl _⟩ (Nat.le_of_ble_eq_true rfl) rfl ?_
      show Z E G (HM D V P PH) sz 0 0 (13, [some (.ref (D.1 35)), some (.int (nI q)), some (.int (nI 16)), some (.int (nI (bF V 35 q))), none], [.int (nI (sd (bF V 35 q))), .int (nI 1), .ref (D.1 35), .ref (D.1 35)])
      refine Z_run C it_Xx_exchangeOn 1 (f2 := (14, [some (.ref (D.1 35)), some (.int (nI q)), some (.int (nI 16)), some (.int (nI (bF V 35 q))), none], [.int (nI 1 - nI (sd (bF V 35 q))), .ref (D.1 35), .ref (D.1 35)])) rfl ?_
      have e1 : nI 1 - nI (sd (bF V 35 q)) = nI (1 - sd (bF V 35 q)) := nI_sub (by omega)
      rw [e1]
      refine Z_run C it_Xx_exchangeOn 1 (f2 := (15, [some (.ref (D.1 35)), some (.int (nI q)), some (.int (nI 16)), some (.int (nI (bF V 35 q))), none], [.int (nI q), .int (nI (1 - sd (bF V 35 q))), .ref (D.1 35), .ref (D.1 35)])) rfl ?_
      refine Zr_callV C it_Xx_exchangeOn hD rfl p_Bd_guardsSeenFrom ml_Xx_183 35 (by decide) rfl rfl [.int (nI (1 - sd (bF V 35 q))), .int (nI q)] (ct_Bd_guardsSeenFrom C.ev C.l hD _ _ _ 35 isB_35 hF (1 - sd (bF V 35 q)) (by first | assumption | omega) q (by first | assumption | omega) _) rfl rfl ⟨Nat.le_trans (by decide) (Nat.le_add_right 4 _), Nat.le_trans (by decide) (Nat.le_add_right 92 _), Nat.le_refl _, Nat.le_refl _⟩ (Nat.le_of_ble_eq_true rfl) rfl ?_
      show Z E G (HM D V P PH) sz 0 0 (18, [some (.ref (D.1 35)), some (.int (nI q)), some (.int (nI 16)), some (.int (nI (bF V 35 q))), none], [.long (lN (gsf (bF V 35) (1 - sd (bF V 35 q)) q)), .ref (D.1 35)])
      refine Zr_callV C it_Xx_exchangeOn hD rfl p_Bd_cheapestOn ml_Xx_255 35 (by decide) rfl rfl [.long (lN (gsf (bF V 35) (1 - sd (bF V 35 q)) q))] (ct_Bd_cheapestOn C.ev C.l hD _ _ _ 35 isB_35 hF ((gsf (bF V 35) (1 - sd (bF V 35 q)) q)) (by first | assumption | exact sqs_lt _ _ | exact knw_lt _ _ _ | exact gfa_lt _ _ _ | exact gsf_lt _ _ _) _) rfl rfl ⟨Nat.le_trans (by decide) (Nat.le_add_right 4 _), Nat.le_trans (by decide) (Nat.le_add_right 92 _), Nat.le_refl _, Nat.le_refl _⟩ (Nat.le_of_ble_eq_true rfl) rfl ?_
      show Z E G (HM D V P PH) sz 0 0 (21, [some (.ref (D.1 35)), some (.int (nI q)), some (.int (nI 16)), some (.int (nI (bF V 35 q))), none], [.int (oI (chs (bF V 35) ((gsf (bF V 35) (1 - sd (bF V 35 q)) q)) 36))])
      have e2 : oI (chs (bF V 35) ((gsf (bF V 35) (1 - sd (bF V 35 q)) q)) 36) = -1 := by rw [hck]; rfl
      rw [e2]
      refine Z_run C it_Xx_exchangeOn 3 (f2 := (26, [some (.ref (D.1 35)), some (.int (nI q)), some (.int (nI 16)), some (.int (nI (bF V 35 q))), some (.int (-1))], [.int ((-1)), .int (-1)])) rfl ?_
      refine Z_br C it_Xx_exchangeOn rfl rfl (fun hc1 => ?_) (fun hc1 => ?_)
      · skip
        refine Z_run C it_Xx_exchangeOn 1 (f2 := (36, [some (.ref (D.1 35)), some (.int (nI q)), some (.int (nI 16)), some (.int (nI (bF V 35 q))), some (.int (-1))], [.int (nI 0)])) rfl ?_
        exact Z_iret C q9.e it_Xx_exchangeOn rfl (⟨rfl, rfl, _, rfl, fun c hc => rfl⟩) (Nat.zero_le _) (Nat.zero_le _)
      · exact absurd rfl hc1
    | some k =>
      have hk36 := (chs_lt hck).1
      refine zM_of hE hl (by decide +kernel) [some (.ref (D.1 35)), some (.int (nI q)), some (.int (nI 16)), none, none] ⟨rfl, rfl, Nat.le_of_ble_eq_true rfl⟩ ?_
      intro G C q9 htb
      refine Z_run C it_Xx_exchangeOn 2 (f2 := (2, [some (.ref (D.1 35)), some (.int (nI q)), some (.int (nI 16)), none, none], [.int (nI q), .ref (D.1 35)])) rfl ?_
      refine Zr_callV C it_Xx_exchangeOn hD rfl p_Bd_pieceOn ml_Xx_244 35 (by decide) rfl rfl [.int (nI q)] (ct_Bd_pieceOn C.ev C.l hD _ _ _ 35 isB_35 q (by first | assumption | omega) _) rfl rfl ⟨Nat.le_trans (by decide) (Nat.le_add_right 4 _), Nat.le_trans (by decide) (Nat.le_add_right 92 _), Nat.le_refl _, Nat.le_refl _⟩ (Nat.le_of_ble_eq_true rfl) rfl ?_
      show Z E G (HM D V P PH) sz 0 0 (5, [some (.ref (D.1 35)), some (.int (nI q)), some (.int (nI 16)), none, none], [.int (nI (bF V 35 q))])
      refine Z_run C it_Xx_exchangeOn 5 (f2 := (10, [some (.ref (D.1 35)), some (.int (nI q)), some (.int (nI 16)), some (.int (nI (bF V 35 q))), none], [.int (nI (bF V 35 q)), .int (nI 1), .ref (D.1 35), .ref (D.1 35)])) rfl ?_
      refine Zr_callS C it_Xx_exchangeOn rfl p_Pc_sideOf ml_Xx_141 [.int (nI (bF V 35 q))] (ct_Pc_sideOf C.ev C.l (bF V 35 q) (by first | assumption | omega | exact hF _ (by omega)) _ _) rfl rfl ⟨Nat.le_trans (by decide) (Nat.le_add_right 4 _), Nat.le_trans (by decide) (Nat.le_add_right 92 _), Nat.le_refl _, Nat.le_refl _⟩ (Nat.le_of_ble_eq_true rfl) rfl ?_
      show Z E G (HM D V P PH) sz 0 0 (13, [some (.ref (D.1 35)), some (.int (nI q)), some (.int (nI 16)), some (.int (nI (bF V 35 q))), none], [.int (nI (sd (bF V 35 q))), .int (nI 1), .ref (D.1 35), .ref (D.1 35)])
      refine Z_run C it_Xx_exchangeOn 1 (f2 := (14, [some (.ref (D.1 35)), some (.int (nI q)), some (.int (nI 16)), some (.int (nI (bF V 35 q))), none], [.int (nI 1 - nI (sd (bF V 35 q))), .ref (D.1 35), .ref (D.1 35)])) rfl ?_
      have e1 : nI 1 - nI (sd (bF V 35 q)) = nI (1 - sd (bF V 35 q)) := nI_sub (by omega)
      rw [e1]
      refine Z_run C it_Xx_exchangeOn 1 (f2 := (15, [some (.ref (D.1 35)), some (.int (nI q)), some (.int (nI 16)), some (.int (nI (bF V 35 q))), none], [.int (nI q), .int (nI (1 - sd (bF V 35 q))), .ref (D.1 35), .ref (D.1 35)])) rfl ?_
      refine Zr_callV C it_Xx_exchangeOn hD rfl p_Bd_guardsSeenFrom ml_Xx_183 35 (by decide) rfl rfl [.int (nI (1 - sd (bF V 35 q))), .int (nI q)] (ct_Bd_guardsSeenFrom C.ev C.l hD _ _ _ 35 isB_35 hF (1 - sd (bF V 35 q)) (by first | assumption | omega) q (by first | assumption | omega) _) rfl rfl ⟨Nat.le_trans (by decide) (Nat.le_add_right 4 _), Nat.le_trans (by decide) (Nat.le_add_right 92 _), Nat.le_refl _, Nat.le_refl _⟩ (Nat.le_of_ble_eq_true rfl) rfl ?_
      show Z E G (HM D V P PH) sz 0 0 (18, [some (.ref (D.1 35)), some (.int (nI q)), some (.int (nI 16)), some (.int (nI (bF V 35 q))), none], [.long (lN (gsf (bF V 35) (1 - sd (bF V 35 q)) q)), .ref (D.1 35)])
      refine Zr_callV C it_Xx_exchangeOn hD rfl p_Bd_cheapestOn ml_Xx_255 35 (by decide) rfl rfl [.long (lN (gsf (bF V 35) (1 - sd (bF V 35 q)) q))] (ct_Bd_cheapestOn C.ev C.l hD _ _ _ 35 isB_35 hF ((gsf (bF V 35) (1 - sd (bF V 35 q)) q)) (by first | assumption | exact sqs_lt _ _ | exact knw_lt _ _ _ | exact gfa_lt _ _ _ | exact gsf_lt _ _ _) _) rfl rfl ⟨Nat.le_trans (by decide) (Nat.le_add_right 4 _), Nat.le_trans (by decide) (Nat.le_add_right 92 _), Nat.le_refl _, Nat.le_refl _⟩ (Nat.le_of_ble_eq_true rfl) rfl ?_
      show Z E G (HM D V P PH) sz 0 0 (21, [some (.ref (D.1 35)), some (.int (nI q)), some (.int (nI 16)), some (.int (nI (bF V 35 q))), none], [.int (oI (chs (bF V 35) ((gsf (bF V 35) (1 - sd (bF V 35 q)) q)) 36))])
      have e2 : oI (chs (bF V 35) ((gsf (bF V 35) (1 - sd (bF V 35 q)) q)) 36) = nI k := by rw [hck]; rfl
      rw [e2]
      refine Z_run C it_Xx_exchangeOn 3 (f2 := (26, [some (.ref (D.1 35)), some (.int (nI q)), some (.int (nI 16)), some (.int (nI (bF V 35 q))), some (.int (nI k))], [.int ((-1)), .int (nI k)])) rfl ?_
      refine Z_br C it_Xx_exchangeOn rfl rfl (fun hc1 => ?_) (fun hc1 => ?_)
      · exact absurd hc1 (nI_m1 (by omega))
      · skip
        refine Z_run C it_Xx_exchangeOn 2 (f2 := (32, [some (.ref (D.1 35)), some (.int (nI q)), some (.int (nI 16)), some (.int (nI (bF V 35 q))), some (.int (nI k))], [.int (nI 16), .int (nI 16)])) rfl ?_
        refine Z_br C it_Xx_exchangeOn rfl rfl (fun hc2 => ?_) (fun hc2 => ?_)
        · exact absurd hc2 (by decide)
        · skip
          refine Z_run C it_Xx_exchangeOn 1 (f2 := (36, [some (.ref (D.1 35)), some (.int (nI q)), some (.int (nI 16)), some (.int (nI (bF V 35 q))), some (.int (nI k))], [.int (nI 0)])) rfl ?_
          exact Z_iret C q9.e it_Xx_exchangeOn rfl (⟨rfl, rfl, _, rfl, fun c hc => rfl⟩) (Nat.zero_le _) (Nat.zero_le _)
  | succ d ih =>
    intro hd l hE hl V hF q hq
    have hsd := sd_le (bF V 35 q)
    cases hck : chs (bF V 35) (gsf (bF V 35) (1 - sd (bF V 35 q)) q) 36 with
    | none =>
      rw [show 16 - (d + 1) = 15 - d by omega]
      refine zM_of hE hl (by decide +kernel) [some (.ref (D.1 35)), some (.int (nI q)), some (.int (nI (15 - d))), none, none] ⟨rfl, rfl, Nat.le_of_ble_eq_true rfl⟩ ?_
      intro G C q9 htb
      refine Z_run C it_Xx_exchangeOn 2 (f2 := (2, [some (.ref (D.1 35)), some (.int (nI q)), some (.int (nI (15 - d))), none, none], [.int (nI q), .ref (D.1 35)])) rfl ?_
      refine Zr_callV C it_Xx_exchangeOn hD rfl p_Bd_pieceOn ml_Xx_244 35 (by decide) rfl rfl [.int (nI q)] (ct_Bd_pieceOn C.ev C.l hD _ _ _ 35 isB_35 q (by first | assumption | omega) _) rfl rfl ⟨Nat.le_trans (by decide) (Nat.le_add_right 4 _), Nat.le_trans (by decide) (Nat.le_add_right 92 _), Nat.le_refl _, Nat.le_refl _⟩ (Nat.le_of_ble_eq_true rfl) rfl ?_
      show Z E G (HM D V P PH) sz 0 0 (5, [some (.ref (D.1 35)), some (.int (nI q)), some (.int (nI (15 - d))), none, none], [.int (nI (bF V 35 q))])
      refine Z_run C it_Xx_exchangeOn 5 (f2 := (10, [some (.ref (D.1 35)), some (.int (nI q)), some (.int (nI (15 - d))), some (.int (nI (bF V 35 q))), none], [.int (nI (bF V 35 q)), .int (nI 1), .ref (D.1 35), .ref (D.1 35)])) rfl ?_
      refine Zr_callS C it_Xx_exchangeOn rfl p_Pc_sideOf ml_Xx_141 [.int (nI (bF V 35 q))] (ct_Pc_sideOf C.ev C.l (bF V 35 q) (by first | assumption | omega | exact hF _ (by omega)) _ _) rfl rfl ⟨Nat.le_trans (by decide) (Nat.le_add_right 4 _), Nat.le_trans (by decide) (Nat.le_add_right 92 _), Nat.le_refl _, Nat.le_refl _⟩ (Nat.le_of_ble_eq_true rfl) rfl ?_
      show Z E G (HM D V P PH) sz 0 0 (13, [some (.ref (D.1 35)), some (.int (nI q)), some (.int (nI (15 - d))), some (.int (nI (bF V 35 q))), none], [.int (nI (sd (bF V 35 q))), .int (nI 1), .ref (D.1 35), .ref (D.1 35)])
      refine Z_run C it_Xx_exchangeOn 1 (f2 := (14, [some (.ref (D.1 35)), some (.int (nI q)), some (.int (nI (15 - d))), some (.int (nI (bF V 35 q))), none], [.int (nI 1 - nI (sd (bF V 35 q))), .ref (D.1 35), .ref (D.1 35)])) rfl ?_
      have e1 : nI 1 - nI (sd (bF V 35 q)) = nI (1 - sd (bF V 35 q)) := nI_sub (by omega)
      rw [e1]
      refine Z_run C it_Xx_exchangeOn 1 (f2 := (15, [some (.ref (D.1 35)), some (.int (nI q)), some (.int (nI (15 - d))), some (.int (nI (bF V 35 q))), none], [.int (nI q), .int (nI (1 - sd (bF V 35 q))), .ref (D.1 35), .ref (D.1 35)])) rfl ?_
      refine Zr_callV C it_Xx_exchangeOn hD rfl p_Bd_guardsSeenFrom ml_Xx_183 35 (by decide) rfl rfl [.int (nI (1 - sd (bF V 35 q))), .int (nI q)] (ct_Bd_guardsSeenFrom C.ev C.l hD _ _ _ 35 isB_35 hF (1 - sd (bF V 35 q)) (by first | assumption | omega) q (by first | assumption | omega) _) rfl rfl ⟨Nat.le_trans (by decide) (Nat.le_add_right 4 _), Nat.le_trans (by decide) (Nat.le_add_right 92 _), Nat.le_refl _, Nat.le_refl _⟩ (Nat.le_of_ble_eq_true rfl) rfl ?_
      show Z E G (HM D V P PH) sz 0 0 (18, [some (.ref (D.1 35)), some (.int (nI q)), some (.int (nI (15 - d))), some (.int (nI (bF V 35 q))), none], [.long (lN (gsf (bF V 35) (1 - sd (bF V 35 q)) q)), .ref (D.1 35)])
      refine Zr_callV C it_Xx_exchangeOn hD rfl p_Bd_cheapestOn ml_Xx_255 35 (by decide) rfl rfl [.long (lN (gsf (bF V 35) (1 - sd (bF V 35 q)) q))] (ct_Bd_cheapestOn C.ev C.l hD _ _ _ 35 isB_35 hF ((gsf (bF V 35) (1 - sd (bF V 35 q)) q)) (by first | assumption | exact sqs_lt _ _ | exact knw_lt _ _ _ | exact gfa_lt _ _ _ | exact gsf_lt _ _ _) _) rfl rfl ⟨Nat.le_trans (by decide) (Nat.le_add_right 4 _), Nat.le_trans (by decide) (Nat.le_add_right 92 _), Nat.le_refl _, Nat.le_refl _⟩ (Nat.le_of_ble_eq_true rfl) rfl ?_
      show Z E G (HM D V P PH) sz 0 0 (21, [some (.ref (D.1 35)), some (.int (nI q)), some (.int (nI (15 - d))), some (.int (nI (bF V 35 q))), none], [.int (oI (chs (bF V 35) ((gsf (bF V 35) (1 - sd (bF V 35 q)) q)) 36))])
      have e2 : oI (chs (bF V 35) ((gsf (bF V 35) (1 - sd (bF V 35 q)) q)) 36) = -1 := by rw [hck]; rfl
      rw [e2]
      refine Z_run C it_Xx_exchangeOn 3 (f2 := (26, [some (.ref (D.1 35)), some (.int (nI q)), some (.int (nI (15 - d))), some (.int (nI (bF V 35 q))), some (.int (-1))], [.int ((-1)), .int (-1)])) rfl ?_
      refine Z_br C it_Xx_exchangeOn rfl rfl (fun hc1 => ?_) (fun hc1 => ?_)
      · skip
        refine Z_run C it_Xx_exchangeOn 1 (f2 := (36, [some (.ref (D.1 35)), some (.int (nI q)), some (.int (nI (15 - d))), some (.int (nI (bF V 35 q))), some (.int (-1))], [.int (nI 0)])) rfl ?_
        exact Z_iret C q9.e it_Xx_exchangeOn rfl (⟨by simp only [exN, hck], rfl, _, rfl, fun c hc => rfl⟩) (Nat.zero_le _) (Nat.zero_le _)
      · exact absurd rfl hc1
    | some k =>
      have hk36 := (chs_lt hck).1
      rw [show 16 - (d + 1) = 15 - d by omega]
      refine zM_of hE hl (by decide +kernel) [some (.ref (D.1 35)), some (.int (nI q)), some (.int (nI (15 - d))), none, none] ⟨rfl, rfl, Nat.le_of_ble_eq_true rfl⟩ ?_
      intro G C q9 htb
      refine Z_run C it_Xx_exchangeOn 2 (f2 := (2, [some (.ref (D.1 35)), some (.int (nI q)), some (.int (nI (15 - d))), none, none], [.int (nI q), .ref (D.1 35)])) rfl ?_
      refine Zr_callV C it_Xx_exchangeOn hD rfl p_Bd_pieceOn ml_Xx_244 35 (by decide) rfl rfl [.int (nI q)] (ct_Bd_pieceOn C.ev C.l hD _ _ _ 35 isB_35 q (by first | assumption | omega) _) rfl rfl ⟨Nat.le_trans (by decide) (Nat.le_add_right 4 _), Nat.le_trans (by decide) (Nat.le_add_right 92 _), Nat.le_refl _, Nat.le_refl _⟩ (Nat.le_of_ble_eq_true rfl) rfl ?_
      show Z E G (HM D V P PH) sz 0 0 (5, [some (.ref (D.1 35)), some (.int (nI q)), some (.int (nI (15 - d))), none, none], [.int (nI (bF V 35 q))])
      refine Z_run C it_Xx_exchangeOn 5 (f2 := (10, [some (.ref (D.1 35)), some (.int (nI q)), some (.int (nI (15 - d))), some (.int (nI (bF V 35 q))), none], [.int (nI (bF V 35 q)), .int (nI 1), .ref (D.1 35), .ref (D.1 35)])) rfl ?_
      refine Zr_callS C it_Xx_exchangeOn rfl p_Pc_sideOf ml_Xx_141 [.int (nI (bF V 35 q))] (ct_Pc_sideOf C.ev C.l (bF V 35 q) (by first | assumption | omega | exact hF _ (by omega)) _ _) rfl rfl ⟨Nat.le_trans (by decide) (Nat.le_add_right 4 _), Nat.le_trans (by decide) (Nat.le_add_right 92 _), Nat.le_refl _, Nat.le_refl _⟩ (Nat.le_of_ble_eq_true rfl) rfl ?_
      show Z E G (HM D V P PH) sz 0 0 (13, [some (.ref (D.1 35)), some (.int (nI q)), some (.int (nI (15 - d))), some (.int (nI (bF V 35 q))), none], [.int (nI (sd (bF V 35 q))), .int (nI 1), .ref (D.1 35), .ref (D.1 35)])
      refine Z_run C it_Xx_exchangeOn 1 (f2 := (14, [some (.ref (D.1 35)), some (.int (nI q)), some (.int (nI (15 - d))), some (.int (nI (bF V 35 q))), none], [.int (nI 1 - nI (sd (bF V 35 q))), .ref (D.1 35), .ref (D.1 35)])) rfl ?_
      have e1 : nI 1 - nI (sd (bF V 35 q)) = nI (1 - sd (bF V 35 q)) := nI_sub (by omega)
      rw [e1]
      refine Z_run C it_Xx_exchangeOn 1 (f2 := (15, [some (.ref (D.1 35)), some (.int (nI q)), some (.int (nI (15 - d))), some (.int (nI (bF V 35 q))), none], [.int (nI q), .int (nI (1 - sd (bF V 35 q))), .ref (D.1 35), .ref (D.1 35)])) rfl ?_
      refine Zr_callV C it_Xx_exchangeOn hD rfl p_Bd_guardsSeenFrom ml_Xx_183 35 (by decide) rfl rfl [.int (nI (1 - sd (bF V 35 q))), .int (nI q)] (ct_Bd_guardsSeenFrom C.ev C.l hD _ _ _ 35 isB_35 hF (1 - sd (bF V 35 q)) (by first | assumption | omega) q (by first | assumption | omega) _) rfl rfl ⟨Nat.le_trans (by decide) (Nat.le_add_right 4 _), Nat.le_trans (by decide) (Nat.le_add_right 92 _), Nat.le_refl _, Nat.le_refl _⟩ (Nat.le_of_ble_eq_true rfl) rfl ?_
      show Z E G (HM D V P PH) sz 0 0 (18, [some (.ref (D.1 35)), some (.int (nI q)), some (.int (nI (15 - d))), some (.int (nI (bF V 35 q))), none], [.long (lN (gsf (bF V 35) (1 - sd (bF V 35 q)) q)), .ref (D.1 35)])
      refine Zr_callV C it_Xx_exchangeOn hD rfl p_Bd_cheapestOn ml_Xx_255 35 (by decide) rfl rfl [.long (lN (gsf (bF V 35) (1 - sd (bF V 35 q)) q))] (ct_Bd_cheapestOn C.ev C.l hD _ _ _ 35 isB_35 hF ((gsf (bF V 35) (1 - sd (bF V 35 q)) q)) (by first | assumption | exact sqs_lt _ _ | exact knw_lt _ _ _ | exact gfa_lt _ _ _ | exact gsf_lt _ _ _) _) rfl rfl ⟨Nat.le_trans (by decide) (Nat.le_add_right 4 _), Nat.le_trans (by decide) (Nat.le_add_right 92 _), Nat.le_refl _, Nat.le_refl _⟩ (Nat.le_of_ble_eq_true rfl) rfl ?_
      show Z E G (HM D V P PH) sz 0 0 (21, [some (.ref (D.1 35)), some (.int (nI q)), some (.int (nI (15 - d))), some (.int (nI (bF V 35 q))), none], [.int (oI (chs (bF V 35) ((gsf (bF V 35) (1 - sd (bF V 35 q)) q)) 36))])
      have e2 : oI (chs (bF V 35) ((gsf (bF V 35) (1 - sd (bF V 35 q)) q)) 36) = nI k := by rw [hck]; rfl
      rw [e2]
      refine Z_run C it_Xx_exchangeOn 3 (f2 := (26, [some (.ref (D.1 35)), some (.int (nI q)), some (.int (nI (15 - d))), some (.int (nI (bF V 35 q))), some (.int (nI k))], [.int ((-1)), .int (nI k)])) rfl ?_
      refine Z_br C it_Xx_exchangeOn rfl rfl (fun hc1 => ?_) (fun hc1 => ?_)
      · exact absurd hc1 (nI_m1 (by omega))
      · skip
        refine Z_run C it_Xx_exchangeOn 2 (f2 := (32, [some (.ref (D.1 35)), some (.int (nI q)), some (.int (nI (15 - d))), some (.int (nI (bF V 35 q))), some (.int (nI k))], [.int (nI 16), .int (nI (15 - d))])) rfl ?_
        refine Z_br C it_Xx_exchangeOn rfl rfl (fun hc2 => ?_) (fun hc2 => ?_)
        · skip
          refine Z_run C it_Xx_exchangeOn 3 (f2 := (41, [some (.ref (D.1 35)), some (.int (nI q)), some (.int (nI (15 - d))), some (.int (nI (bF V 35 q))), some (.int (nI k))], [.int (nI q), .int (nI k), .ref (D.1 35)])) rfl ?_
          refine Zr_callV C it_Xx_exchangeOn hD rfl p_Bd_carry ml_Xx_258 35 (by decide) rfl rfl [.int (nI k), .int (nI q)] (ct_Bd_carry C.ev C.l hD _ _ _ 35 isB_35 hF k (by first | assumption | omega) q (by first | assumption | omega) _) rfl rfl ⟨Nat.le_trans (by decide) (Nat.le_add_right 4 _), Nat.le_trans (by decide) (Nat.le_add_right 92 _), Nat.le_refl _, Nat.le_refl _⟩ (Nat.le_of_ble_eq_true rfl) rfl ?_
          show Z E G (HM D (vset (vset V 36 q (nI (crr (bF V 35) k q))) 36 k (nI 0)) P PH) sz 0 0 (44, [some (.ref (D.1 35)), some (.int (nI q)), some (.int (nI (15 - d))), some (.int (nI (bF V 35 q))), some (.int (nI k))], [])
          have hF2 : okF (bF (vset (vset V 36 q (nI (crr (bF V 35) k q))) 36 k (nI 0)) 35) := by rw [bF_car hF (by omega)]; exact okF_mv hF (by omega)
          refine Z_run C it_Xx_exchangeOn 2 (f2 := (46, [some (.ref (D.1 35)), some (.int (nI q)), some (.int (nI (15 - d))), some (.int (nI (bF V 35 q))), some (.int (nI k))], [.int (nI (bF V 35 q)), .int (nI 0)])) rfl ?_
          refine Zr_callS C it_Xx_exchangeOn rfl p_Pc_worthOf ml_Xx_149 [.int (nI (bF V 35 q))] (ct_Pc_worthOf C.ev C.l hD _ _ _ (bF V 35 q) (by first | assumption | omega | exact hF _ (by omega)) _) rfl rfl ⟨Nat.le_trans (by decide) (Nat.le_add_right 4 _), Nat.le_trans (by decide) (Nat.le_add_right 92 _), Nat.le_refl _, Nat.le_refl _⟩ (Nat.le_of_ble_eq_true rfl) rfl ?_
          show Z E G (HM D (vset (vset V 36 q (nI (crr (bF V 35) k q))) 36 k (nI 0)) P PH) sz 0 0 (49, [some (.ref (D.1 35)), some (.int (nI q)), some (.int (nI (15 - d))), some (.int (nI (bF V 35 q))), some (.int (nI k))], [.int (nI (wr (bF V 35 q))), .int (nI 0)])
          refine Z_run C it_Xx_exchangeOn 5 (f2 := (54, [some (.ref (D.1 35)), some (.int (nI q)), some (.int (nI (15 - d))), some (.int (nI (bF V 35 q))), some (.int (nI k))], [.int (nI (15 - d) + nI 1), .int (nI q), .ref (D.1 35), .int (nI (wr (bF V 35 q))), .int (nI 0)])) rfl ?_
          rw [nI_add (15 - d) 1]
          have e3 : nI (15 - d + 1) = nI (16 - d) := by rw [show 15 - d + 1 = 16 - d by omega]
          rw [e3]
          refine Zr_exS C it_Xx_exchangeOn rfl p_Xx_exchangeOn ml_Xx_251 [.ref (D.1 35), .int (nI q), .int (nI (16 - d))] (ih (by omega) C.ev C.l _ hF2 q hq) rfl rfl ⟨(by show 4 + d + 1 ≤ 4 + (d + 1); omega), (by show 8 + (5 + 11) + (92 + 24 * d) ≤ 92 + 24 * (d + 1); omega), Nat.le_refl _, Nat.le_refl _⟩ (Nat.le_of_ble_eq_true rfl) rfl (fun V2 hV2 => ?_)
          show Z E G (HM D V2 P PH) sz 0 0 (57, [some (.ref (D.1 35)), some (.int (nI q)), some (.int (nI (15 - d))), some (.int (nI (bF V 35 q))), some (.int (nI k))], [.int (nI (exN d (bF (vset (vset V 36 q (nI (crr (bF V 35) k q))) 36 k (nI 0)) 35) q)), .int (nI (wr (bF V 35 q))), .int (nI 0)])
          have e4 : bF (vset (vset V 36 q (nI (crr (bF V 35) k q))) 36 k (nI 0)) 35 = mvF (bF V 35) k q := bF_car hF (by omega)
          rw [e4]
          refine Z_run C it_Xx_exchangeOn 1 (f2 := (58, [some (.ref (D.1 35)), some (.int (nI q)), some (.int (nI (15 - d))), some (.int (nI (bF V 35 q))), some (.int (nI k))], [.int (nI (wr (bF V 35 q)) - nI (exN d (mvF (bF V 35) k q) q)), .int (nI 0)])) rfl ?_
          refine Z_max C it_Xx_exchangeOn rfl ml_Xx_261 ws_Jm_max wn_Jm_max mC_max rfl ⟨Nat.le_trans (by decide) (Nat.le_add_right 4 _), Nat.le_trans (by decide) (Nat.le_add_right 92 _), Nat.le_refl _, Nat.le_refl _⟩ ?_
          rw [max_sub _ (by have := wr_le (bF V 35 q); omega) _ (by have := exN_le d (mvF (bF V 35) k q) q; omega)]
          exact Z_iret C q9.e it_Xx_exchangeOn rfl (⟨by simp only [exN, hck], rfl, _, rfl, fun c hc => by rw [hV2 c hc, vset_n hc, vset_n hc]⟩) (Nat.zero_le _) (Nat.zero_le _)
        · exact absurd ((nI_ltI (a := 15 - d) (b := 16) (by omega) (by omega)).mpr (by omega)) hc2
