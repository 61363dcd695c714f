/-! ===== BrackenGambit: the checks and the queries ===== -/
section ZTH
variable {E : zE} {G : zG} {cc : ByteArray} {nL : Nat} {own nm : String} {ret : Option FieldType} {R : Room} {h : aH} {sz k n : Nat} {t : List zI} {pc : Nat} {ls : zL} {st rest : List Value} {D : zD} {V : Nat → Nat → Int32} {P : Nat → Nat → Value} {PH : aH}
theorem Zr_thrS (C : zCx E G cc nL own nm ret R) (ht : zT cc t) {idx : Nat} {r : Nat × Int32 × Nat} (hl : t.lookup pc = some (.invokestatic idx, r)) {y : MethodName} {c9 : ByteArray} {n9 a : Nat} {r9 : Option FieldType} {rm : Room} (hp : zPs y c9 n9 r9 a) (hlk : Cond.methodLink own idx y ∈ zWs) (As : List Value) {X : String} {h2 : aH} {sz2 : Nat} (hM : zM E (zGl G) y [.code y c9 n9 r9] rm As h sz (zThr X h2 sz2)) (hst : st = As.reverse ++ rest) (ha : As.length = a) (hR : zRm rm R n9 k n) (hcat : (rest.map fun v => v.category).sum ≤ 8) (hls : ls.length = nL) {O : zO} {mc ms : Nat} (q : zEndX E G O mc ms) (hb : zTb G []) (hO : O (.inr X) h2 sz2) (hk : k + rm.cells ≤ mc) (hn : n + rm.slots ≤ ms) : Z E G h sz k n (pc, ls, st) :=
  Z_callS C ht hl hp hlk As hM hst ha hR hcat hls (fun v h3 sz3 hO2 => by cases hO2.1) (fun X2 h3 sz3 hO2 => by
    obtain ⟨e1, rfl, rfl⟩ := hO2
    cases e1
    exact Z_out C q hb (fun x hx => by cases hx) hO hk hn)
theorem Zr_thrV (C : zCx E G cc nL own nm ret R) (ht : zT cc t) (hD : zDok E D) {idx : Nat} {r : Nat × Int32 × Nat} (hl : t.lookup pc = some (.invokevirtual idx, r)) {y : MethodName} {c9 : ByteArray} {n9 a : Nat} {r9 : Option FieldType} {rm : Room} (hp : zPv y c9 n9 r9 a) (hlk : Cond.methodLink own idx y ∈ zWs) (i : Nat) (hi : zin i) {ci nn N : Nat} {fs : Nat → Value} {T : u_T} (hc : mk D i (V i) (P i) = (ci, nn, fs)) (hci : zCl[ci]? = some (y.cls, T, N)) (As : List Value) {X : String} {h2 : aH} {sz2 : Nat} (hM : zM E (zGl G) y [.code y c9 n9 r9] rm (.ref (D.1 i) :: As) (HM D V P PH) sz (zThr X h2 sz2)) (hst : st = As.reverse ++ .ref (D.1 i) :: rest) (ha : As.length = a) (hR : zRm rm R n9 k n) (hcat : (rest.map fun v => v.category).sum ≤ 8) (hls : ls.length = nL) {O : zO} {mc ms : Nat} (q : zEndX E G O mc ms) (hb : zTb G []) (hO : O (.inr X) h2 sz2) (hk : k + rm.cells ≤ mc) (hn : n + rm.slots ≤ ms) : Z E G (HM D V P PH) sz k n (pc, ls, st) :=
  Z_callV C ht hl hp hlk As hM hst ha (by rw [HM_at hD hi, hc]) hci hR hcat hls (fun v h3 sz3 hO2 => by cases hO2.1) (fun X2 h3 sz3 hO2 => by
    obtain ⟨e1, rfl, rfl⟩ := hO2
    cases e1
    exact Z_out C q hb (fun x hx => by cases hx) hO hk hn)
end ZTH
theorem nI_inj32 {a b : Nat} (ha : a < 4294967296) (hb : b < 4294967296) (h : nI a = nI b) : a = b := by
  have h1 : (BitVec.ofNat 32 a).toNat = (BitVec.ofNat 32 b).toNat := congrArg (fun x : Int32 => x.toBitVec.toNat) h
  rw [BitVec.toNat_ofNat, BitVec.toNat_ofNat] at h1
  omega
theorem nI_neg {a : Nat} (h1 : 2147483648 ≤ a) (h2 : a < 4294967296) : nI a < 0 := by
  rw [Int32.lt_iff_toInt_lt]
  have e : (nI a).toInt = (a : Int) - 4294967296 := by
    show (BitVec.ofNat 32 a).toInt = _
    rw [BitVec.toInt_eq_toNat_cond, BitVec.toNat_ofNat]
    split <;> omega
  rw [e]
  show _ < (0 : Int)
  omega
theorem nI_rng {a k : Nat} (ha : a < 4294967296) (hk : k < 2147483648) (h1 : ¬ nI a < 0) (h2 : nI a < nI k) : a < k := by
  by_cases h3 : a < 2147483648
  · exact (nI_ltI (by omega) (by omega)).mp h2
  · exact absurd (nI_neg (by omega) ha) h1
theorem nI_nn {a : Nat} (ha : a < 2147483648) : ¬ nI a < 0 := fun h => absurd ((nI_ltI (a := a) (b := 0) (by omega) (by omega)).mp h) (by omega)
set_option maxRecDepth 20000 in
theorem ct_Xx_needSide {E : zE} (hE : zEv E) {l : Launch} (hl : l.stackTraces = false) (a : Nat) (ha : a < 2) (h : aH) (sz : Nat) : zM E l y_Xx_needSide [.code y_Xx_needSide c_Xx_needSide 1 none] rm_Xx_needSide [.int (nI a)] h sz (zRet (none) h sz) := by
  refine zM_of hE hl (by decide +kernel) [some (.int (nI a))] ⟨rfl, rfl, Nat.le_of_ble_eq_true rfl⟩ ?_
  intro G C q htb
  refine Z_run C it_Xx_needSide 1 (f2 := (1, [some (.int (nI a))], [.int (nI a)])) rfl ?_
  refine Z_br C it_Xx_needSide rfl rfl (fun hc1 => ?_) (fun hc1 => ?_)
  · replace hc1 := (nI_e0 (a := a) (by omega)).mp hc1
    exact Z_vret C q.e it_Xx_needSide rfl (⟨rfl, rfl, rfl⟩) (by decide) (by decide)
  · replace hc1 : ¬ _ := fun z9 => hc1 ((nI_e0 (a := a) (by omega)).mpr z9)
    refine Z_run C it_Xx_needSide 2 (f2 := (6, [some (.int (nI a))], [.int (nI 1), .int (nI a)])) rfl ?_
    refine Z_br C it_Xx_needSide rfl rfl (fun hc2 => ?_) (fun hc2 => ?_)
    · replace hc2 := (nI_eq (a := a) (b := 1) (by omega) (by omega)).mp hc2
      exact Z_vret C q.e it_Xx_needSide rfl (⟨rfl, rfl, rfl⟩) (by decide) (by decide)
    · exact absurd (show a = 1 by omega) (fun z => hc2 (by rw [z]))
set_option maxRecDepth 20000 in
theorem ct_Xx_needSide_x {E : zE} (hE : zEv E) {l : Launch} (hl : l.stackTraces = false) (a : Nat) (h32 : a < 4294967296) (ha : 2 ≤ a) (h : aH) (sz : Nat) : zM E l y_Xx_needSide [.code y_Xx_needSide c_Xx_needSide 1 none] rm_Xx_needSide [.int (nI a)] h sz (zThr X_IOOBE h sz) := by
  refine zM_of hE hl (by decide +kernel) [some (.int (nI a))] ⟨rfl, rfl, Nat.le_of_ble_eq_true rfl⟩ ?_
  intro G C q htb
  refine Z_run C it_Xx_needSide 1 (f2 := (1, [some (.int (nI a))], [.int (nI a)])) rfl ?_
  refine Z_br C it_Xx_needSide rfl rfl (fun hc1 => ?_) (fun hc1 => ?_)
  · exact absurd (nI_inj32 (a := a) (b := 0) h32 (by omega) hc1) (by omega)
  · skip
    refine Z_run C it_Xx_needSide 2 (f2 := (6, [some (.int (nI a))], [.int (nI 1), .int (nI a)])) rfl ?_
    refine Z_br C it_Xx_needSide rfl rfl (fun hc2 => ?_) (fun hc2 => ?_)
    · exact absurd (nI_inj32 (a := a) (b := 1) h32 (by omega) hc2) (by omega)
    · skip
      exact Z_throwW C q htb it_Xx_needSide tw_Xx_268 rfl rfl rfl rfl rfl rfl ⟨by decide, Nat.le_of_ble_eq_true rfl, by decide, by decide⟩ (⟨rfl, rfl, rfl⟩) (by decide) (by decide)
set_option maxRecDepth 20000 in
theorem ct_Xx_needSquare {E : zE} (hE : zEv E) {l : Launch} (hl : l.stackTraces = false) (a : Nat) (ha : a < 36) (h : aH) (sz : Nat) : zM E l y_Xx_needSquare [.code y_Xx_needSquare c_Xx_needSquare 1 none] rm_Xx_needSquare [.int (nI a)] h sz (zRet (none) h sz) := by
  refine zM_of hE hl (by decide +kernel) [some (.int (nI a))] ⟨rfl, rfl, Nat.le_of_ble_eq_true rfl⟩ ?_
  intro G C q htb
  refine Z_run C it_Xx_needSquare 1 (f2 := (1, [some (.int (nI a))], [.int (nI a)])) rfl ?_
  refine Z_br C it_Xx_needSquare rfl rfl (fun hc1 => ?_) (fun hc1 => ?_)
  · exact absurd hc1 (nI_nn (by omega))
  · skip
    refine Z_run C it_Xx_needSquare 2 (f2 := (7, [some (.int (nI a))], [.int (nI 36), .int (nI a)])) rfl ?_
    refine Z_br C it_Xx_needSquare rfl rfl (fun hc2 => ?_) (fun hc2 => ?_)
    · skip
      exact Z_vret C q.e it_Xx_needSquare rfl (⟨rfl, rfl, rfl⟩) (by decide) (by decide)
    · exact absurd ((nI_ltI (a := a) (b := 36) (by omega) (by omega)).mpr ha) hc2
set_option maxRecDepth 20000 in
theorem ct_Xx_needSquare_x {E : zE} (hE : zEv E) {l : Launch} (hl : l.stackTraces = false) (a : Nat) (h32 : a < 4294967296) (ha : 36 ≤ a) (h : aH) (sz : Nat) : zM E l y_Xx_needSquare [.code y_Xx_needSquare c_Xx_needSquare 1 none] rm_Xx_needSquare [.int (nI a)] h sz (zThr X_IOOBE h sz) := by
  refine zM_of hE hl (by decide +kernel) [some (.int (nI a))] ⟨rfl, rfl, Nat.le_of_ble_eq_true rfl⟩ ?_
  intro G C q htb
  refine Z_run C it_Xx_needSquare 1 (f2 := (1, [some (.int (nI a))], [.int (nI a)])) rfl ?_
  refine Z_br C it_Xx_needSquare rfl rfl (fun hc1 => ?_) (fun hc1 => ?_)
  · skip
    exact Z_throwW C q htb it_Xx_needSquare tw_Xx_271 rfl rfl rfl rfl rfl rfl ⟨by decide, Nat.le_of_ble_eq_true rfl, by decide, by decide⟩ (⟨rfl, rfl, rfl⟩) (by decide) (by decide)
  · skip
    refine Z_run C it_Xx_needSquare 2 (f2 := (7, [some (.int (nI a))], [.int (nI 36), .int (nI a)])) rfl ?_
    refine Z_br C it_Xx_needSquare rfl rfl (fun hc2 => ?_) (fun hc2 => ?_)
    · exact absurd (nI_rng (a := a) (k := 36) h32 (by omega) hc1 hc2) (by omega)
    · skip
      exact Z_throwW C q htb it_Xx_needSquare tw_Xx_271 rfl rfl rfl rfl rfl rfl ⟨by decide, Nat.le_of_ble_eq_true rfl, by decide, by decide⟩ (⟨rfl, rfl, rfl⟩) (by decide) (by decide)
set_option maxRecDepth 20000 in
theorem ct_Xx_needKind {E : zE} (hE : zEv E) {l : Launch} (hl : l.stackTraces = false) (a : Nat) (ha : a < 5) (h : aH) (sz : Nat) : zM E l y_Xx_needKind [.code y_Xx_needKind c_Xx_needKind 1 none] rm_Xx_needKind [.int (nI a)] h sz (zRet (none) h sz) := by
  refine zM_of hE hl (by decide +kernel) [some (.int (nI a))] ⟨rfl, rfl, Nat.le_of_ble_eq_true rfl⟩ ?_
  intro G C q htb
  refine Z_run C it_Xx_needKind 1 (f2 := (1, [some (.int (nI a))], [.int (nI a)])) rfl ?_
  refine Z_br C it_Xx_needKind rfl rfl (fun hc1 => ?_) (fun hc1 => ?_)
  · exact absurd hc1 (nI_nn (by omega))
  · skip
    refine Z_run C it_Xx_needKind 2 (f2 := (6, [some (.int (nI a))], [.int (nI 5), .int (nI a)])) rfl ?_
    refine Z_br C it_Xx_needKind rfl rfl (fun hc2 => ?_) (fun hc2 => ?_)
    · skip
      exact Z_vret C q.e it_Xx_needKind rfl (⟨rfl, rfl, rfl⟩) (by decide) (by decide)
    · exact absurd ((nI_ltI (a := a) (b := 5) (by omega) (by omega)).mpr ha) hc2
set_option maxRecDepth 20000 in
theorem ct_Xx_needKind_x {E : zE} (hE : zEv E) {l : Launch} (hl : l.stackTraces = false) (a : Nat) (h32 : a < 4294967296) (ha : 5 ≤ a) (h : aH) (sz : Nat) : zM E l y_Xx_needKind [.code y_Xx_needKind c_Xx_needKind 1 none] rm_Xx_needKind [.int (nI a)] h sz (zThr X_IOOBE h sz) := by
  refine zM_of hE hl (by decide +kernel) [some (.int (nI a))] ⟨rfl, rfl, Nat.le_of_ble_eq_true rfl⟩ ?_
  intro G C q htb
  refine Z_run C it_Xx_needKind 1 (f2 := (1, [some (.int (nI a))], [.int (nI a)])) rfl ?_
  refine Z_br C it_Xx_needKind rfl rfl (fun hc1 => ?_) (fun hc1 => ?_)
  · skip
    exact Z_throwW C q htb it_Xx_needKind tw_Xx_273 rfl rfl rfl rfl rfl rfl ⟨by decide, Nat.le_of_ble_eq_true rfl, by decide, by decide⟩ (⟨rfl, rfl, rfl⟩) (by decide) (by decide)
  · skip
    refine Z_run C it_Xx_needKind 2 (f2 := (6, [some (.int (nI a))], [.int (nI 5), .int (nI a)])) rfl ?_
    refine Z_br C it_Xx_needKind rfl rfl (fun hc2 => ?_) (fun hc2 => ?_)
    · exact absurd (nI_rng (a := a) (k := 5) h32 (by omega) hc1 hc2) (by omega)
    · skip
      exact Z_throwW C q htb it_Xx_needKind tw_Xx_273 rfl rfl rfl rfl rfl rfl ⟨by decide, Nat.le_of_ble_eq_true rfl, by decide, by decide⟩ (⟨rfl, rfl, rfl⟩) (by decide) (by decide)
