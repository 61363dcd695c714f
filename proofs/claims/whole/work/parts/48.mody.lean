/-! ===== the model: moves ===== -/
theorem vrd_s {V : Nat → Nat → Int32} {c i : Nat} {x : Int32} : vset V c i x c i = x := by
  rw [vset_s]
  simp [upd]
theorem vrd_n {V : Nat → Nat → Int32} {c i j : Nat} {x : Int32} (h : j ≠ i) : vset V c i x c j = V c j := by
  rw [vset_s]
  simp [upd, h]
theorem vrd_o {V : Nat → Nat → Int32} {c d i j : Nat} {x : Int32} (h : d ≠ c) : vset V c i x d j = V d j := by rw [vset_n h]
theorem recM_o {V : Nat → Nat → Int32} {n c : Nat} (h1 : c ≠ 39) (h2 : c ≠ 37) : recM V n c = V c := by
  unfold recM
  split
  · unfold recB recA
    rw [vset_n h2, vrow_n h1, vset_n h2, vrow_n h1]
  · unfold recB
    rw [vset_n h2, vrow_n h1]
/-- the model's row of numbers behind a move, but whether the game is over -/
def mvZ (r : Nat → Int32) (F : Nat → Nat) (tn md bs a b : Nat) : Nat → Int32 :=
  upd (upd (upd (upd (upd (upd (upd r (44 + tn) (r (44 + tn) + nI (wr (F b)))) b (nI (mo (lra (F a) (F b))))) (46 + tn) (upd (upd r (44 + tn) (r (44 + tn) + nI (wr (F b)))) b (nI (mo (lra (F a) (F b)))) (46 + tn) + (nI (wr (lra (F a) (F b))) - nI (wr (F a))))) a (nI 0)) 40 (nI (md + 1))) 41 (nI (if F b = 0 then bs else md + 1))) 39 (nI (1 - tn))
def mvX (mv : Nat → Nat) (md a b : Nat) : Nat → Nat := fun k => if k = md then 36 * a + b else mv k
/-- .. and whether it is -/
def mvR (r : Nat → Int32) (F mv : Nat → Nat) (tn md bs a b : Nat) : Nat → Int32 :=
  if ldr (F b) then upd (upd (mvZ r F tn md bs a b) 37 (nI 1)) 38 (nI tn)
  else if mvo (mvF F a b) (1 - tn) 36 = 0 ∨ ¬ tmM (mvF F a b) (mvX mv md a b) (md + 1) (if F b = 0 then bs else md + 1) ≤ 2 then upd (mvZ r F tn md bs a b) 37 (nI 1) else mvZ r F tn md bs a b
theorem upd_s {f : Nat → Int32} {i : Nat} {x : Int32} : upd f i x i = x := by simp [upd]
theorem upd_n {f : Nat → Int32} {i j : Nat} {x : Int32} (h : j ≠ i) : upd f i x j = f j := by simp [upd, h]
theorem mvZ_b {r : Nat → Int32} {F : Nat → Nat} {tn md bs a b : Nat} (hz : ∀ k, k < 36 → r k = nI (mo (F k))) (ha : a < 36) (hb : b < 36) (hab : a ≠ b) : ∀ k, k < 36 → mvZ r F tn md bs a b k = nI (mo (mvF F a b k)) := by
  intro k hk
  unfold mvZ mvF
  rw [upd_n (by omega), upd_n (by omega), upd_n (by omega)]
  by_cases h1 : k = a
  · rw [h1, upd_s, if_pos rfl]
    rfl
  · rw [upd_n h1, upd_n (by omega), if_neg h1]
    by_cases h2 : k = b
    · rw [h2, upd_s, if_pos rfl]
      rfl
    · rw [upd_n h2, upd_n (by omega), if_neg h2]
      exact hz k hk
theorem mvX_r {r : Nat → Int32} {mv : Nat → Nat} {md a b : Nat} (h : ∀ k, k < md → r k = nI (mv k)) : ∀ k, k < md + 1 → upd r md (nI (36 * a + b)) k = nI (mvX mv md a b k) := by
  intro k hk
  unfold upd mvX
  split
  · rfl
  · exact h k (by omega)
theorem mvX_l {mv : Nat → Nat} {md a b : Nat} (ha : a < 36) (hb : b < 36) (h : ∀ k, k < md → mv k < 1296) : ∀ k, k < md + 1 → mvX mv md a b k < 1296 := by
  intro k hk
  unfold mvX
  split
  · omega
  · exact h k (by omega)
theorem tmM_le {F mv : Nat → Nat} {md bs : Nat} : tmM F mv md bs ≤ md + 1 := by
  have := tmc_le (F := F) (mv := mv) (md := md) (j := md - bs) (x := md) (G := F)
  unfold tmM
  omega
/-- the model's rows behind a call that moves -/
def zEmv (D : zD) (V : Nat → Nat → Int32) (P : Nat → Nat → Value) (PH : aH) (sz : Nat) (x : Int32) (r m : Nat → Int32) : zO := fun o h2 sz2 => o = .inl (some (.int x)) ∧ sz2 = sz ∧ ∃ V2, h2 = HM D V2 P PH ∧ (∀ c, c ≠ 38 → c ≠ 40 → c ≠ 41 → c ≠ 42 → V2 c = V c) ∧ V2 38 = r ∧ V2 40 = m
section ZEM
variable {E : zE} {G : zG} {cc : ByteArray} {nL : Nat} {own nm : String} {ret : Option FieldType} {R : Room} {sz k n : Nat} {t : List zI} {pc : Nat} {ls : zL} {st rest : List Value} {D : zD} {V : Nat → Nat → Int32} {P : Nat → Nat → Value} {PH : aH}
theorem Zr_emV (C : zCx E G cc nL own nm ret R) (ht : zT cc t) (hD : zDok E D) {idx : Nat} {r : Nat × Int32 × Nat} (hl : t.lookup pc = some (.invokevirtual idx, r)) {y : MethodName} {c9 : ByteArray} {n9 a : Nat} {r9 : Option FieldType} {rm : Room} (hp : zPv y c9 n9 r9 a) (hlk : Cond.methodLink own idx y ∈ zWs) (i : Nat) (hi : i < 53) {ci nn N : Nat} {fs : Nat → Value} {T : u_T} (hc : mk D i (V i) (P i) = (ci, nn, fs)) (hci : zCl[ci]? = some (y.cls, T, N)) (As : List Value) {x : Int32} {r2 m2 : Nat → Int32} (hM : zM E (zGl G) y [.code y c9 n9 r9] rm (.ref (D.1 i) :: As) (HM D V P PH) sz (zEmv D V P PH sz x r2 m2)) (hst : st = As.reverse ++ .ref (D.1 i) :: rest) (ha : As.length = a) (hR : zRm rm R n9 k n) (hcat : (rest.map fun v => v.category).sum ≤ 8) (hls : ls.length = nL)
    (kk : ∀ V2 : Nat → Nat → Int32, (∀ c, c ≠ 38 → c ≠ 40 → c ≠ 41 → c ≠ 42 → V2 c = V c) → V2 38 = r2 → V2 40 = m2 → Z E G (HM D V2 P PH) sz (k + rm.cells) (n + rm.slots) (pc + 3, ls, .int x :: rest)) : Z E G (HM D V P PH) sz k n (pc, ls, st) :=
  Z_callV C ht hl hp hlk As hM hst ha (by rw [HM_at hD hi, hc]) hci hR hcat hls (fun v h3 sz3 hO => by
    obtain ⟨e1, rfl, V2, rfl, hV, h38, h40⟩ := hO
    cases e1
    exact kk V2 hV h38 h40) (fun X h3 sz3 hO => by cases hO.1)
end ZEM
set_option maxHeartbeats 2000000 in
set_option maxRecDepth 20000 in
theorem ct_Mm_moves {E : zE} (hE : zEv E) {l : Launch} (hl : l.stackTraces = false) {D : zD} (hD : zDok E D) (V : Nat → Nat → Int32) (P : Nat → Nat → Value) (PH : aH) (F : Nat → Nat) (hF : okF F) (hz : ∀ k, k < 36 → V 38 k = nI (mo (F k))) (mv : Nat → Nat) (tn md bs : Nat) (htn : tn < 2) (hmd9 : md < 6300) (hbm : bs ≤ md) (hml : ∀ k, k < md → mv k < 1296) (htn9 : V 38 39 = nI tn) (hmd : V 38 40 = nI md) (hbs : V 38 41 = nI bs) (hmv : ∀ k, k < md → V 40 k = nI (mv k)) (a : Nat) (ha : a < 36) (ha0 : F a ≠ 0) (b : Nat) (hb : b < 36) (hab : a ≠ b) (sz : Nat) : zM E l y_Mm_moves [.code y_Mm_moves c_Mm_moves 7 (some .int)] rm_Mm_moves [.ref (D.1 37), .int (nI a), .int (nI b)] (HM D V P PH) sz (zEmv D V P PH sz (nI (wr (F b))) (mvR (V 38) F mv tn md bs a b) (upd (V 40) md (nI (36 * a + b)))) := by
  refine zM_of hE hl (by decide +kernel) [some (.ref (D.1 37)), some (.int (nI a)), some (.int (nI b)), none, none, none, none] ⟨rfl, rfl, Nat.le_of_ble_eq_true rfl⟩ ?_
  intro G C q htb
  have hFa := hF a ha
  have hFb := hF b hb
  have hla := (sd_lra _ hFa _ hFb).2
  refine Z_run C it_Mm_moves 1 (f2 := (1, [some (.ref (D.1 37)), some (.int (nI a)), some (.int (nI b)), none, none, none, none], [.ref (D.1 37)])) rfl ?_
  refine Zm_get C it_Mm_moves hD rfl 37 wi_Mm (by decide) rfl rfl (j := 0) (by decide) fl_Mm_7 (v := .ref (D.1 38)) rfl ?_
  refine Z_run C it_Mm_moves 1 (f2 := (6, [some (.ref (D.1 37)), some (.int (nI a)), some (.int (nI b)), none, none, none, none], [.int (nI 39), .ref (D.1 38)])) rfl ?_
  refine Zm_ald C it_Mm_moves hD 38 10 rfl (by decide) rfl (by decide) (by decide) rfl (j := 39) (by omega) (v := .int (nI tn)) (congrArg Value.int htn9) ?_
  refine Z_run C it_Mm_moves 2 (f2 := (9, [some (.ref (D.1 37)), some (.int (nI a)), some (.int (nI b)), some (.int (nI tn)), none, none, none], [.ref (D.1 37)])) rfl ?_
  refine Zm_get C it_Mm_moves hD rfl 37 wi_Mm (by decide) rfl rfl (j := 0) (by decide) fl_Mm_7 (v := .ref (D.1 38)) rfl ?_
  refine Z_run C it_Mm_moves 1 (f2 := (13, [some (.ref (D.1 37)), some (.int (nI a)), some (.int (nI b)), some (.int (nI tn)), none, none, none], [.int (nI a), .ref (D.1 38)])) rfl ?_
  refine Zm_ald C it_Mm_moves hD 38 10 rfl (by decide) rfl (by decide) (by decide) rfl (j := a) (by omega) (v := .int (nI (mo (F a)))) (congrArg Value.int (hz a (by omega))) ?_
  refine Z_run C it_Mm_moves 2 (f2 := (17, [some (.ref (D.1 37)), some (.int (nI a)), some (.int (nI b)), some (.int (nI tn)), some (.int (nI (mo (F a)))), none, none], [.ref (D.1 37)])) rfl ?_
  refine Zm_get C it_Mm_moves hD rfl 37 wi_Mm (by decide) rfl rfl (j := 0) (by decide) fl_Mm_7 (v := .ref (D.1 38)) rfl ?_
  refine Z_run C it_Mm_moves 1 (f2 := (21, [some (.ref (D.1 37)), some (.int (nI a)), some (.int (nI b)), some (.int (nI tn)), some (.int (nI (mo (F a)))), none, none], [.int (nI b), .ref (D.1 38)])) rfl ?_
  refine Zm_ald C it_Mm_moves hD 38 10 rfl (by decide) rfl (by decide) (by decide) rfl (j := b) (by omega) (v := .int (nI (mo (F b)))) (congrArg Value.int (hz b (by omega))) ?_
  refine Z_run C it_Mm_moves 2 (f2 := (26, [some (.ref (D.1 37)), some (.int (nI a)), some (.int (nI b)), some (.int (nI tn)), some (.int (nI (mo (F a)))), some (.int (nI (mo (F b)))), none], [.int (nI (mo (F b)))])) rfl ?_
  refine Zr_callS C it_Mm_moves rfl p_Mm_worthOf ml_Mm_88 [.int (nI (mo (F b)))] (ct_Mm_worthOf C.ev C.l (F b) (by first | assumption | omega | exact hF _ (by omega)) (HM D V P PH) _) rfl rfl ⟨by decide, by decide, by decide, by decide⟩ (Nat.le_of_ble_eq_true rfl) rfl ?_
  show Z E G (HM D V P PH) sz 0 0 (29, [some (.ref (D.1 37)), some (.int (nI a)), some (.int (nI b)), some (.int (nI tn)), some (.int (nI (mo (F a)))), some (.int (nI (mo (F b)))), none], [.int (nI (wr (F b)))])
  refine Z_run C it_Mm_moves 2 (f2 := (32, [some (.ref (D.1 37)), some (.int (nI a)), some (.int (nI b)), some (.int (nI tn)), some (.int (nI (mo (F a)))), some (.int (nI (mo (F b)))), some (.int (nI (wr (F b))))], [.ref (D.1 37)])) rfl ?_
  refine Zm_get C it_Mm_moves hD rfl 37 wi_Mm (by decide) rfl rfl (j := 0) (by decide) fl_Mm_7 (v := .ref (D.1 38)) rfl ?_
  refine Z_run C it_Mm_moves 3 (f2 := (39, [some (.ref (D.1 37)), some (.int (nI a)), some (.int (nI b)), some (.int (nI tn)), some (.int (nI (mo (F a)))), some (.int (nI (mo (F b)))), some (.int (nI (wr (F b))))], [.int (nI 44 + nI tn), .ref (D.1 38)])) rfl ?_
  rw [nI_add 44 tn]
  refine Z_run C it_Mm_moves 1 (f2 := (40, [some (.ref (D.1 37)), some (.int (nI a)), some (.int (nI b)), some (.int (nI tn)), some (.int (nI (mo (F a)))), some (.int (nI (mo (F b)))), some (.int (nI (wr (F b))))], [.int (nI (44 + tn)), .ref (D.1 38), .int (nI (44 + tn)), .ref (D.1 38)])) rfl ?_
  refine Zm_ald C it_Mm_moves hD 38 10 rfl (by decide) rfl (by decide) (by decide) rfl (j := 44 + tn) (by omega) (v := .int (V 38 (44 + tn))) rfl ?_
  refine Z_run C it_Mm_moves 2 (f2 := (44, [some (.ref (D.1 37)), some (.int (nI a)), some (.int (nI b)), some (.int (nI tn)), some (.int (nI (mo (F a)))), some (.int (nI (mo (F b)))), some (.int (nI (wr (F b))))], [.int (V 38 (44 + tn) + nI (wr (F b))), .int (nI (44 + tn)), .ref (D.1 38)])) rfl ?_
  refine Zm_ast C it_Mm_moves hD 38 10 rfl (by first | decide | exact isB_k hb | omega) rfl (by decide) rfl (j := 44 + tn) (by omega) trivial rfl ?_
  refine Z_run C it_Mm_moves 1 (f2 := (46, [some (.ref (D.1 37)), some (.int (nI a)), some (.int (nI b)), some (.int (nI tn)), some (.int (nI (mo (F a)))), some (.int (nI (mo (F b)))), some (.int (nI (wr (F b))))], [.ref (D.1 37)])) rfl ?_
  refine Zm_get C it_Mm_moves hD rfl 37 wi_Mm (by decide) rfl rfl (j := 0) (by decide) fl_Mm_7 (v := .ref (D.1 38)) rfl ?_
  refine Z_run C it_Mm_moves 3 (f2 := (54, [some (.ref (D.1 37)), some (.int (nI a)), some (.int (nI b)), some (.int (nI tn)), some (.int (nI (mo (F a)))), some (.int (nI (mo (F b)))), some (.int (nI (wr (F b))))], [.int (nI (mo (F b))), .int (nI (mo (F a))), .int (nI b), .ref (D.1 38)])) rfl ?_
  refine Zr_callS C it_Mm_moves rfl p_Mm_learns ml_Mm_114 [.int (nI (mo (F a))), .int (nI (mo (F b)))] (ct_Mm_learns C.ev C.l (F a) (by first | assumption | omega) (by first | assumption | omega) (F b) (by first | assumption | omega) (HM D (vset V 38 (44 + tn) (V 38 (44 + tn) + nI (wr (F b)))) P PH) _) rfl rfl ⟨by decide, by decide, by decide, by decide⟩ (Nat.le_of_ble_eq_true rfl) rfl ?_
  show Z E G (HM D (vset V 38 (44 + tn) (V 38 (44 + tn) + nI (wr (F b)))) P PH) sz 0 0 (57, [some (.ref (D.1 37)), some (.int (nI a)), some (.int (nI b)), some (.int (nI tn)), some (.int (nI (mo (F a)))), some (.int (nI (mo (F b)))), some (.int (nI (wr (F b))))], [.int (nI (mo (lra (F a) (F b)))), .int (nI b), .ref (D.1 38)])
  refine Zm_ast C it_Mm_moves hD 38 10 rfl (by first | decide | exact isB_k hb | omega) rfl (by decide) rfl (j := b) (by omega) trivial rfl ?_
  refine Z_run C it_Mm_moves 1 (f2 := (59, [some (.ref (D.1 37)), some (.int (nI a)), some (.int (nI b)), some (.int (nI tn)), some (.int (nI (mo (F a)))), some (.int (nI (mo (F b)))), some (.int (nI (wr (F b))))], [.ref (D.1 37)])) rfl ?_
  refine Zm_get C it_Mm_moves hD rfl 37 wi_Mm (by decide) rfl rfl (j := 0) (by decide) fl_Mm_7 (v := .ref (D.1 38)) rfl ?_
  refine Z_run C it_Mm_moves 3 (f2 := (66, [some (.ref (D.1 37)), some (.int (nI a)), some (.int (nI b)), some (.int (nI tn)), some (.int (nI (mo (F a)))), some (.int (nI (mo (F b)))), some (.int (nI (wr (F b))))], [.int (nI 46 + nI tn), .ref (D.1 38)])) rfl ?_
  rw [nI_add 46 tn]
  refine Z_run C it_Mm_moves 1 (f2 := (67, [some (.ref (D.1 37)), some (.int (nI a)), some (.int (nI b)), some (.int (nI tn)), some (.int (nI (mo (F a)))), some (.int (nI (mo (F b)))), some (.int (nI (wr (F b))))], [.int (nI (46 + tn)), .ref (D.1 38), .int (nI (46 + tn)), .ref (D.1 38)])) rfl ?_
  refine Zm_ald C it_Mm_moves hD 38 10 rfl (by decide) rfl (by decide) (by decide) rfl (j := 46 + tn) (by omega) (v := .int ((vset (vset V 38 (44 + tn) (V 38 (44 + tn) + nI (wr (F b)))) 38 b (nI (mo (lra (F a) (F b))))) 38 (46 + tn))) rfl ?_
  refine Z_run C it_Mm_moves 1 (f2 := (69, [some (.ref (D.1 37)), some (.int (nI a)), some (.int (nI b)), some (.int (nI tn)), some (.int (nI (mo (F a)))), some (.int (nI (mo (F b)))), some (.int (nI (wr (F b))))], [.ref (D.1 37), .int ((vset (vset V 38 (44 + tn) (V 38 (44 + tn) + nI (wr (F b)))) 38 b (nI (mo (lra (F a) (F b))))) 38 (46 + tn)), .int (nI (46 + tn)), .ref (D.1 38)])) rfl ?_
  refine Zm_get C it_Mm_moves hD rfl 37 wi_Mm (by decide) rfl rfl (j := 0) (by decide) fl_Mm_7 (v := .ref (D.1 38)) rfl ?_
  refine Z_run C it_Mm_moves 1 (f2 := (73, [some (.ref (D.1 37)), some (.int (nI a)), some (.int (nI b)), some (.int (nI tn)), some (.int (nI (mo (F a)))), some (.int (nI (mo (F b)))), some (.int (nI (wr (F b))))], [.int (nI b), .ref (D.1 38), .int ((vset (vset V 38 (44 + tn) (V 38 (44 + tn) + nI (wr (F b)))) 38 b (nI (mo (lra (F a) (F b))))) 38 (46 + tn)), .int (nI (46 + tn)), .ref (D.1 38)])) rfl ?_
  refine Zm_ald C it_Mm_moves hD 38 10 rfl (by decide) rfl (by decide) (by decide) rfl (j := b) (by omega) (v := .int (nI (mo (lra (F a) (F b))))) (congrArg Value.int (show _ = nI (mo (lra (F a) (F b))) by (repeat (first | rw [vrd_s] | rw [vrd_o (by decide)] | rw [vrd_n (by omega)])); all_goals (first | assumption | rfl))) ?_
  refine Zr_callS C it_Mm_moves rfl p_Mm_worthOf ml_Mm_88 [.int (nI (mo (lra (F a) (F b))))] (ct_Mm_worthOf C.ev C.l (lra (F a) (F b)) (by first | assumption | omega | exact hF _ (by omega)) (HM D (vset (vset V 38 (44 + tn) (V 38 (44 + tn) + nI (wr (F b)))) 38 b (nI (mo (lra (F a) (F b))))) P PH) _) rfl rfl ⟨by decide, by decide, by decide, by decide⟩ (Nat.le_of_ble_eq_true rfl) rfl ?_
  show Z E G (HM D (vset (vset V 38 (44 + tn) (V 38 (44 + tn) + nI (wr (F b)))) 38 b (nI (mo (lra (F a) (F b))))) P PH) sz 0 0 (77, [some (.ref (D.1 37)), some (.int (nI a)), some (.int (nI b)), some (.int (nI tn)), some (.int (nI (mo (F a)))), some (.int (nI (mo (F b)))), some (.int (nI (wr (F b))))], [.int (nI (wr (lra (F a) (F b)))), .int ((vset (vset V 38 (44 + tn) (V 38 (44 + tn) + nI (wr (F b)))) 38 b (nI (mo (lra (F a) (F b))))) 38 (46 + tn)), .int (nI (46 + tn)), .ref (D.1 38)])
  refine Z_run C it_Mm_moves 1 (f2 := (79, [some (.ref (D.1 37)), some (.int (nI a)), some (.int (nI b)), some (.int (nI tn)), some (.int (nI (mo (F a)))), some (.int (nI (mo (F b)))), some (.int (nI (wr (F b))))], [.int (nI (mo (F a))), .int (nI (wr (lra (F a) (F b)))), .int ((vset (vset V 38 (44 + tn) (V 38 (44 + tn) + nI (wr (F b)))) 38 b (nI (mo (lra (F a) (F b))))) 38 (46 + tn)), .int (nI (46 + tn)), .ref (D.1 38)])) rfl ?_
  refine Zr_callS C it_Mm_moves rfl p_Mm_worthOf ml_Mm_88 [.int (nI (mo (F a)))] (ct_Mm_worthOf C.ev C.l (F a) (by first | assumption | omega | exact hF _ (by omega)) (HM D (vset (vset V 38 (44 + tn) (V 38 (44 + tn) + nI (wr (F b)))) 38 b (nI (mo (lra (F a) (F b))))) P PH) _) rfl rfl ⟨by decide, by decide, by decide, by decide⟩ (Nat.le_of_ble_eq_true rfl) rfl ?_
  show Z E G (HM D (vset (vset V 38 (44 + tn) (V 38 (44 + tn) + nI (wr (F b)))) 38 b (nI (mo (lra (F a) (F b))))) P PH) sz 0 0 (82, [some (.ref (D.1 37)), some (.int (nI a)), some (.int (nI b)), some (.int (nI tn)), some (.int (nI (mo (F a)))), some (.int (nI (mo (F b)))), some (.int (nI (wr (F b))))], [.int (nI (wr (F a))), .int (nI (wr (lra (F a) (F b)))), .int ((vset (vset V 38 (44 + tn) (V 38 (44 + tn) + nI (wr (F b)))) 38 b (nI (mo (lra (F a) (F b))))) 38 (46 + tn)), .int (nI (46 + tn)), .ref (D.1 38)])
  refine Z_run C it_Mm_moves 2 (f2 := (84, [some (.ref (D.1 37)), some (.int (nI a)), some (.int (nI b)), some (.int (nI tn)), some (.int (nI (mo (F a)))), some (.int (nI (mo (F b)))), some (.int (nI (wr (F b))))], [.int ((vset (vset V 38 (44 + tn) (V 38 (44 + tn) + nI (wr (F b)))) 38 b (nI (mo (lra (F a) (F b))))) 38 (46 + tn) + (nI (wr (lra (F a) (F b))) - nI (wr (F a)))), .int (nI (46 + tn)), .ref (D.1 38)])) rfl ?_
  refine Zm_ast C it_Mm_moves hD 38 10 rfl (by first | decide | exact isB_k hb | omega) rfl (by decide) rfl (j := 46 + tn) (by omega) trivial rfl ?_
  refine Z_run C it_Mm_moves 1 (f2 := (86, [some (.ref (D.1 37)), some (.int (nI a)), some (.int (nI b)), some (.int (nI tn)), some (.int (nI (mo (F a)))), some (.int (nI (mo (F b)))), some (.int (nI (wr (F b))))], [.ref (D.1 37)])) rfl ?_
  refine Zm_get C it_Mm_moves hD rfl 37 wi_Mm (by decide) rfl rfl (j := 0) (by decide) fl_Mm_7 (v := .ref (D.1 38)) rfl ?_
  refine Z_run C it_Mm_moves 2 (f2 := (91, [some (.ref (D.1 37)), some (.int (nI a)), some (.int (nI b)), some (.int (nI tn)), some (.int (nI (mo (F a)))), some (.int (nI (mo (F b)))), some (.int (nI (wr (F b))))], [.int (nI 0), .int (nI a), .ref (D.1 38)])) rfl ?_
  refine Zm_ast C it_Mm_moves hD 38 10 rfl (by first | decide | exact isB_k hb | omega) rfl (by decide) rfl (j := a) (by omega) trivial rfl ?_
  refine Z_run C it_Mm_moves 1 (f2 := (93, [some (.ref (D.1 37)), some (.int (nI a)), some (.int (nI b)), some (.int (nI tn)), some (.int (nI (mo (F a)))), some (.int (nI (mo (F b)))), some (.int (nI (wr (F b))))], [.ref (D.1 37)])) rfl ?_
  refine Zm_get C it_Mm_moves hD rfl 37 wi_Mm (by decide) rfl rfl (j := 3) (by decide) fl_Mm_16 (v := .ref (D.1 40)) rfl ?_
  refine Z_run C it_Mm_moves 1 (f2 := (97, [some (.ref (D.1 37)), some (.int (nI a)), some (.int (nI b)), some (.int (nI tn)), some (.int (nI (mo (F a)))), some (.int (nI (mo (F b)))), some (.int (nI (wr (F b))))], [.ref (D.1 37), .ref (D.1 40)])) rfl ?_
  refine Zm_get C it_Mm_moves hD rfl 37 wi_Mm (by decide) rfl rfl (j := 0) (by decide) fl_Mm_7 (v := .ref (D.1 38)) rfl ?_
  refine Z_run C it_Mm_moves 1 (f2 := (102, [some (.ref (D.1 37)), some (.int (nI a)), some (.int (nI b)), some (.int (nI tn)), some (.int (nI (mo (F a)))), some (.int (nI (mo (F b)))), some (.int (nI (wr (F b))))], [.int (nI 40), .ref (D.1 38), .ref (D.1 40)])) rfl ?_
  refine Zm_ald C it_Mm_moves hD 38 10 rfl (by decide) rfl (by decide) (by decide) rfl (j := 40) (by omega) (v := .int (nI md)) (congrArg Value.int (show _ = nI md by (repeat (first | rw [vrd_s] | rw [vrd_o (by decide)] | rw [vrd_n (by omega)])); all_goals (first | assumption | rfl))) ?_
  refine Z_run C it_Mm_moves 3 (f2 := (107, [some (.ref (D.1 37)), some (.int (nI a)), some (.int (nI b)), some (.int (nI tn)), some (.int (nI (mo (F a)))), some (.int (nI (mo (F b)))), some (.int (nI (wr (F b))))], [.int (nI 36 * nI a), .int (nI md), .ref (D.1 40)])) rfl ?_
  rw [nI_mul 36 a]
  refine Z_run C it_Mm_moves 2 (f2 := (109, [some (.ref (D.1 37)), some (.int (nI a)), some (.int (nI b)), some (.int (nI tn)), some (.int (nI (mo (F a)))), some (.int (nI (mo (F b)))), some (.int (nI (wr (F b))))], [.int (nI (36 * a) + nI b), .int (nI md), .ref (D.1 40)])) rfl ?_
  rw [nI_add (36 * a) b]
  refine Zm_ast C it_Mm_moves hD 40 10 rfl (by first | decide | exact isB_k hb | omega) rfl (by decide) rfl (j := md) (by omega) trivial rfl ?_
  refine Z_run C it_Mm_moves 1 (f2 := (111, [some (.ref (D.1 37)), some (.int (nI a)), some (.int (nI b)), some (.int (nI tn)), some (.int (nI (mo (F a)))), some (.int (nI (mo (F b)))), some (.int (nI (wr (F b))))], [.ref (D.1 37)])) rfl ?_
  refine Zm_get C it_Mm_moves hD rfl 37 wi_Mm (by decide) rfl rfl (j := 0) (by decide) fl_Mm_7 (v := .ref (D.1 38)) rfl ?_
  refine Z_run C it_Mm_moves 2 (f2 := (117, [some (.ref (D.1 37)), some (.int (nI a)), some (.int (nI b)), some (.int (nI tn)), some (.int (nI (mo (F a)))), some (.int (nI (mo (F b)))), some (.int (nI (wr (F b))))], [.int (nI 40), .ref (D.1 38), .int (nI 40), .ref (D.1 38)])) rfl ?_
  refine Zm_ald C it_Mm_moves hD 38 10 rfl (by decide) rfl (by decide) (by decide) rfl (j := 40) (by omega) (v := .int (nI md)) (congrArg Value.int (show _ = nI md by (repeat (first | rw [vrd_s] | rw [vrd_o (by decide)] | rw [vrd_n (by omega)])); all_goals (first | assumption | rfl))) ?_
  refine Z_run C it_Mm_moves 2 (f2 := (120, [some (.ref (D.1 37)), some (.int (nI a)), some (.int (nI b)), some (.int (nI tn)), some (.int (nI (mo (F a)))), some (.int (nI (mo (F b)))), some (.int (nI (wr (F b))))], [.int (nI md + nI 1), .int (nI 40), .ref (D.1 38)])) rfl ?_
  rw [nI_add md 1]
  refine Zm_ast C it_Mm_moves hD 38 10 rfl (by first | decide | exact isB_k hb | omega) rfl (by decide) rfl (j := 40) (by omega) trivial rfl ?_
  refine Z_run C it_Mm_moves 1 (f2 := (122, [some (.ref (D.1 37)), some (.int (nI a)), some (.int (nI b)), some (.int (nI tn)), some (.int (nI (mo (F a)))), some (.int (nI (mo (F b)))), some (.int (nI (wr (F b))))], [.ref (D.1 37)])) rfl ?_
  refine Zm_get C it_Mm_moves hD rfl 37 wi_Mm (by decide) rfl rfl (j := 0) (by decide) fl_Mm_7 (v := .ref (D.1 38)) rfl ?_
  refine Z_run C it_Mm_moves 2 (f2 := (129, [some (.ref (D.1 37)), some (.int (nI a)), some (.int (nI b)), some (.int (nI tn)), some (.int (nI (mo (F a)))), some (.int (nI (mo (F b)))), some (.int (nI (wr (F b))))], [.int (nI (mo (F b))), .int (nI 41), .ref (D.1 38)])) rfl ?_
  refine Z_br C it_Mm_moves rfl rfl (fun hc1 => ?_) (fun hc1 => ?_)
  · have h0b : F b = 0 := (mo_le0 hFb).mp hc1
    refine Z_run C it_Mm_moves 1 (f2 := (143, [some (.ref (D.1 37)), some (.int (nI a)), some (.int (nI b)), some (.int (nI tn)), some (.int (nI (mo (F a)))), some (.int (nI (mo (F b)))), some (.int (nI (wr (F b))))], [.ref (D.1 37), .int (nI 41), .ref (D.1 38)])) rfl ?_
    refine Zm_get C it_Mm_moves hD rfl 37 wi_Mm (by decide) rfl rfl (j := 0) (by decide) fl_Mm_7 (v := .ref (D.1 38)) rfl ?_
    refine Z_run C it_Mm_moves 1 (f2 := (148, [some (.ref (D.1 37)), some (.int (nI a)), some (.int (nI b)), some (.int (nI tn)), some (.int (nI (mo (F a)))), some (.int (nI (mo (F b)))), some (.int (nI (wr (F b))))], [.int (nI 41), .ref (D.1 38), .int (nI 41), .ref (D.1 38)])) rfl ?_
    refine Zm_ald C it_Mm_moves hD 38 10 rfl (by decide) rfl (by decide) (by decide) rfl (j := 41) (by omega) (v := .int (nI bs)) (congrArg Value.int (show _ = nI bs by (repeat (first | rw [vrd_s] | rw [vrd_o (by decide)] | rw [vrd_n (by omega)])); all_goals (first | assumption | rfl))) ?_
    have e49 : nI bs = nI (if F b = 0 then bs else md + 1) := by rw [if_pos h0b]
    refine (congrArg (fun z9 => Z E G (HM D (vset (vset (vset (vset (vset (vset V 38 (44 + tn) (V 38 (44 + tn) + nI (wr (F b)))) 38 b (nI (mo (lra (F a) (F b))))) 38 (46 + tn) ((vset (vset V 38 (44 + tn) (V 38 (44 + tn) + nI (wr (F b)))) 38 b (nI (mo (lra (F a) (F b))))) 38 (46 + tn) + (nI (wr (lra (F a) (F b))) - nI (wr (F a))))) 38 a (nI 0)) 40 md (nI (36 * a + b))) 38 40 (nI (md + 1))) P PH) sz 0 0 (149, [some (.ref (D.1 37)), some (.int (nI a)), some (.int (nI b)), some (.int (nI tn)), some (.int (nI (mo (F a)))), some (.int (nI (mo (F b)))), some (.int (nI (wr (F b))))], [.int z9, .int (nI 41), .ref (D.1 38)])) e49).mpr ?_
    refine Zm_ast C it_Mm_moves hD 38 10 rfl (by first | decide | exact isB_k hb | omega) rfl (by decide) rfl (j := 41) (by omega) trivial rfl ?_
    refine Z_run C it_Mm_moves 1 (f2 := (151, [some (.ref (D.1 37)), some (.int (nI a)), some (.int (nI b)), some (.int (nI tn)), some (.int (nI (mo (F a)))), some (.int (nI (mo (F b)))), some (.int (nI (wr (F b))))], [.ref (D.1 37)])) rfl ?_
    refine Zm_get C it_Mm_moves hD rfl 37 wi_Mm (by decide) rfl rfl (j := 0) (by decide) fl_Mm_7 (v := .ref (D.1 38)) rfl ?_
    refine Z_run C it_Mm_moves 4 (f2 := (159, [some (.ref (D.1 37)), some (.int (nI a)), some (.int (nI b)), some (.int (nI tn)), some (.int (nI (mo (F a)))), some (.int (nI (mo (F b)))), some (.int (nI (wr (F b))))], [.int (nI 1 - nI tn), .int (nI 39), .ref (D.1 38)])) rfl ?_
    have e1 : nI 1 - nI tn = nI (1 - tn) := nI_sub (by omega)
    rw [e1]
    refine Zm_ast C it_Mm_moves hD 38 10 rfl (by first | decide | exact isB_k hb | omega) rfl (by decide) rfl (j := 39) (by omega) trivial rfl ?_
    obtain ⟨V8, hV8⟩ : ∃ z9, z9 = (vset (vset (vset (vset (vset (vset (vset (vset V 38 (44 + tn) (V 38 (44 + tn) + nI (wr (F b)))) 38 b (nI (mo (lra (F a) (F b))))) 38 (46 + tn) ((vset (vset V 38 (44 + tn) (V 38 (44 + tn) + nI (wr (F b)))) 38 b (nI (mo (lra (F a) (F b))))) 38 (46 + tn) + (nI (wr (lra (F a) (F b))) - nI (wr (F a))))) 38 a (nI 0)) 40 md (nI (36 * a + b))) 38 40 (nI (md + 1))) 38 41 (nI (if F b = 0 then bs else md + 1))) 38 39 (nI (1 - tn))) := ⟨_, rfl⟩
    rw [← hV8]
    have h38 : V8 38 = mvZ (V 38) F tn md bs a b := by rw [hV8]; rfl
    have h40 : V8 40 = upd (V 40) md (nI (36 * a + b)) := by rw [hV8]; rfl
    have hVo : ∀ c, c ≠ 38 → c ≠ 40 → V8 c = V c := fun c h1 h2 => by rw [hV8, vset_n h1, vset_n h1, vset_n h1, vset_n h2, vset_n h1, vset_n h1, vset_n h1, vset_n h1]
    clear hV8
    have hz2 : ∀ k, k < 36 → V8 38 k = nI (mo (mvF F a b k)) := fun k hk => by rw [h38]; exact mvZ_b hz ha hb hab k hk
    have hF2 : okF (mvF F a b) := okF_mv hF ha
    have k39 : V8 38 39 = nI (1 - tn) := by rw [h38]; unfold mvZ; rw [upd_s]
    have k41 : V8 38 41 = nI (if F b = 0 then bs else md + 1) := by rw [h38]; unfold mvZ; rw [upd_n (by decide), upd_s]
    have k40 : V8 38 40 = nI (md + 1) := by rw [h38]; unfold mvZ; rw [upd_n (by decide), upd_n (by decide), upd_s]
    have hmv9 := mvo_le (F := mvF F a b) (s := 1 - tn) (n := 36)
    refine Z_run C it_Mm_moves 1 (f2 := (162, [some (.ref (D.1 37)), some (.int (nI a)), some (.int (nI b)), some (.int (nI tn)), some (.int (nI (mo (F a)))), some (.int (nI (mo (F b)))), some (.int (nI (wr (F b))))], [.int (nI (mo (F b)))])) rfl ?_
    refine Zr_callS C it_Mm_moves rfl p_Mm_leads ml_Mm_54 [.int (nI (mo (F b)))] (ct_Mm_leads C.ev C.l (F b) (by first | assumption | omega | exact hF _ (by omega)) (HM D V8 P PH) _) rfl rfl ⟨by decide, by decide, by decide, by decide⟩ (Nat.le_of_ble_eq_true rfl) rfl ?_
    show Z E G (HM D V8 P PH) sz 0 0 (165, [some (.ref (D.1 37)), some (.int (nI a)), some (.int (nI b)), some (.int (nI tn)), some (.int (nI (mo (F a)))), some (.int (nI (mo (F b)))), some (.int (nI (wr (F b))))], [.int (bI (ldr (F b)))])
    refine Z_br C it_Mm_moves rfl rfl (fun hc2 => ?_) (fun hc2 => ?_)
    · have hL : ldr (F b) = false := bI_0.mp hc2
      refine Z_run C it_Mm_moves 2 (f2 := (189, [some (.ref (D.1 37)), some (.int (nI a)), some (.int (nI b)), some (.int (nI tn)), some (.int (nI (mo (F a)))), some (.int (nI (mo (F b)))), some (.int (nI (wr (F b))))], [.ref (D.1 37), .ref (D.1 37)])) rfl ?_
      refine Zm_get C it_Mm_moves hD rfl 37 wi_Mm (by decide) rfl rfl (j := 0) (by decide) fl_Mm_7 (v := .ref (D.1 38)) rfl ?_
      refine Z_run C it_Mm_moves 1 (f2 := (194, [some (.ref (D.1 37)), some (.int (nI a)), some (.int (nI b)), some (.int (nI tn)), some (.int (nI (mo (F a)))), some (.int (nI (mo (F b)))), some (.int (nI (wr (F b))))], [.int (nI 39), .ref (D.1 38), .ref (D.1 37)])) rfl ?_
      refine Zm_ald C it_Mm_moves hD 38 10 rfl (by decide) rfl (by decide) (by decide) rfl (j := 39) (by omega) (v := .int (nI (1 - tn))) (congrArg Value.int k39) ?_
      refine Zr_callV C it_Mm_moves hD rfl p_Mm_movesOf ml_Mm_111 37 (by decide) rfl rfl [.int (nI (1 - tn))] (ct_Mm_movesOf_z C.ev C.l hD V8 P _ ((mvF F a b)) hF2 hz2 (1 - tn) (by first | assumption | omega) _) rfl rfl ⟨by decide, by decide, by decide, by decide⟩ (Nat.le_of_ble_eq_true rfl) rfl ?_
      show Z E G (HM D V8 P PH) sz 0 0 (198, [some (.ref (D.1 37)), some (.int (nI a)), some (.int (nI b)), some (.int (nI tn)), some (.int (nI (mo (F a)))), some (.int (nI (mo (F b)))), some (.int (nI (wr (F b))))], [.int (nI (mvo (mvF F a b) (1 - tn) 36))])
      refine Z_br C it_Mm_moves rfl rfl (fun hc3 => ?_) (fun hc3 => ?_)
      · have hM : mvo (mvF F a b) (1 - tn) 36 = 0 := (nI_e0 (by omega)).mp hc3
        refine Z_run C it_Mm_moves 1 (f2 := (210, [some (.ref (D.1 37)), some (.int (nI a)), some (.int (nI b)), some (.int (nI tn)), some (.int (nI (mo (F a)))), some (.int (nI (mo (F b)))), some (.int (nI (wr (F b))))], [.ref (D.1 37)])) rfl ?_
        refine Zm_get C it_Mm_moves hD rfl 37 wi_Mm (by decide) rfl rfl (j := 0) (by decide) fl_Mm_7 (v := .ref (D.1 38)) rfl ?_
        refine Z_run C it_Mm_moves 2 (f2 := (216, [some (.ref (D.1 37)), some (.int (nI a)), some (.int (nI b)), some (.int (nI tn)), some (.int (nI (mo (F a)))), some (.int (nI (mo (F b)))), some (.int (nI (wr (F b))))], [.int (nI 1), .int (nI 37), .ref (D.1 38)])) rfl ?_
        refine Zm_ast C it_Mm_moves hD 38 10 rfl (by first | decide | exact isB_k hb | omega) rfl (by decide) rfl (j := 37) (by omega) trivial rfl ?_
        refine Z_run C it_Mm_moves 1 (f2 := (219, [some (.ref (D.1 37)), some (.int (nI a)), some (.int (nI b)), some (.int (nI tn)), some (.int (nI (mo (F a)))), some (.int (nI (mo (F b)))), some (.int (nI (wr (F b))))], [.int (nI (wr (F b)))])) rfl ?_
        exact Z_iret C q.e it_Mm_moves rfl (⟨rfl, rfl, _, rfl, fun c h1 h2 h3 h4 => by rw [vset_n h1]; exact hVo c h1 h2, by unfold mvR; rw [hL, if_neg (by decide), if_pos (Or.inl hM)]; show upd (V8 38) 37 (nI 1) = _; rw [h38], by rw [vset_n (by decide)]; exact h40⟩) (by decide) (by decide)
      · have hM : ¬ mvo (mvF F a b) (1 - tn) 36 = 0 := fun z9 => hc3 ((nI_e0 (by omega)).mpr z9)
        refine Z_run C it_Mm_moves 1 (f2 := (202, [some (.ref (D.1 37)), some (.int (nI a)), some (.int (nI b)), some (.int (nI tn)), some (.int (nI (mo (F a)))), some (.int (nI (mo (F b)))), some (.int (nI (wr (F b))))], [.ref (D.1 37)])) rfl ?_
        refine Zr_eyV C it_Mm_moves hD rfl p_Mm_times ml_Mm_118 37 (by decide) rfl rfl [] (ct_Mm_times C.ev C.l hD V8 P _ (mvF F a b) hF2 hz2 (mvX mv md a b) (md + 1) (if F b = 0 then bs else md + 1) (by omega) (by split <;> omega) (mvX_l ha hb hml) k40 k41 (fun k hk => by rw [h40]; exact mvX_r hmv k hk) _) rfl rfl ⟨by decide, by decide, by decide, by decide⟩ (Nat.le_of_ble_eq_true rfl) rfl (fun V2 hV2 => ?_)
        show Z E G (HM D V2 P PH) sz 0 0 (205, [some (.ref (D.1 37)), some (.int (nI a)), some (.int (nI b)), some (.int (nI tn)), some (.int (nI (mo (F a)))), some (.int (nI (mo (F b)))), some (.int (nI (wr (F b))))], [.int (nI (tmM (mvF F a b) (mvX mv md a b) (md + 1) (if F b = 0 then bs else md + 1)))])
        have htm := tmM_le (F := (mvF F a b)) (mv := mvX mv md a b) (md := md + 1) (bs := (if F b = 0 then bs else md + 1))
        refine Z_run C it_Mm_moves 1 (f2 := (206, [some (.ref (D.1 37)), some (.int (nI a)), some (.int (nI b)), some (.int (nI tn)), some (.int (nI (mo (F a)))), some (.int (nI (mo (F b)))), some (.int (nI (wr (F b))))], [.int (nI 2), .int (nI (tmM (mvF F a b) (mvX mv md a b) (md + 1) (if F b = 0 then bs else md + 1)))])) rfl ?_
        refine Z_br C it_Mm_moves rfl rfl (fun hc4 => ?_) (fun hc4 => ?_)
        · have hX : tmM (mvF F a b) (mvX mv md a b) (md + 1) (if F b = 0 then bs else md + 1) ≤ 2 := (nI_leI (b := 2) (by omega) (by omega)).mp hc4
          refine Z_run C it_Mm_moves 1 (f2 := (219, [some (.ref (D.1 37)), some (.int (nI a)), some (.int (nI b)), some (.int (nI tn)), some (.int (nI (mo (F a)))), some (.int (nI (mo (F b)))), some (.int (nI (wr (F b))))], [.int (nI (wr (F b)))])) rfl ?_
          exact Z_iret C q.e it_Mm_moves rfl (⟨rfl, rfl, _, rfl, fun c h1 h2 h3 h4 => by rw [hV2 c h3 h4]; exact hVo c h1 h2, by unfold mvR; rw [hL, if_neg (by decide), if_neg (by rintro (z | z); exact hM z; exact z hX), hV2 38 (by decide) (by decide)]; exact h38, by rw [hV2 40 (by decide) (by decide)]; exact h40⟩) (by decide) (by decide)
        · have hX : ¬ tmM (mvF F a b) (mvX mv md a b) (md + 1) (if F b = 0 then bs else md + 1) ≤ 2 := fun z9 => hc4 ((nI_leI (b := 2) (by omega) (by omega)).mpr z9)
          refine Z_run C it_Mm_moves 1 (f2 := (210, [some (.ref (D.1 37)), some (.int (nI a)), some (.int (nI b)), some (.int (nI tn)), some (.int (nI (mo (F a)))), some (.int (nI (mo (F b)))), some (.int (nI (wr (F b))))], [.ref (D.1 37)])) rfl ?_
          refine Zm_get C it_Mm_moves hD rfl 37 wi_Mm (by decide) rfl rfl (j := 0) (by decide) fl_Mm_7 (v := .ref (D.1 38)) rfl ?_
          refine Z_run C it_Mm_moves 2 (f2 := (216, [some (.ref (D.1 37)), some (.int (nI a)), some (.int (nI b)), some (.int (nI tn)), some (.int (nI (mo (F a)))), some (.int (nI (mo (F b)))), some (.int (nI (wr (F b))))], [.int (nI 1), .int (nI 37), .ref (D.1 38)])) rfl ?_
          refine Zm_ast C it_Mm_moves hD 38 10 rfl (by first | decide | exact isB_k hb | omega) rfl (by decide) rfl (j := 37) (by omega) trivial rfl ?_
          refine Z_run C it_Mm_moves 1 (f2 := (219, [some (.ref (D.1 37)), some (.int (nI a)), some (.int (nI b)), some (.int (nI tn)), some (.int (nI (mo (F a)))), some (.int (nI (mo (F b)))), some (.int (nI (wr (F b))))], [.int (nI (wr (F b)))])) rfl ?_
          exact Z_iret C q.e it_Mm_moves rfl (⟨rfl, rfl, _, rfl, fun c h1 h2 h3 h4 => by rw [vset_n h1, hV2 c h3 h4]; exact hVo c h1 h2, by unfold mvR; rw [hL, if_neg (by decide), if_pos (Or.inr hX)]; show upd (V2 38) 37 (nI 1) = _; rw [hV2 38 (by decide) (by decide), h38], by rw [vset_n (by decide), hV2 40 (by decide) (by decide)]; exact h40⟩) (by decide) (by decide)
    · have hL : ldr (F b) = true := bI_1.mp hc2
      refine Z_run C it_Mm_moves 1 (f2 := (169, [some (.ref (D.1 37)), some (.int (nI a)), some (.int (nI b)), some (.int (nI tn)), some (.int (nI (mo (F a)))), some (.int (nI (mo (F b)))), some (.int (nI (wr (F b))))], [.ref (D.1 37)])) rfl ?_
      refine Zm_get C it_Mm_moves hD rfl 37 wi_Mm (by decide) rfl rfl (j := 0) (by decide) fl_Mm_7 (v := .ref (D.1 38)) rfl ?_
      refine Z_run C it_Mm_moves 2 (f2 := (175, [some (.ref (D.1 37)), some (.int (nI a)), some (.int (nI b)), some (.int (nI tn)), some (.int (nI (mo (F a)))), some (.int (nI (mo (F b)))), some (.int (nI (wr (F b))))], [.int (nI 1), .int (nI 37), .ref (D.1 38)])) rfl ?_
      refine Zm_ast C it_Mm_moves hD 38 10 rfl (by first | decide | exact isB_k hb | omega) rfl (by decide) rfl (j := 37) (by omega) trivial rfl ?_
      refine Z_run C it_Mm_moves 1 (f2 := (177, [some (.ref (D.1 37)), some (.int (nI a)), some (.int (nI b)), some (.int (nI tn)), some (.int (nI (mo (F a)))), some (.int (nI (mo (F b)))), some (.int (nI (wr (F b))))], [.ref (D.1 37)])) rfl ?_
      refine Zm_get C it_Mm_moves hD rfl 37 wi_Mm (by decide) rfl rfl (j := 0) (by decide) fl_Mm_7 (v := .ref (D.1 38)) rfl ?_
      refine Z_run C it_Mm_moves 2 (f2 := (183, [some (.ref (D.1 37)), some (.int (nI a)), some (.int (nI b)), some (.int (nI tn)), some (.int (nI (mo (F a)))), some (.int (nI (mo (F b)))), some (.int (nI (wr (F b))))], [.int (nI tn), .int (nI 38), .ref (D.1 38)])) rfl ?_
      refine Zm_ast C it_Mm_moves hD 38 10 rfl (by first | decide | exact isB_k hb | omega) rfl (by decide) rfl (j := 38) (by omega) trivial rfl ?_
      refine Z_run C it_Mm_moves 2 (f2 := (219, [some (.ref (D.1 37)), some (.int (nI a)), some (.int (nI b)), some (.int (nI tn)), some (.int (nI (mo (F a)))), some (.int (nI (mo (F b)))), some (.int (nI (wr (F b))))], [.int (nI (wr (F b)))])) rfl ?_
      exact Z_iret C q.e it_Mm_moves rfl (⟨rfl, rfl, _, rfl, fun c h1 h2 h3 h4 => by rw [vset_n h1, vset_n h1]; exact hVo c h1 h2, by unfold mvR; rw [if_pos hL]; show upd (upd (V8 38) 37 (nI 1)) 38 (nI tn) = _; rw [h38], by rw [vset_n (by decide), vset_n (by decide)]; exact h40⟩) (by decide) (by decide)
  · have h0b : ¬ F b = 0 := fun z9 => hc1 ((mo_le0 hFb).mpr z9)
    refine Z_run C it_Mm_moves 1 (f2 := (133, [some (.ref (D.1 37)), some (.int (nI a)), some (.int (nI b)), some (.int (nI tn)), some (.int (nI (mo (F a)))), some (.int (nI (mo (F b)))), some (.int (nI (wr (F b))))], [.ref (D.1 37), .int (nI 41), .ref (D.1 38)])) rfl ?_
    refine Zm_get C it_Mm_moves hD rfl 37 wi_Mm (by decide) rfl rfl (j := 0) (by decide) fl_Mm_7 (v := .ref (D.1 38)) rfl ?_
    refine Z_run C it_Mm_moves 1 (f2 := (138, [some (.ref (D.1 37)), some (.int (nI a)), some (.int (nI b)), some (.int (nI tn)), some (.int (nI (mo (F a)))), some (.int (nI (mo (F b)))), some (.int (nI (wr (F b))))], [.int (nI 40), .ref (D.1 38), .int (nI 41), .ref (D.1 38)])) rfl ?_
    refine Zm_ald C it_Mm_moves hD 38 10 rfl (by decide) rfl (by decide) (by decide) rfl (j := 40) (by omega) (v := .int (nI (md + 1))) (congrArg Value.int (show _ = nI (md + 1) by (repeat (first | rw [vrd_s] | rw [vrd_o (by decide)] | rw [vrd_n (by omega)])); all_goals (first | assumption | rfl))) ?_
    refine Z_run C it_Mm_moves 1 (f2 := (149, [some (.ref (D.1 37)), some (.int (nI a)), some (.int (nI b)), some (.int (nI tn)), some (.int (nI (mo (F a)))), some (.int (nI (mo (F b)))), some (.int (nI (wr (F b))))], [.int (nI (md + 1)), .int (nI 41), .ref (D.1 38)])) rfl ?_
    have e49 : nI (md + 1) = nI (if F b = 0 then bs else md + 1) := by rw [if_neg h0b]
    refine (congrArg (fun z9 => Z E G (HM D (vset (vset (vset (vset (vset (vset V 38 (44 + tn) (V 38 (44 + tn) + nI (wr (F b)))) 38 b (nI (mo (lra (F a) (F b))))) 38 (46 + tn) ((vset (vset V 38 (44 + tn) (V 38 (44 + tn) + nI (wr (F b)))) 38 b (nI (mo (lra (F a) (F b))))) 38 (46 + tn) + (nI (wr (lra (F a) (F b))) - nI (wr (F a))))) 38 a (nI 0)) 40 md (nI (36 * a + b))) 38 40 (nI (md + 1))) P PH) sz 0 0 (149, [some (.ref (D.1 37)), some (.int (nI a)), some (.int (nI b)), some (.int (nI tn)), some (.int (nI (mo (F a)))), some (.int (nI (mo (F b)))), some (.int (nI (wr (F b))))], [.int z9, .int (nI 41), .ref (D.1 38)])) e49).mpr ?_
    refine Zm_ast C it_Mm_moves hD 38 10 rfl (by first | decide | exact isB_k hb | omega) rfl (by decide) rfl (j := 41) (by omega) trivial rfl ?_
    refine Z_run C it_Mm_moves 1 (f2 := (151, [some (.ref (D.1 37)), some (.int (nI a)), some (.int (nI b)), some (.int (nI tn)), some (.int (nI (mo (F a)))), some (.int (nI (mo (F b)))), some (.int (nI (wr (F b))))], [.ref (D.1 37)])) rfl ?_
    refine Zm_get C it_Mm_moves hD rfl 37 wi_Mm (by decide) rfl rfl (j := 0) (by decide) fl_Mm_7 (v := .ref (D.1 38)) rfl ?_
    refine Z_run C it_Mm_moves 4 (f2 := (159, [some (.ref (D.1 37)), some (.int (nI a)), some (.int (nI b)), some (.int (nI tn)), some (.int (nI (mo (F a)))), some (.int (nI (mo (F b)))), some (.int (nI (wr (F b))))], [.int (nI 1 - nI tn), .int (nI 39), .ref (D.1 38)])) rfl ?_
    have e2 : nI 1 - nI tn = nI (1 - tn) := nI_sub (by omega)
    rw [e2]
    refine Zm_ast C it_Mm_moves hD 38 10 rfl (by first | decide | exact isB_k hb | omega) rfl (by decide) rfl (j := 39) (by omega) trivial rfl ?_
    obtain ⟨V8, hV8⟩ : ∃ z9, z9 = (vset (vset (vset (vset (vset (vset (vset (vset V 38 (44 + tn) (V 38 (44 + tn) + nI (wr (F b)))) 38 b (nI (mo (lra (F a) (F b))))) 38 (46 + tn) ((vset (vset V 38 (44 + tn) (V 38 (44 + tn) + nI (wr (F b)))) 38 b (nI (mo (lra (F a) (F b))))) 38 (46 + tn) + (nI (wr (lra (F a) (F b))) - nI (wr (F a))))) 38 a (nI 0)) 40 md (nI (36 * a + b))) 38 40 (nI (md + 1))) 38 41 (nI (if F b = 0 then bs else md + 1))) 38 39 (nI (1 - tn))) := ⟨_, rfl⟩
    rw [← hV8]
    have h38 : V8 38 = mvZ (V 38) F tn md bs a b := by rw [hV8]; rfl
    have h40 : V8 40 = upd (V 40) md (nI (36 * a + b)) := by rw [hV8]; rfl
    have hVo : ∀ c, c ≠ 38 → c ≠ 40 → V8 c = V c := fun c h1 h2 => by rw [hV8, vset_n h1, vset_n h1, vset_n h1, vset_n h2, vset_n h1, vset_n h1, vset_n h1, vset_n h1]
    clear hV8
    have hz2 : ∀ k, k < 36 → V8 38 k = nI (mo (mvF F a b k)) := fun k hk => by rw [h38]; exact mvZ_b hz ha hb hab k hk
    have hF2 : okF (mvF F a b) := okF_mv hF ha
    have k39 : V8 38 39 = nI (1 - tn) := by rw [h38]; unfold mvZ; rw [upd_s]
    have k41 : V8 38 41 = nI (if F b = 0 then bs else md + 1) := by rw [h38]; unfold mvZ; rw [upd_n (by decide), upd_s]
    have k40 : V8 38 40 = nI (md + 1) := by rw [h38]; unfold mvZ; rw [upd_n (by decide), upd_n (by decide), upd_s]
    have hmv9 := mvo_le (F := mvF F a b) (s := 1 - tn) (n := 36)
    refine Z_run C it_Mm_moves 1 (f2 := (162, [some (.ref (D.1 37)), some (.int (nI a)), some (.int (nI b)), some (.int (nI tn)), some (.int (nI (mo (F a)))), some (.int (nI (mo (F b)))), some (.int (nI (wr (F b))))], [.int (nI (mo (F b)))])) rfl ?_
    refine Zr_callS C it_Mm_moves rfl p_Mm_leads ml_Mm_54 [.int (nI (mo (F b)))] (ct_Mm_leads C.ev C.l (F b) (by first | assumption | omega | exact hF _ (by omega)) (HM D V8 P PH) _) rfl rfl ⟨by decide, by decide, by decide, by decide⟩ (Nat.le_of_ble_eq_true rfl) rfl ?_
    show Z E G (HM D V8 P PH) sz 0 0 (165, [some (.ref (D.1 37)), some (.int (nI a)), some (.int (nI b)), some (.int (nI tn)), some (.int (nI (mo (F a)))), some (.int (nI (mo (F b)))), some (.int (nI (wr (F b))))], [.int (bI (ldr (F b)))])
    refine Z_br C it_Mm_moves rfl rfl (fun hc5 => ?_) (fun hc5 => ?_)
    · have hL : ldr (F b) = false := bI_0.mp hc5
      refine Z_run C it_Mm_moves 2 (f2 := (189, [some (.ref (D.1 37)), some (.int (nI a)), some (.int (nI b)), some (.int (nI tn)), some (.int (nI (mo (F a)))), some (.int (nI (mo (F b)))), some (.int (nI (wr (F b))))], [.ref (D.1 37), .ref (D.1 37)])) rfl ?_
      refine Zm_get C it_Mm_moves hD rfl 37 wi_Mm (by decide) rfl rfl (j := 0) (by decide) fl_Mm_7 (v := .ref (D.1 38)) rfl ?_
      refine Z_run C it_Mm_moves 1 (f2 := (194, [some (.ref (D.1 37)), some (.int (nI a)), some (.int (nI b)), some (.int (nI tn)), some (.int (nI (mo (F a)))), some (.int (nI (mo (F b)))), some (.int (nI (wr (F b))))], [.int (nI 39), .ref (D.1 38), .ref (D.1 37)])) rfl ?_
      refine Zm_ald C it_Mm_moves hD 38 10 rfl (by decide) rfl (by decide) (by decide) rfl (j := 39) (by omega) (v := .int (nI (1 - tn))) (congrArg Value.int k39) ?_
      refine Zr_callV C it_Mm_moves hD rfl p_Mm_movesOf ml_Mm_111 37 (by decide) rfl rfl [.int (nI (1 - tn))] (ct_Mm_movesOf_z C.ev C.l hD V8 P _ ((mvF F a b)) hF2 hz2 (1 - tn) (by first | assumption | omega) _) rfl rfl ⟨by decide, by decide, by decide, by decide⟩ (Nat.le_of_ble_eq_true rfl) rfl ?_
      show Z E G (HM D V8 P PH) sz 0 0 (198, [some (.ref (D.1 37)), some (.int (nI a)), some (.int (nI b)), some (.int (nI tn)), some (.int (nI (mo (F a)))), some (.int (nI (mo (F b)))), some (.int (nI (wr (F b))))], [.int (nI (mvo (mvF F a b) (1 - tn) 36))])
      refine Z_br C it_Mm_moves rfl rfl (fun hc6 => ?_) (fun hc6 => ?_)
      · have hM : mvo (mvF F a b) (1 - tn) 36 = 0 := (nI_e0 (by omega)).mp hc6
        refine Z_run C it_Mm_moves 1 (f2 := (210, [some (.ref (D.1 37)), some (.int (nI a)), some (.int (nI b)), some (.int (nI tn)), some (.int (nI (mo (F a)))), some (.int (nI (mo (F b)))), some (.int (nI (wr (F b))))], [.ref (D.1 37)])) rfl ?_
        refine Zm_get C it_Mm_moves hD rfl 37 wi_Mm (by decide) rfl rfl (j := 0) (by decide) fl_Mm_7 (v := .ref (D.1 38)) rfl ?_
        refine Z_run C it_Mm_moves 2 (f2 := (216, [some (.ref (D.1 37)), some (.int (nI a)), some (.int (nI b)), some (.int (nI tn)), some (.int (nI (mo (F a)))), some (.int (nI (mo (F b)))), some (.int (nI (wr (F b))))], [.int (nI 1), .int (nI 37), .ref (D.1 38)])) rfl ?_
        refine Zm_ast C it_Mm_moves hD 38 10 rfl (by first | decide | exact isB_k hb | omega) rfl (by decide) rfl (j := 37) (by omega) trivial rfl ?_
        refine Z_run C it_Mm_moves 1 (f2 := (219, [some (.ref (D.1 37)), some (.int (nI a)), some (.int (nI b)), some (.int (nI tn)), some (.int (nI (mo (F a)))), some (.int (nI (mo (F b)))), some (.int (nI (wr (F b))))], [.int (nI (wr (F b)))])) rfl ?_
        exact Z_iret C q.e it_Mm_moves rfl (⟨rfl, rfl, _, rfl, fun c h1 h2 h3 h4 => by rw [vset_n h1]; exact hVo c h1 h2, by unfold mvR; rw [hL, if_neg (by decide), if_pos (Or.inl hM)]; show upd (V8 38) 37 (nI 1) = _; rw [h38], by rw [vset_n (by decide)]; exact h40⟩) (by decide) (by decide)
      · have hM : ¬ mvo (mvF F a b) (1 - tn) 36 = 0 := fun z9 => hc6 ((nI_e0 (by omega)).mpr z9)
        refine Z_run C it_Mm_moves 1 (f2 := (202, [some (.ref (D.1 37)), some (.int (nI a)), some (.int (nI b)), some (.int (nI tn)), some (.int (nI (mo (F a)))), some (.int (nI (mo (F b)))), some (.int (nI (wr (F b))))], [.ref (D.1 37)])) rfl ?_
        refine Zr_eyV C it_Mm_moves hD rfl p_Mm_times ml_Mm_118 37 (by decide) rfl rfl [] (ct_Mm_times C.ev C.l hD V8 P _ (mvF F a b) hF2 hz2 (mvX mv md a b) (md + 1) (if F b = 0 then bs else md + 1) (by omega) (by split <;> omega) (mvX_l ha hb hml) k40 k41 (fun k hk => by rw [h40]; exact mvX_r hmv k hk) _) rfl rfl ⟨by decide, by decide, by decide, by decide⟩ (Nat.le_of_ble_eq_true rfl) rfl (fun V2 hV2 => ?_)
        show Z E G (HM D V2 P PH) sz 0 0 (205, [some (.ref (D.1 37)), some (.int (nI a)), some (.int (nI b)), some (.int (nI tn)), some (.int (nI (mo (F a)))), some (.int (nI (mo (F b)))), some (.int (nI (wr (F b))))], [.int (nI (tmM (mvF F a b) (mvX mv md a b) (md + 1) (if F b = 0 then bs else md + 1)))])
        have htm := tmM_le (F := (mvF F a b)) (mv := mvX mv md a b) (md := md + 1) (bs := (if F b = 0 then bs else md + 1))
        refine Z_run C it_Mm_moves 1 (f2 := (206, [some (.ref (D.1 37)), some (.int (nI a)), some (.int (nI b)), some (.int (nI tn)), some (.int (nI (mo (F a)))), some (.int (nI (mo (F b)))), some (.int (nI (wr (F b))))], [.int (nI 2), .int (nI (tmM (mvF F a b) (mvX mv md a b) (md + 1) (if F b = 0 then bs else md + 1)))])) rfl ?_
        refine Z_br C it_Mm_moves rfl rfl (fun hc7 => ?_) (fun hc7 => ?_)
        · have hX : tmM (mvF F a b) (mvX mv md a b) (md + 1) (if F b = 0 then bs else md + 1) ≤ 2 := (nI_leI (b := 2) (by omega) (by omega)).mp hc7
          refine Z_run C it_Mm_moves 1 (f2 := (219, [some (.ref (D.1 37)), some (.int (nI a)), some (.int (nI b)), some (.int (nI tn)), some (.int (nI (mo (F a)))), some (.int (nI (mo (F b)))), some (.int (nI (wr (F b))))], [.int (nI (wr (F b)))])) rfl ?_
          exact Z_iret C q.e it_Mm_moves rfl (⟨rfl, rfl, _, rfl, fun c h1 h2 h3 h4 => by rw [hV2 c h3 h4]; exact hVo c h1 h2, by unfold mvR; rw [hL, if_neg (by decide), if_neg (by rintro (z | z); exact hM z; exact z hX), hV2 38 (by decide) (by decide)]; exact h38, by rw [hV2 40 (by decide) (by decide)]; exact h40⟩) (by decide) (by decide)
        · have hX : ¬ tmM (mvF F a b) (mvX mv md a b) (md + 1) (if F b = 0 then bs else md + 1) ≤ 2 := fun z9 => hc7 ((nI_leI (b := 2) (by omega) (by omega)).mpr z9)
          refine Z_run C it_Mm_moves 1 (f2 := (210, [some (.ref (D.1 37)), some (.int (nI a)), some (.int (nI b)), some (.int (nI tn)), some (.int (nI (mo (F a)))), some (.int (nI (mo (F b)))), some (.int (nI (wr (F b))))], [.ref (D.1 37)])) rfl ?_
          refine Zm_get C it_Mm_moves hD rfl 37 wi_Mm (by decide) rfl rfl (j := 0) (by decide) fl_Mm_7 (v := .ref (D.1 38)) rfl ?_
          refine Z_run C it_Mm_moves 2 (f2 := (216, [some (.ref (D.1 37)), some (.int (nI a)), some (.int (nI b)), some (.int (nI tn)), some (.int (nI (mo (F a)))), some (.int (nI (mo (F b)))), some (.int (nI (wr (F b))))], [.int (nI 1), .int (nI 37), .ref (D.1 38)])) rfl ?_
          refine Zm_ast C it_Mm_moves hD 38 10 rfl (by first | decide | exact isB_k hb | omega) rfl (by decide) rfl (j := 37) (by omega) trivial rfl ?_
          refine Z_run C it_Mm_moves 1 (f2 := (219, [some (.ref (D.1 37)), some (.int (nI a)), some (.int (nI b)), some (.int (nI tn)), some (.int (nI (mo (F a)))), some (.int (nI (mo (F b)))), some (.int (nI (wr (F b))))], [.int (nI (wr (F b)))])) rfl ?_
          exact Z_iret C q.e it_Mm_moves rfl (⟨rfl, rfl, _, rfl, fun c h1 h2 h3 h4 => by rw [vset_n h1, hV2 c h3 h4]; exact hVo c h1 h2, by unfold mvR; rw [hL, if_neg (by decide), if_pos (Or.inr hX)]; show upd (V2 38) 37 (nI 1) = _; rw [hV2 38 (by decide) (by decide), h38], by rw [vset_n (by decide), hV2 40 (by decide) (by decide)]; exact h40⟩) (by decide) (by decide)
    · have hL : ldr (F b) = true := bI_1.mp hc5
      refine Z_run C it_Mm_moves 1 (f2 := (169, [some (.ref (D.1 37)), some (.int (nI a)), some (.int (nI b)), some (.int (nI tn)), some (.int (nI (mo (F a)))), some (.int (nI (mo (F b)))), some (.int (nI (wr (F b))))], [.ref (D.1 37)])) rfl ?_
      refine Zm_get C it_Mm_moves hD rfl 37 wi_Mm (by decide) rfl rfl (j := 0) (by decide) fl_Mm_7 (v := .ref (D.1 38)) rfl ?_
      refine Z_run C it_Mm_moves 2 (f2 := (175, [some (.ref (D.1 37)), some (.int (nI a)), some (.int (nI b)), some (.int (nI tn)), some (.int (nI (mo (F a)))), some (.int (nI (mo (F b)))), some (.int (nI (wr (F b))))], [.int (nI 1), .int (nI 37), .ref (D.1 38)])) rfl ?_
      refine Zm_ast C it_Mm_moves hD 38 10 rfl (by first | decide | exact isB_k hb | omega) rfl (by decide) rfl (j := 37) (by omega) trivial rfl ?_
      refine Z_run C it_Mm_moves 1 (f2 := (177, [some (.ref (D.1 37)), some (.int (nI a)), some (.int (nI b)), some (.int (nI tn)), some (.int (nI (mo (F a)))), some (.int (nI (mo (F b)))), some (.int (nI (wr (F b))))], [.ref (D.1 37)])) rfl ?_
      refine Zm_get C it_Mm_moves hD rfl 37 wi_Mm (by decide) rfl rfl (j := 0) (by decide) fl_Mm_7 (v := .ref (D.1 38)) rfl ?_
      refine Z_run C it_Mm_moves 2 (f2 := (183, [some (.ref (D.1 37)), some (.int (nI a)), some (.int (nI b)), some (.int (nI tn)), some (.int (nI (mo (F a)))), some (.int (nI (mo (F b)))), some (.int (nI (wr (F b))))], [.int (nI tn), .int (nI 38), .ref (D.1 38)])) rfl ?_
      refine Zm_ast C it_Mm_moves hD 38 10 rfl (by first | decide | exact isB_k hb | omega) rfl (by decide) rfl (j := 38) (by omega) trivial rfl ?_
      refine Z_run C it_Mm_moves 2 (f2 := (219, [some (.ref (D.1 37)), some (.int (nI a)), some (.int (nI b)), some (.int (nI tn)), some (.int (nI (mo (F a)))), some (.int (nI (mo (F b)))), some (.int (nI (wr (F b))))], [.int (nI (wr (F b)))])) rfl ?_
      exact Z_iret C q.e it_Mm_moves rfl (⟨rfl, rfl, _, rfl, fun c h1 h2 h3 h4 => by rw [vset_n h1, vset_n h1]; exact hVo c h1 h2, by unfold mvR; rw [if_pos hL]; show upd (upd (V8 38) 37 (nI 1)) 38 (nI tn) = _; rw [h38], by rw [vset_n (by decide), vset_n (by decide)]; exact h40⟩) (by decide) (by decide)
