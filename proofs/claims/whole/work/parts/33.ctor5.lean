/-! ===== the constructor of BrackenGambitModel ===== -/
def zNM (h : aH) (a sz : Nat) : zO := fun o h2 sz2 => ∃ q1 q2 q3 q4 q5 q6 : Nat, sz ≤ q1 ∧ q1 < q2 ∧ q2 < q3 ∧ q3 < q4 ∧ q4 < q5 ∧ q5 < q6 ∧ o = .inl none ∧ h2 = hset (hset (hset (hset (hset (hset (hset (hset h q1 (10, 60, fun _ => .int 0)) q2 (10, 300, fun _ => .int 0)) q3 (10, 6300, fun _ => .int 0)) q4 (10, 36, fun _ => .int 0)) q5 (10, 40, fun _ => .int 0)) q6 (13, 60, fun _ => .int 0)) a (6, 0, updV (updV (updV (updV (updV (updV (z0 t_Mm) 0 (.ref q1)) 1 (.ref q2)) 3 (.ref q3)) 4 (.ref q4)) 5 (.ref q5)) 6 (.ref q6))) q1 (10, 60, updV (fun _ => .int 0) 38 (.int (-1))) ∧ sz2 = q6 + 1
set_option maxRecDepth 20000 in
theorem ct_Mm_init {E : zE} (hE : zEv E) {l : Launch} (hl : l.stackTraces = false) (h : aH) (a sz : Nat) (ha : h a = some (6, 0, z0 t_Mm)) (has : a < sz) (hB : zB E ≤ a) : zK E l y_Mm_init [.code y_Mm_init c_Mm_init 1 none] rm_Mm_init [.ref a] h sz (zNM h a sz) := by
  refine zK_of hE hl (by decide +kernel) [some (.ref a)] ⟨rfl, rfl, Nat.le_of_ble_eq_true rfl⟩ ?_
  intro G C q
  refine Z_run C it_Mm_init 1 (f2 := (1, [some (.ref a)], [.ref a])) rfl ?_
  refine Z_oinit C it_Mm_init rfl ml_Mm_o wO_in wO_co rfl ⟨by decide, by decide⟩ ?_
  refine Z_run C it_Mm_init 2 (f2 := (7, [some (.ref a)], [.int (nI 60), .ref a])) rfl ?_
  refine Z_newa C it_Mm_init (at9 := .int) rfl (tg := 10) (N := 60) (by decide) rfl wR_int rfl (by decide) (by decide) (by decide) (fun q1 hq1 bq1 => ?_)
  refine Z_putf C it_Mm_init rfl wi_Mm t_Mm t_Mm_ok n_Mm (by rw [hset_n (by omega)]; exact ha) rfl (j := 0) (by decide) fl_Mm_7 (Or.inr ⟨rfl, rfl⟩) rfl rfl hB ?_
  refine Z_run C it_Mm_init 2 (f2 := (16, [some (.ref a)], [.int (nI 300), .ref a])) rfl ?_
  refine Z_newa C it_Mm_init (at9 := .int) rfl (tg := 10) (N := 300) (by decide) rfl wR_int rfl (by decide) (by decide) (by decide) (fun q2 hq2 bq2 => ?_)
  rw [hset_c (a := a) (by omega)]
  refine Z_putf C it_Mm_init rfl wi_Mm t_Mm t_Mm_ok n_Mm hset_s rfl (j := 1) (by decide) fl_Mm_13 (Or.inr ⟨rfl, rfl⟩) rfl rfl hB ?_
  rw [hset2]
  refine Z_run C it_Mm_init 2 (f2 := (25, [some (.ref a)], [.int (nI 6300), .ref a])) rfl ?_
  refine Z_newa C it_Mm_init (at9 := .int) rfl (tg := 10) (N := 6300) (by decide) rfl wR_int rfl (by decide) (by decide) (by decide) (fun q3 hq3 bq3 => ?_)
  rw [hset_c (a := a) (by omega)]
  refine Z_putf C it_Mm_init rfl wi_Mm t_Mm t_Mm_ok n_Mm hset_s rfl (j := 3) (by decide) fl_Mm_16 (Or.inr ⟨rfl, rfl⟩) rfl rfl hB ?_
  rw [hset2]
  refine Z_run C it_Mm_init 2 (f2 := (33, [some (.ref a)], [.int (nI 36), .ref a])) rfl ?_
  refine Z_newa C it_Mm_init (at9 := .int) rfl (tg := 10) (N := 36) (by decide) rfl wR_int rfl (by decide) (by decide) (by decide) (fun q4 hq4 bq4 => ?_)
  rw [hset_c (a := a) (by omega)]
  refine Z_putf C it_Mm_init rfl wi_Mm t_Mm t_Mm_ok n_Mm hset_s rfl (j := 4) (by decide) fl_Mm_19 (Or.inr ⟨rfl, rfl⟩) rfl rfl hB ?_
  rw [hset2]
  refine Z_run C it_Mm_init 2 (f2 := (41, [some (.ref a)], [.int (nI 40), .ref a])) rfl ?_
  refine Z_newa C it_Mm_init (at9 := .int) rfl (tg := 10) (N := 40) (by decide) rfl wR_int rfl (by decide) (by decide) (by decide) (fun q5 hq5 bq5 => ?_)
  rw [hset_c (a := a) (by omega)]
  refine Z_putf C it_Mm_init rfl wi_Mm t_Mm t_Mm_ok n_Mm hset_s rfl (j := 5) (by decide) fl_Mm_22 (Or.inr ⟨rfl, rfl⟩) rfl rfl hB ?_
  rw [hset2]
  refine Z_run C it_Mm_init 2 (f2 := (49, [some (.ref a)], [.int (nI 60), .ref a])) rfl ?_
  refine Z_newa C it_Mm_init (at9 := .char) rfl (tg := 13) (N := 60) (by decide) rfl wR_char rfl (by decide) (by decide) (by decide) (fun q6 hq6 bq6 => ?_)
  rw [hset_c (a := a) (by omega)]
  refine Z_putf C it_Mm_init rfl wi_Mm t_Mm t_Mm_ok n_Mm hset_s rfl (j := 6) (by decide) fl_Mm_25 (Or.inr ⟨rfl, rfl⟩) rfl rfl hB ?_
  rw [hset2]
  refine Z_run C it_Mm_init 1 (f2 := (55, [some (.ref a)], [.ref a])) rfl ?_
  refine Z_getf C it_Mm_init rfl wi_Mm hset_s rfl (j := 0) (by decide) fl_Mm_7 (v := .ref q1) rfl ?_
  refine Z_run C it_Mm_init 2 (f2 := (61, [some (.ref a)], [.int (-1), .int (nI 38), .ref q1])) rfl ?_
  refine Z_ast C it_Mm_init (tg := 10) (nn := 60) (j := 38) (fs := fun _ => .int 0) rfl (by rw [hset_n (by omega), hset_n (by omega), hset_n (by omega), hset_n (by omega), hset_n (by omega), hset_n (by omega), hset_s]; rfl) rfl (by decide) (by decide) trivial bq1 ?_
  exact Z_vret C q it_Mm_init rfl ⟨q1, q2, q3, q4, q5, q6, hq1, by omega, by omega, by omega, by omega, by omega, rfl, rfl, rfl⟩ (by decide) (by decide)
