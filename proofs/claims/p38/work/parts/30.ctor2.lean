/-! ===== the constructor of Game ===== -/
def gm0 (q1 q3 q4 : Nat) : aC := (1, 0, updV (updV (updV (updV (updV (updV (updV (updV (z0 t_Gm) 0 (.ref q1)) 1 (.ref q3)) 2 (.ref q4)) 3 (.int (nI 0))) 4 (.int (nI 0))) 5 (.int (nI 0))) 6 (.int (-1))) 7 .null)
/-- a game at a, its board, squares and accounts behind it -/
def zNG (h : aH) (a sz : Nat) : zO := fun o h2 sz2 => ∃ q1 q2 q3 q4 : Nat, sz ≤ q1 ∧ q1 < q2 ∧ q2 < q3 ∧ q3 < q4 ∧ o = .inl none ∧ h2 = hset (hset (hset (hset (hset h q1 (0, 0, updV (z0 t_Bd) 0 (.ref q2))) q2 (10, 36, fun _ => .int 0)) q3 (10, 2, fun _ => .int 0)) q4 (10, 2, fun _ => .int 0)) a (gm0 q1 q3 q4) ∧ sz2 = q4 + 1
theorem hset_c {h : aH} {a b : Nat} {c d : aC} (hab : a ≠ b) : hset (hset h a c) b d = hset (hset h b d) a c := by
  funext x
  by_cases e : x = a
  · subst e; rw [hset_n hab, hset_s, hset_s]
  · by_cases e2 : x = b
    · subst e2; rw [hset_s, hset_n e, hset_s]
    · rw [hset_n e2, hset_n e, hset_n e, hset_n e2]
set_option maxRecDepth 20000 in
theorem ct_Gm_init {E : zE} (hE : zEv E) {l : Launch} (hl : l.stackTraces = false) (h : aH) (a sz : Nat) (ha : h a = some (1, 0, z0 t_Gm)) (has : a < sz) (hB : zB E ≤ a) : zK E l y_Gm_init [.code y_Gm_init c_Gm_init 1 none] rm_Gm_init [.ref a] h sz (zNG h a sz) := by
  refine zK_of hE hl (by decide +kernel) [some (.ref a)] ⟨rfl, rfl, Nat.le_of_ble_eq_true rfl⟩ ?_
  intro G C q
  refine Z_run C it_Gm_init 1 (f2 := (1, [some (.ref a)], [.ref a])) rfl ?_
  refine Z_oinit C it_Gm_init rfl ml_Gm_o wO_in wO_co rfl ⟨by decide, by decide⟩ ?_
  refine Z_run C it_Gm_init 1 (f2 := (5, [some (.ref a)], [.ref a])) rfl ?_
  refine Z_new C it_Gm_init rfl wi_Bd t_Bd t_Bd_ok (ci := 0) rfl (List.mem_filter.mp kl_Gm_9).1 (zgw_good (List.mem_filter.mp kl_Gm_9).2) kI_Bd kN_Bd (by decide) (by decide) (fun q1 h1 h1b => ?_)
  refine Z_run C it_Gm_init 1 (f2 := (9, [some (.ref a)], [.ref q1, .ref q1, .ref a])) rfl ?_
  refine Z_callK C it_Gm_init rfl p_Bd_init (host := R_Xx) (Or.inr ml_Gm_11) [] (ct_Bd_init C.ev C.l _ q1 (q1 + 1) hset_s (by omega) h1b) rfl rfl ⟨by decide, by decide, by decide, by decide⟩ (Nat.le_of_ble_eq_true rfl) rfl (fun w h3 sz3 hO => ?_)
  obtain ⟨q2, h2, e2, rfl, rfl⟩ := hO
  cases e2
  rw [show hset (hset (hset h q1 (0, 0, fun j => defaultValue (t_Bd j))) q2 (10, 36, fun _ => .int 0)) q1 (0, 0, updV (z0 t_Bd) 0 (.ref q2)) = hset (hset h q1 (0, 0, updV (z0 t_Bd) 0 (.ref q2))) q2 (10, 36, fun _ => .int 0) by rw [hset_c (a := q2) (by omega), hset2]]
  show Z E G _ _ 2 37 (12, [some (.ref a)], [.ref q1, .ref a])
  refine Z_putf C it_Gm_init rfl wi_Gm t_Gm t_Gm_ok n_Gm (by rw [hset_n (by omega), hset_n (by omega)]; exact ha) rfl (j := 0) (by decide) fl_Gm_12 (Or.inr ⟨rfl, rfl⟩) rfl rfl hB ?_
  refine Z_run C it_Gm_init 2 (f2 := (17, [some (.ref a)], [.int (nI 2), .ref a])) rfl ?_
  refine Z_newa C it_Gm_init (at9 := .int) rfl (tg := 10) (N := 2) (by decide) rfl wR_int rfl (by decide) (by decide) (by decide) (fun q3 h3 h3b => ?_)
  rw [hset_c (a := a) (by omega)]
  refine Z_putf C it_Gm_init rfl wi_Gm t_Gm t_Gm_ok n_Gm hset_s rfl (j := 1) (by decide) fl_Gm_18 (Or.inr ⟨rfl, rfl⟩) rfl rfl hB ?_
  rw [hset2]
  refine Z_run C it_Gm_init 2 (f2 := (24, [some (.ref a)], [.int (nI 2), .ref a])) rfl ?_
  refine Z_newa C it_Gm_init (at9 := .int) rfl (tg := 10) (N := 2) (by decide) rfl wR_int rfl (by decide) (by decide) (by decide) (fun q4 h4 h4b => ?_)
  rw [hset_c (a := a) (by omega)]
  refine Z_putf C it_Gm_init rfl wi_Gm t_Gm t_Gm_ok n_Gm hset_s rfl (j := 2) (by decide) fl_Gm_22 (Or.inr ⟨rfl, rfl⟩) rfl rfl hB ?_
  rw [hset2]
  refine Z_run C it_Gm_init 2 (f2 := (31, [some (.ref a)], [.int (nI 0), .ref a])) rfl ?_
  refine Z_putf C it_Gm_init rfl wi_Gm t_Gm t_Gm_ok n_Gm hset_s rfl (j := 3) (by decide) fl_Gm_25 (Or.inr ⟨rfl, rfl⟩) rfl rfl hB ?_
  rw [hset2]
  refine Z_run C it_Gm_init 2 (f2 := (36, [some (.ref a)], [.int (nI 0), .ref a])) rfl ?_
  refine Z_putf C it_Gm_init rfl wi_Gm t_Gm t_Gm_ok n_Gm hset_s rfl (j := 4) (by decide) fl_Gm_29 (Or.inr ⟨rfl, rfl⟩) rfl rfl hB ?_
  rw [hset2]
  refine Z_run C it_Gm_init 2 (f2 := (41, [some (.ref a)], [.int (nI 0), .ref a])) rfl ?_
  refine Z_putf C it_Gm_init rfl wi_Gm t_Gm t_Gm_ok n_Gm hset_s rfl (j := 5) (by decide) fl_Gm_32 (Or.inr ⟨rfl, rfl⟩) rfl rfl hB ?_
  rw [hset2]
  refine Z_run C it_Gm_init 2 (f2 := (46, [some (.ref a)], [.int (-1), .ref a])) rfl ?_
  refine Z_putf C it_Gm_init rfl wi_Gm t_Gm t_Gm_ok n_Gm hset_s rfl (j := 6) (by decide) fl_Gm_36 (Or.inr ⟨rfl, rfl⟩) rfl rfl hB ?_
  rw [hset2]
  refine Z_run C it_Gm_init 2 (f2 := (51, [some (.ref a)], [.null, .ref a])) rfl ?_
  refine Z_putf C it_Gm_init rfl wi_Gm t_Gm t_Gm_ok n_Gm hset_s rfl (j := 7) (by decide) fl_Gm_39 (Or.inr ⟨rfl, rfl⟩) rfl rfl hB ?_
  rw [hset2]
  exact Z_vret C q it_Gm_init rfl ⟨q1, q2, q3, q4, h1, by omega, by omega, by omega, rfl, rfl, rfl⟩ (by decide) (by decide)
