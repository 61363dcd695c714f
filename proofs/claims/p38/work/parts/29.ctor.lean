/-! ===== constructors ===== -/
theorem wR_int : Cond.arrayClass .int ∈ zWs := zmem 52 (by decide +kernel) rfl
theorem wR_char : Cond.arrayClass .char ∈ zWs := zmem 114 (by decide +kernel) rfl
theorem wR_long : Cond.arrayClass .long ∈ zWs := zmem 686 (by decide +kernel) rfl
def z0 (ty : Nat → FieldType) : Nat → Value := fun j => defaultValue (ty j)
/-- a board, and its squares behind it -/
def zNB (h : aH) (b sz : Nat) : zO := fun o h2 sz2 => ∃ q : Nat, sz ≤ q ∧ o = .inl none ∧ h2 = hset (hset h q (10, 36, fun _ => .int 0)) b (0, 0, updV (z0 t_Bd) 0 (.ref q)) ∧ sz2 = q + 1
def zNT (h : aH) (b sz : Nat) : zO := fun o h2 sz2 => ∃ q : Nat, sz ≤ q ∧ o = .inl none ∧ h2 = hset (hset h q (13, 60, fun _ => .int 0)) b (3, 0, updV (updV (z0 t_Tx) 0 (.ref q)) 1 (.int (nI 0))) ∧ sz2 = q + 1
theorem hset2 {h : aH} {a : Nat} {c d : aC} : hset (hset h a c) a d = hset h a d := by
  funext b
  by_cases e : b = a
  · subst e; rw [hset_s, hset_s]
  · rw [hset_n e, hset_n e, hset_n e]
set_option maxRecDepth 20000 in
theorem ct_Bd_init {E : zE} (hE : zEv E) {l : Launch} (hl : l.stackTraces = false) (h : aH) (b sz : Nat) (hb : h b = some (0, 0, z0 t_Bd)) (hbs : b < sz) (hB : zB E ≤ b) : zK E l y_Bd_init [.code y_Bd_init c_Bd_init 1 none] rm_Bd_init [.ref b] h sz (zNB h b sz) := by
  refine zK_of hE hl (by decide +kernel) [some (.ref b)] ⟨rfl, rfl, Nat.le_of_ble_eq_true rfl⟩ ?_
  intro G C q
  refine Z_run C it_Bd_init 1 (f2 := (1, [some (.ref b)], [.ref b])) rfl ?_
  refine Z_oinit C it_Bd_init rfl ml_Bd_o wO_in wO_co rfl ⟨by decide, by decide⟩ ?_
  refine Z_run C it_Bd_init 2 (f2 := (7, [some (.ref b)], [.int (nI 36), .ref b])) rfl ?_
  refine Z_newa C it_Bd_init (at9 := .int) rfl (tg := 10) (N := 36) (by decide) rfl wR_int rfl (by decide) (by decide) (by decide) (fun q9 h1 h2 => ?_)
  refine Z_putf C it_Bd_init rfl wi_Bd t_Bd t_Bd_ok n_Bd (by rw [hset_n (by omega)]; exact hb) rfl (j := 0) (by decide) fl_Bd_9 (Or.inr ⟨rfl, rfl⟩) rfl rfl hB ?_
  exact Z_vret C q it_Bd_init rfl ⟨q9, h1, rfl, rfl, rfl⟩ (by decide) (by decide)
set_option maxRecDepth 20000 in
theorem ct_Tx_init {E : zE} (hE : zEv E) {l : Launch} (hl : l.stackTraces = false) (h : aH) (b sz : Nat) (hb : h b = some (3, 0, z0 t_Tx)) (hbs : b < sz) (hB : zB E ≤ b) : zK E l y_Tx_init [.code y_Tx_init c_Tx_init 1 none] rm_Tx_init [.ref b] h sz (zNT h b sz) := by
  refine zK_of hE hl (by decide +kernel) [some (.ref b)] ⟨rfl, rfl, Nat.le_of_ble_eq_true rfl⟩ ?_
  intro G C q
  refine Z_run C it_Tx_init 1 (f2 := (1, [some (.ref b)], [.ref b])) rfl ?_
  refine Z_oinit C it_Tx_init rfl ml_Tx_o wO_in wO_co rfl ⟨by decide, by decide⟩ ?_
  refine Z_run C it_Tx_init 2 (f2 := (7, [some (.ref b)], [.int (nI 60), .ref b])) rfl ?_
  refine Z_newa C it_Tx_init (at9 := .char) rfl (tg := 13) (N := 60) (by decide) rfl wR_char rfl (by decide) (by decide) (by decide) (fun q9 h1 h2 => ?_)
  refine Z_putf C it_Tx_init rfl wi_Tx t_Tx t_Tx_ok n_Tx (by rw [hset_n (by omega)]; exact hb) rfl (j := 0) (by decide) fl_Tx_11 (Or.inr ⟨rfl, rfl⟩) rfl rfl hB ?_
  refine Z_run C it_Tx_init 2 (f2 := (14, [some (.ref b)], [.int (nI 0), .ref b])) rfl ?_
  refine Z_putf C it_Tx_init rfl wi_Tx t_Tx t_Tx_ok n_Tx hset_s rfl (j := 1) (by decide) fl_Tx_15 (Or.inr ⟨rfl, rfl⟩) rfl rfl hB ?_
  rw [hset2]
  exact Z_vret C q it_Tx_init rfl ⟨q9, h1, rfl, rfl, rfl⟩ (by decide) (by decide)
