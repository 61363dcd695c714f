theorem wR_over : Cond.arrayOver (.object R_Gm) ∈ lw_tbl := List.mem_of_getElem? (i := 92) (by decide +kernel)
set_option maxRecDepth 20000 in
theorem ct_Hs_init {E : zE} (hE : zEv E) {l : Launch} (hl : l.stackTraces = false) (hov : va_AO R_Gm E.1) (h : aH) (a sz : Nat) (ha : h a = some (2, 0, z0 t_Hs)) (has : a < sz) (hB : zB E ≤ a) : zK E l y_Hs_init [.code y_Hs_init c_Hs_init 2 none] rm_Hs_init [.ref a] h sz (zNH h a sz) := by
  refine zK_of hE hl (by decide +kernel) [some (.ref a), none] ⟨rfl, rfl, Nat.le_of_ble_eq_true rfl⟩ ?_
  intro G C q
  refine Z_run C it_Hs_init 1 (f2 := (1, [some (.ref a), none], [.ref a])) rfl ?_
  refine Z_oinit C it_Hs_init rfl ml_Hs_o wO_in wO_co rfl ⟨by decide, by decide⟩ ?_
  refine Z_run C it_Hs_init 2 (f2 := (6, [some (.ref a), none], [.int (nI 5), .ref a])) rfl ?_
  refine Z_anew C it_Hs_init rfl kl_Hs_9 wR_over hov (N := 5) rfl (by decide) (by decide) (by decide) (fun qa h1 h1b => ?_)
  refine Z_putf C it_Hs_init rfl wi_Hs t_Hs t_Hs_ok n_Hs (by rw [hset_n (by omega)]; exact ha) rfl (j := 0) (by decide) fl_Hs_11 (Or.inr ⟨rfl, rfl⟩) rfl rfl hB ?_
  refine Z_run C it_Hs_init 2 (f2 := (14, [some (.ref a), none], [.int (nI 0), .ref a])) rfl ?_
  refine Z_putf C it_Hs_init rfl wi_Hs t_Hs t_Hs_ok n_Hs hset_s rfl (j := 1) (by decide) fl_Hs_15 (Or.inr ⟨rfl, rfl⟩) rfl rfl hB ?_
  rw [hset2]
  refine Z_run C it_Hs_init 2 (f2 := (19, [some (.ref a), some (.int (nI 0))], [])) rfl ?_
  refine lp_Hs_init C q has h1b (fun gs bd H S hI => ⟨qa, gs, bd, rfl, hI⟩) 5 0 (by omega) (fun _ => 0) (fun _ => qa + 1) _ _ ⟨h1, Nat.lt_succ_self _, rfl, fun j hj => absurd hj (by omega), Nat.lt_succ_self _, fun x hx hxa => ?_, hset_s, fun _ => .null, ?_, fun j hj => absurd hj (by omega)⟩
  · rw [hset_n hxa, hset_n (by omega)]
  · rw [hset_n (by omega), hset_s]
