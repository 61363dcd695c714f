/-! ===== BrackenGambit's constructor: its steps ===== -/
set_option maxRecDepth 20000 in
theorem sX_Bd {E : zE} {G : zG} (C : zCx E G c_Xx_init 1 y_Xx_init.cls y_Xx_init.name none rm_Xx_init) {H : aH} {a S : Nat} {fs : Nat → Value} (ha : H a = some (5, 0, fs)) (haS : a < S) (hB : zB E ≤ a) (kk : ∀ H2 S2, (∃ b q, S ≤ b ∧ b < q ∧ q < S2 ∧ H2 b = some (0, 0, updV (z0 t_Bd) 0 (.ref q)) ∧ H2 q = some (10, 36, fun _ => .int 0) ∧ H2 a = some (5, 0, updV fs 3 (.ref b)) ∧ (∀ x, x < S → x ≠ a → H2 x = H x)) → Z E G H2 S2 36 400 (48, [some (.ref a)], [])) : Z E G H S 34 363 (37, [some (.ref a)], []) := by
  refine Z_run C it_Xx_init 1 (f2 := (38, [some (.ref a)], [.ref a])) rfl ?_
  refine Z_new C it_Xx_init rfl wi_Bd t_Bd t_Bd_ok (ci := 0) rfl (List.mem_filter.mp kl_Xx_30).1 (zgw_good (List.mem_filter.mp kl_Xx_30).2) kI_Bd kN_Bd (by decide) (by decide) (fun b h1 h1b => ?_)
  refine Z_run C it_Xx_init 1 (f2 := (42, [some (.ref a)], [.ref b, .ref b, .ref a])) rfl ?_
  refine Z_callK C it_Xx_init rfl p_Bd_init (host := R_Xx) (Or.inr ml_Xx_32) [] (ct_Bd_init C.ev C.l _ b (b + 1) hset_s (by omega) h1b) rfl rfl ⟨by decide, by decide, by decide, by decide⟩ (Nat.le_of_ble_eq_true rfl) rfl (fun w h3 sz3 hO => ?_)
  obtain ⟨q, g1, e1, rfl, rfl⟩ := hO
  cases e1
  refine Z_putf C it_Xx_init rfl wi_Xx t_Xx t_Xx_ok n_Xx (by rw [hset_n (by omega), hset_n (by omega), hset_n (by omega)]; exact ha) rfl (j := 3) (by decide) fl_Xx_33 (Or.inr ⟨rfl, rfl⟩) rfl rfl hB ?_
  exact kk _ _ ⟨b, q, h1, by omega, by omega, by rw [hset_n (by omega), hset_s], by rw [hset_n (by omega), hset_n (by omega), hset_s], hset_s, fun x hx hxa => by rw [hset_n hxa, hset_n (by omega), hset_n (by omega), hset_n (by omega)]⟩
set_option maxRecDepth 20000 in
theorem sX_Tx {E : zE} {G : zG} (C : zCx E G c_Xx_init 1 y_Xx_init.cls y_Xx_init.name none rm_Xx_init) {H : aH} {a S : Nat} {fs : Nat → Value} (ha : H a = some (5, 0, fs)) (haS : a < S) (hB : zB E ≤ a) (kk : ∀ H2 S2, (∃ b q, S ≤ b ∧ b < q ∧ q < S2 ∧ H2 b = some (3, 0, updV (updV (z0 t_Tx) 0 (.ref q)) 1 (.int (nI 0))) ∧ H2 q = some (13, 60, fun _ => .int 0) ∧ H2 a = some (5, 0, updV fs 2 (.ref b)) ∧ (∀ x, x < S → x ≠ a → H2 x = H x)) → Z E G H2 S2 34 363 (37, [some (.ref a)], [])) : Z E G H S 32 301 (26, [some (.ref a)], []) := by
  refine Z_run C it_Xx_init 1 (f2 := (27, [some (.ref a)], [.ref a])) rfl ?_
  refine Z_new C it_Xx_init rfl wi_Tx t_Tx t_Tx_ok (ci := 3) rfl (List.mem_filter.mp kl_Xx_23).1 (zgw_good (List.mem_filter.mp kl_Xx_23).2) kI_Tx kN_Tx (by decide) (by decide) (fun b h1 h1b => ?_)
  refine Z_run C it_Xx_init 1 (f2 := (31, [some (.ref a)], [.ref b, .ref b, .ref a])) rfl ?_
  refine Z_callK C it_Xx_init rfl p_Tx_init (host := R_Xx) (Or.inr ml_Xx_25) [] (ct_Tx_init C.ev C.l _ b (b + 1) hset_s (by omega) h1b) rfl rfl ⟨by decide, by decide, by decide, by decide⟩ (Nat.le_of_ble_eq_true rfl) rfl (fun w h3 sz3 hO => ?_)
  obtain ⟨q, g1, e1, rfl, rfl⟩ := hO
  cases e1
  refine Z_putf C it_Xx_init rfl wi_Xx t_Xx t_Xx_ok n_Xx (by rw [hset_n (by omega), hset_n (by omega), hset_n (by omega)]; exact ha) rfl (j := 2) (by decide) fl_Xx_26 (Or.inr ⟨rfl, rfl⟩) rfl rfl hB ?_
  exact kk _ _ ⟨b, q, h1, by omega, by omega, by rw [hset_n (by omega), hset_s], by rw [hset_n (by omega), hset_n (by omega), hset_s], hset_s, fun x hx hxa => by rw [hset_n hxa, hset_n (by omega), hset_n (by omega), hset_n (by omega)]⟩
set_option maxRecDepth 20000 in
theorem sX_Hs {E : zE} {G : zG} (C : zCx E G c_Xx_init 1 y_Xx_init.cls y_Xx_init.name none rm_Xx_init) {H : aH} {a S : Nat} {fs : Nat → Value} (ha : H a = some (5, 0, fs)) (haS : a < S) (hB : zB E ≤ a) (hov : va_AO R_Gm E.1) (kk : ∀ H2 S2, (∃ b qa gs bd H3, S ≤ b ∧ iHs (hset H b (2, 0, z0 t_Hs)) b (b + 1) qa 5 gs bd H3 S2 ∧ H2 = hset H3 a (5, 0, updV fs 1 (.ref b))) → Z E G H2 S2 32 301 (26, [some (.ref a)], [])) : Z E G H S 5 49 (15, [some (.ref a)], []) := by
  refine Z_run C it_Xx_init 1 (f2 := (16, [some (.ref a)], [.ref a])) rfl ?_
  refine Z_new C it_Xx_init rfl wi_Hs t_Hs t_Hs_ok (ci := 2) rfl (List.mem_filter.mp kl_Xx_16).1 (zgw_good (List.mem_filter.mp kl_Xx_16).2) kI_Hs kN_Hs (by decide) (by decide) (fun b h1 h1b => ?_)
  refine Z_run C it_Xx_init 1 (f2 := (20, [some (.ref a)], [.ref b, .ref b, .ref a])) rfl ?_
  refine Z_callK C it_Xx_init rfl p_Hs_init (host := R_Xx) (Or.inl ml_Xx_18) [] (ct_Hs_init C.ev C.l hov _ b (b + 1) hset_s (by omega) h1b) rfl rfl ⟨by decide, by decide, by decide, by decide⟩ (Nat.le_of_ble_eq_true rfl) rfl (fun w h3 sz3 hO => ?_)
  obtain ⟨qa, gs, bd, e1, hI⟩ := hO
  cases e1
  refine Z_putf C it_Xx_init rfl wi_Xx t_Xx t_Xx_ok n_Xx (by rw [hI.2.2.2.2.2.1 a (by omega) (by omega), hset_n (by omega)]; exact ha) rfl (j := 1) (by decide) fl_Xx_19 (Or.inr ⟨rfl, rfl⟩) rfl rfl hB ?_
  exact kk _ _ ⟨b, qa, gs, bd, _, h1, hI, rfl⟩
set_option maxRecDepth 20000 in
theorem sX_Gm {E : zE} {G : zG} (C : zCx E G c_Xx_init 1 y_Xx_init.cls y_Xx_init.name none rm_Xx_init) {H : aH} {a S : Nat} {fs : Nat → Value} (ha : H a = some (5, 0, fs)) (haS : a < S) (hB : zB E ≤ a) (kk : ∀ H2 S2, ((∃ b, nGm H2 S b S2 ∧ H2 a = some (5, 0, updV fs 0 (.ref b))) ∧ (∀ x, x < S → x ≠ a → H2 x = H x)) → Z E G H2 S2 5 49 (15, [some (.ref a)], [])) : Z E G H S 0 0 (4, [some (.ref a)], []) := by
  refine Z_run C it_Xx_init 1 (f2 := (5, [some (.ref a)], [.ref a])) rfl ?_
  refine Z_new C it_Xx_init rfl wi_Gm t_Gm t_Gm_ok (ci := 1) rfl (List.mem_filter.mp kl_Xx_7).1 (zgw_good (List.mem_filter.mp kl_Xx_7).2) kI_Gm kN_Gm (by decide) (by decide) (fun b h1 h1b => ?_)
  refine Z_run C it_Xx_init 1 (f2 := (9, [some (.ref a)], [.ref b, .ref b, .ref a])) rfl ?_
  refine Z_callK C it_Xx_init rfl p_Gm_init (host := R_Xx) (Or.inr ml_Xx_9) [] (ct_Gm_init C.ev C.l _ b (b + 1) hset_s (by omega) h1b) rfl rfl ⟨by decide, by decide, by decide, by decide⟩ (Nat.le_of_ble_eq_true rfl) rfl (fun w h3 sz3 hO => ?_)
  obtain ⟨q1, q2, q3, q4, f1, f2, f3, f4, e1, rfl, rfl⟩ := hO
  cases e1
  refine Z_putf C it_Xx_init rfl wi_Xx t_Xx t_Xx_ok n_Xx (by rw [hset_n (by omega), hset_n (by omega), hset_n (by omega), hset_n (by omega), hset_n (by omega), hset_n (by omega)]; exact ha) rfl (j := 0) (by decide) fl_Xx_10 (Or.inr ⟨rfl, rfl⟩) rfl rfl hB ?_
  refine kk _ _ ⟨⟨b, ⟨q1, q2, q3, q4, h1, by omega, by omega, by omega, by omega, by omega, ?_, ?_, ?_, ?_, ?_⟩, hset_s⟩, fun x hx hxa => ?_⟩
  · rw [hset_n (by omega), hset_s]
  · rw [hset_n (by omega), hset_n (by omega), hset_n (by omega), hset_n (by omega), hset_n (by omega), hset_s]
  · rw [hset_n (by omega), hset_n (by omega), hset_n (by omega), hset_n (by omega), hset_s]
  · rw [hset_n (by omega), hset_n (by omega), hset_n (by omega), hset_s]
  · rw [hset_n (by omega), hset_n (by omega), hset_s]
  · rw [hset_n hxa, hset_n (by omega), hset_n (by omega), hset_n (by omega), hset_n (by omega), hset_n (by omega), hset_n (by omega)]
