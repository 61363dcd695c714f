/-! ===== the constructor of History ===== -/
/-- a new game at g, its parts between g and hi -/
def nGm (H : aH) (lo g hi : Nat) : Prop := ∃ b s c t : Nat, lo ≤ g ∧ g < b ∧ b < s ∧ s < c ∧ c < t ∧ t < hi ∧ H g = some (gm0 b c t) ∧ H b = some (0, 0, updV (z0 t_Bd) 0 (.ref s)) ∧ H s = some (10, 36, fun _ => .int 0) ∧ H c = some (10, 2, fun _ => .int 0) ∧ H t = some (10, 2, fun _ => .int 0)
theorem nGm_k {H H2 : aH} {lo g hi : Nat} (h : nGm H lo g hi) (e : ∀ x, lo ≤ x → x < hi → H2 x = H x) : nGm H2 lo g hi := by
  obtain ⟨b, s, c, t, h1, h2, h3, h4, h5, h6, e1, e2, e3, e4, e5⟩ := h
  exact ⟨b, s, c, t, h1, h2, h3, h4, h5, h6, (e g (by omega) (by omega)).trans e1, (e b (by omega) (by omega)).trans e2, (e s (by omega) (by omega)).trans e3, (e c (by omega) (by omega)).trans e4, (e t (by omega) (by omega)).trans e5⟩
/-- i games of the history at a are made -/
def iHs (h : aH) (a sz qa i : Nat) (gs bd : Nat → Nat) (H : aH) (S : Nat) : Prop := sz ≤ qa ∧ qa < bd 0 ∧ bd i = S ∧ (∀ j, j < i → bd j ≤ bd (j + 1) ∧ bd (j + 1) ≤ S ∧ qa < bd j ∧ nGm H (bd j) (gs j) (bd (j + 1))) ∧ qa < S ∧ (∀ x, x < sz → x ≠ a → H x = h x) ∧ H a = some (2, 0, updV (updV (z0 t_Hs) 0 (.ref qa)) 1 (.int (nI 0))) ∧ ∃ fs : Nat → Value, H qa = some (14, 5, fs) ∧ ∀ j, j < i → fs j = .ref (gs j)
def zNH (h : aH) (a sz : Nat) : zO := fun o h2 sz2 => ∃ (qa : Nat) (gs bd : Nat → Nat), o = .inl none ∧ iHs h a sz qa 5 gs bd h2 sz2
set_option maxRecDepth 20000 in
theorem lp_Hs_init {E : zE} {G : zG} {O : zO} (C : zCx E G c_Hs_init 2 y_Hs_init.cls y_Hs_init.name none rm_Hs_init) (q : zEnd E G O rm_Hs_init.cells rm_Hs_init.slots) {h : aH} {a sz qa : Nat} (has : a < sz) (hB : zB E ≤ qa) (hO : ∀ gs bd H S, iHs h a sz qa 5 gs bd H S → O (.inl none) H S) : ∀ m i, i + m = 5 → ∀ gs bd H S, iHs h a sz qa i gs bd H S → Z E G H S (1 + 5 * i) (5 + 49 * i) (19, [some (.ref a), some (.int (nI i))], []) := by
  intro m
  induction m with
  | zero =>
    intro i hi gs bd H S hI
    have hi5 : i = 5 := by omega
    subst hi5
    refine Z_run C it_Hs_init 2 (f2 := (21, [some (.ref a), some (.int (nI 5))], [.int (nI 5), .int (nI 5)])) rfl ?_
    refine Z_br C it_Hs_init rfl rfl (fun hc => ?_) (fun hc => ?_)
    · exact Z_vret C q it_Hs_init rfl (hO gs bd H S hI) (by decide) (by decide)
    · exact absurd (Int32.le_refl _) hc
  | succ m ih =>
    intro i hi gs bd H S hI
    obtain ⟨g1, g2, g3, g4, g5, g6, g7, fs, g8, g9⟩ := hI
    refine Z_run C it_Hs_init 2 (f2 := (21, [some (.ref a), some (.int (nI i))], [.int (nI 5), .int (nI i)])) rfl ?_
    refine Z_br C it_Hs_init rfl rfl (fun hc => ?_) (fun hc => ?_)
    · exact absurd ((nI_leI (a := 5) (b := i) (by omega) (by omega)).mp hc) (by omega)
    · refine Z_run C it_Hs_init 1 (f2 := (25, [some (.ref a), some (.int (nI i))], [.ref a])) rfl ?_
      refine Z_getf C it_Hs_init rfl wi_Hs g7 rfl (j := 0) (by decide) fl_Hs_11 (v := .ref qa) rfl ?_
      refine Z_run C it_Hs_init 1 (f2 := (29, [some (.ref a), some (.int (nI i))], [.int (nI i), .ref qa])) rfl ?_
      refine Z_new C it_Hs_init rfl wi_Gm t_Gm t_Gm_ok (ci := 1) rfl (List.mem_filter.mp kl_Hs_9).1 (zgw_good (List.mem_filter.mp kl_Hs_9).2) kI_Gm kN_Gm (by show 1 + 5 * i + 1 ≤ 26; omega) (by show 5 + 49 * i + 8 ≤ 250; omega) (fun g h1 h1b => ?_)
      refine Z_run C it_Hs_init 1 (f2 := (33, [some (.ref a), some (.int (nI i))], [.ref g, .ref g, .int (nI i), .ref qa])) rfl ?_
      refine Z_callK C it_Hs_init rfl p_Gm_init (host := R_Xx) (Or.inr ml_Hs_19) [] (ct_Gm_init C.ev C.l _ g (g + 1) hset_s (by omega) h1b) rfl rfl ⟨by decide, by decide, (by show 1 + 5 * i + 1 + 4 ≤ 26; omega), (by show 5 + 49 * i + 8 + 41 ≤ 250; omega)⟩ (Nat.le_of_ble_eq_true rfl) rfl (fun w h3 sz3 hO2 => ?_)
      obtain ⟨q1, q2, q3, q4, f1, f2, f3, f4, e2, rfl, rfl⟩ := hO2
      cases e2
      have low : ∀ x, x < S → hset (hset (hset (hset (hset (hset H g (1, 0, fun j => defaultValue (t_Gm j))) q1 (0, 0, updV (z0 t_Bd) 0 (.ref q2))) q2 (10, 36, fun _ => .int 0)) q3 (10, 2, fun _ => .int 0)) q4 (10, 2, fun _ => .int 0)) g (gm0 q1 q3 q4) x = H x := fun x hx => by
        rw [hset_n (by omega), hset_n (by omega), hset_n (by omega), hset_n (by omega), hset_n (by omega), hset_n (by omega)]
      refine Z_aast C it_Hs_init rfl (a := qa) (nn := 5) (fs := fs) (by rw [low qa g5]; exact g8) hset_s rfl (by omega) (by decide) hB ?_
      refine Z_run C it_Hs_init 2 (f2 := (19, [some (.ref a), some (.int (nI i + nI 1))], [])) rfl ?_
      rw [nI_add i 1]
      have hlow : ∀ x, x < S → x ≠ qa → ∀ c, hset (hset (hset (hset (hset (hset (hset H g (1, 0, fun j => defaultValue (t_Gm j))) q1 (0, 0, updV (z0 t_Bd) 0 (.ref q2))) q2 (10, 36, fun _ => .int 0)) q3 (10, 2, fun _ => .int 0)) q4 (10, 2, fun _ => .int 0)) g (gm0 q1 q3 q4)) qa c x = H x := fun x hx hq c => by
        rw [hset_n hq, low x hx]
      refine Z_widen (k2 := 1 + 5 * (i + 1)) (n2 := 5 + 49 * (i + 1)) (by show 1 + 5 * i + 1 + 4 ≤ _; omega) (by show 5 + 49 * i + 8 + 41 ≤ _; omega) ?_
      refine ih (i + 1) (by omega) (fun j => if j = i then g else gs j) (fun j => if j = i + 1 then q4 + 1 else bd j) _ _ ⟨g1, ?_, ?_, ?_, by omega, ?_, ?_, updV fs i (.ref g), hset_s, ?_⟩
      · show qa < (if 0 = i + 1 then q4 + 1 else bd 0)
        rw [if_neg (by omega)]
        exact g2
      · show (if i + 1 = i + 1 then q4 + 1 else bd (i + 1)) = q4 + 1
        rw [if_pos rfl]
      · intro j hj
        dsimp only
        by_cases hji : j = i
        · subst hji
          rw [if_neg (by omega), if_pos rfl, if_pos rfl]
          refine ⟨by omega, by omega, by omega, q1, q2, q3, q4, by omega, by omega, by omega, by omega, by omega, by omega, ?_, ?_, ?_, ?_, ?_⟩
          · rw [hset_n (by omega), hset_s]
          · rw [hset_n (by omega), hset_n (by omega), hset_n (by omega), hset_n (by omega), hset_n (by omega), hset_s]
          · rw [hset_n (by omega), hset_n (by omega), hset_n (by omega), hset_n (by omega), hset_s]
          · rw [hset_n (by omega), hset_n (by omega), hset_n (by omega), hset_s]
          · rw [hset_n (by omega), hset_n (by omega), hset_s]
        · obtain ⟨u1, u2, u3, u4⟩ := g4 j (by omega)
          rw [if_neg (by omega), if_neg (by omega), if_neg hji]
          exact ⟨u1, by omega, u3, nGm_k u4 (fun x x1 x2 => hlow x (by omega) (by omega) _)⟩
      · intro x hx hxa
        rw [hlow x (by omega) (by omega) _]
        exact g6 x hx hxa
      · rw [hlow a (by omega) (by omega) _]
        exact g7
      · intro j hj
        dsimp only
        by_cases hji : j = i
        · rw [hji, if_pos rfl]
          simp [updV]
        · rw [if_neg hji]
          simp only [updV, if_neg hji]
          exact g9 j (by omega)
