/-! ===== Game.copy, History ===== -/
theorem nar7 {v : Value} (h : v = .null ∨ ∃ q, v = .ref q) : narrow (t_Gm 7) v = v := by rcases h with rfl | ⟨q, rfl⟩ <;> rfl
theorem fit7 {v : Value} (h : v = .null ∨ ∃ q, v = .ref q) : fits (t_Gm 7) v = true := by rcases h with rfl | ⟨q, rfl⟩ <;> rfl
def gcp (V : Nat → Nat → Int32) (g u : Nat) : Nat → Nat → Int32 := vset (vset (vset (vset (vset (vset (vset (vset (vcp V (g + 1 + 1) (u + 1 + 1) 36) (g + 3) 0 (V (u + 3) 0)) (g + 4) 0 (V (u + 4) 0)) (g + 3) 1 (V (u + 3) 1)) (g + 4) 1 (V (u + 4) 1)) g 3 (V u 3)) g 4 (V u 4)) g 5 (V u 5)) g 6 (V u 6)
/-- two cells that no read can tell apart -/
def cAl (c c2 : aC) : Prop := c.1 = c2.1 ∧ c.2.1 = c2.2.1 ∧ c.1 < 15 ∧ ∀ k, k < ((zCl[c.1]?).elim c.2.1 (fun r => r.2.2)) → c.2.2 k = c2.2.2 k
theorem arrV_ext {cI : ClassId} {N : Nat} {f g : Nat → Value} (h : ∀ k, k < N → f k = g k) : arrV cI N f = arrV cI N g := by
  unfold arrV
  congr 1
  congr 1
  funext j
  exact h j.val j.isLt
theorem zC_al {E : zE} {a : Nat} {c c2 : aC} {H : Heap} (h : zC E a c H) (e : cAl c c2) : zC E a c2 H := by
  obtain ⟨ci, nn, f⟩ := c
  obtain ⟨ci2, nn2, f2⟩ := c2
  obtain ⟨e1, e2, e3, e4⟩ := e
  dsimp only at e1 e2 e3 e4
  subst e1 e2
  rcases h with ⟨q, r, h2, h3⟩ | ⟨q1, q2, q3⟩ | ⟨q1, -⟩
  · refine Or.inl ⟨q, r, h2, h3.to fun k hk => e4 k ?_⟩
    dsimp only at h2
    rw [h2]
    exact hk
  · refine Or.inr (Or.inl ⟨q1, q2, ?_⟩)
    dsimp only at q1 q2 q3 ⊢
    rw [q3]
    refine congrArg some (arrV_ext fun k hk => e4 k ?_)
    rw [show zCl[ci]? = none from List.getElem?_eq_none_iff.mpr (by show 6 ≤ ci; omega)]
    exact hk
  · exact absurd q1 (by dsimp only; omega)
theorem Zm_ext {E : zE} {G : zG} {sz k n : Nat} {f : zF} {D : zD} {V V2 : Nat → Nat → Int32} {P : Nat → Nat → Value} {PH : aH} (hc : ∀ i, zin i → V2 i = V i ∨ cAl (mk D i (V i) (P i)) (mk D i (V2 i) (P i))) (kk : Z E G (HM D V2 P PH) sz k n f) : Z E G (HM D V P PH) sz k n f := by
  obtain ⟨p, l, e, R', s, m, args, below, meth, c, Q⟩ := G
  intro H locs g1 g2 g3
  obtain ⟨q1, q2, q3, q4⟩ := g1
  refine kk H locs ⟨q1, q2, q3, fun a c hc2 => ?_⟩ g2 g3
  unfold HM at hc2
  by_cases e : zin (D.2.1 a) ∧ D.1 (D.2.1 a) = a
  · rw [if_pos e] at hc2
    have h0 := q4 a (mk D (D.2.1 a) (V (D.2.1 a)) (P (D.2.1 a))) (by unfold HM; rw [if_pos e])
    cases hc2
    rcases hc _ e.1 with h1 | h1
    · rw [h1]; exact h0
    · exact ⟨h0.1, zC_al h0.2 h1⟩
  · rw [if_neg e] at hc2
    exact q4 a c (by unfold HM; rw [if_neg e]; exact hc2)
def vcx (V : Nat → Nat → Int32) (j i : Nat) : Nat → Nat → Int32 := fun c => if c = j then V i else V c
theorem vcx_n {V : Nat → Nat → Int32} {j i c : Nat} (h : c ≠ j) : vcx V j i c = V c := by simp [vcx, h]
theorem vcx_s {V : Nat → Nat → Int32} {j i : Nat} : vcx V j i j = V i := by simp [vcx]
/-- game g is game u -/
def gcx (V : Nat → Nat → Int32) (g u : Nat) : Nat → Nat → Int32 := vcx (vcx (vcx (vcx V g u) (g + 1 + 1) (u + 1 + 1)) (g + 3) (u + 3)) (g + 4) (u + 4)
theorem gcp_n {V : Nat → Nat → Int32} {g u c : Nat} (h0 : c ≠ g) (h1 : c ≠ g + 1 + 1) (h2 : c ≠ g + 3) (h3 : c ≠ g + 4) : gcp V g u c = V c := by
  unfold gcp
  rw [vset_n h0, vset_n h0, vset_n h0, vset_n h0, vset_n h3, vset_n h2, vset_n h3, vset_n h2, vcp_n h1]
theorem gcx_n {V : Nat → Nat → Int32} {g u c : Nat} (h0 : c ≠ g) (h1 : c ≠ g + 1 + 1) (h2 : c ≠ g + 3) (h3 : c ≠ g + 4) : gcx V g u c = V c := by
  unfold gcx
  rw [vcx_n h3, vcx_n h2, vcx_n h1, vcx_n h0]
theorem gcx_al {D : zD} {V : Nat → Nat → Int32} {P : Nat → Nat → Value} {g u : Nat} (hg : isG g) (hgu : g + 5 ≤ u ∨ u + 5 ≤ g) : ∀ i, zin i → gcx V g u i = gcp V g u i ∨ cAl (mk D i (gcp V g u i) (P i)) (mk D i (gcx V g u i) (P i)) := by
  intro i hi
  have hg5 := hg.2.2.2.2.1
  by_cases h0 : i = g
  · subst h0
    right
    rw [hg.1, hg.1]
    refine ⟨rfl, rfl, Nat.le_of_ble_eq_true rfl, fun k hk => ?_⟩
    have hk8 : k < 8 := hk
    have e1 : gcx V i u i = V u := by unfold gcx; rw [vcx_n (by omega), vcx_n (by omega), vcx_n (by omega), vcx_s]
    rw [e1]
    have e2 : ∀ j, 3 ≤ j → j ≤ 6 → gcp V i u i j = V u j := fun j j1 j2 => by
      unfold gcp
      simp only [vset_s, upd]
      split
      · next e => rw [e]
      · split
        · next e => rw [e]
        · split
          · next e => rw [e]
          · split
            · next e => rw [e]
            · omega
    have e3 : ∀ j, j < 8 → (mkG D i (gcp V i u i) (P i)).2.2 j = (mkG D i (V u) (P i)).2.2 j := fun j hj => by
      match j, hj with
      | 0, _ => rfl
      | 1, _ => rfl
      | 2, _ => rfl
      | 3, _ => exact congrArg Value.int (e2 3 (by decide) (by decide))
      | 4, _ => exact congrArg Value.int (e2 4 (by decide) (by decide))
      | 5, _ => exact congrArg Value.int (e2 5 (by decide) (by decide))
      | 6, _ => exact congrArg Value.int (e2 6 (by decide) (by decide))
      | 7, _ => rfl
      | j + 8, h => exact absurd h (by omega)
    exact e3 k hk8
  · by_cases h1 : i = g + 1 + 1
    · subst h1
      right
      rw [hg.2.1.2.1, hg.2.1.2.1]
      refine ⟨rfl, rfl, Nat.le_of_ble_eq_true rfl, fun k hk => ?_⟩
      have hk8 : k < 36 := hk
      refine congrArg Value.int ?_
      unfold gcx gcp
      rw [vcx_n (by omega), vcx_n (by omega), vcx_s, vcx_n (by omega), vset_n (by omega), vset_n (by omega), vset_n (by omega), vset_n (by omega), vset_n (by omega), vset_n (by omega), vset_n (by omega), vset_n (by omega), vcp_in hk8]
    · by_cases h2 : i = g + 3
      · subst h2
        right
        rw [hg.2.2.1, hg.2.2.1]
        refine ⟨rfl, rfl, Nat.le_of_ble_eq_true rfl, fun k hk => ?_⟩
        have hk8 : k < 2 := hk
        refine congrArg Value.int ?_
        unfold gcx gcp
        rw [vcx_n (by omega), vcx_s, vcx_n (by omega), vcx_n (by omega), vset_n (by omega), vset_n (by omega), vset_n (by omega), vset_n (by omega), vset_n (by omega), vset_s, vset_n (by omega), vset_s]
        match k, hk8 with
        | 0, _ => rfl
        | 1, _ => rfl
        | k + 2, h => exact absurd h (by omega)
      · by_cases h3 : i = g + 4
        · subst h3
          right
          rw [hg.2.2.2.1, hg.2.2.2.1]
          refine ⟨rfl, rfl, Nat.le_of_ble_eq_true rfl, fun k hk => ?_⟩
          have hk8 : k < 2 := hk
          refine congrArg Value.int ?_
          unfold gcx gcp
          rw [vcx_s, vcx_n (by omega), vcx_n (by omega), vcx_n (by omega), vset_n (by omega), vset_n (by omega), vset_n (by omega), vset_n (by omega), vset_s, vset_n (by omega), vset_s]
          match k, hk8 with
          | 0, _ => rfl
          | 1, _ => rfl
          | k + 2, h => exact absurd h (by omega)
        · left
          rw [gcx_n h0 h1 h2 h3, gcp_n h0 h1 h2 h3]

set_option maxRecDepth 20000 in
theorem ct_Gm_copy {E : zE} (hE : zEv E) {l : Launch} (hl : l.stackTraces = false) {D : zD} (hD : zDok E D) (V : Nat → Nat → Int32) (P : Nat → Nat → Value) (PH : aH) (g : Nat) (hg : isG g) (u : Nat) (hu : isG u) (hgu : g + 5 ≤ u ∨ u + 5 ≤ g) (hv5 : V u 5 = 0 ∨ V u 5 = 1) (hv7 : P u 7 = .null ∨ ∃ q, P u 7 = .ref q) (sz : Nat) : zM E l y_Gm_copy [.code y_Gm_copy c_Gm_copy 3 none] rm_Gm_copy [.ref (D.1 g), .ref (D.1 u)] (HM D V P PH) sz (zRet (none) (HM D (gcx V g u) (pset P g 7 (P u 7)) PH) sz) := by
  refine zM_of hE hl (by decide +kernel) [some (.ref (D.1 g)), some (.ref (D.1 u)), none] ⟨rfl, rfl, Nat.le_of_ble_eq_true rfl⟩ ?_
  intro G C q htb
  have hg5 := hg.2.2.2.2.1
  have hu5 := hu.2.2.2.2.1
  refine Z_run C it_Gm_copy 1 (f2 := (1, [some (.ref (D.1 g)), some (.ref (D.1 u)), none], [.ref (D.1 g)])) rfl ?_
  refine Zm_get C it_Gm_copy hD rfl g wi_Gm (by omega) (hg.1 _ _ _) rfl (j := 0) (by decide) fl_Gm_12 (v := .ref (D.1 (g + 1))) rfl ?_
  refine Z_run C it_Gm_copy 1 (f2 := (5, [some (.ref (D.1 g)), some (.ref (D.1 u)), none], [.ref (D.1 u), .ref (D.1 (g + 1))])) rfl ?_
  refine Zm_get C it_Gm_copy hD rfl u wi_Gm (by omega) (hu.1 _ _ _) rfl (j := 0) (by decide) fl_Gm_12 (v := .ref (D.1 (u + 1))) rfl ?_
  refine Zr_callV C it_Gm_copy hD rfl p_Bd_copy ml_Gm_43 (g + 1) (by omega) (hg.2.1.1 _ _ _) rfl [.ref (D.1 (u + 1))] (ct_Bd_copy C.ev C.l hD _ _ _ (g + 1) hg.2.1 (u + 1) hu.2.1 _) rfl rfl ⟨by decide, by decide, by decide, by decide⟩ (Nat.le_of_ble_eq_true rfl) rfl ?_
  show Z E G (HM D (vcp V (g + 2) (u + 2) 36) P PH) sz 0 0 (11, [some (.ref (D.1 g)), some (.ref (D.1 u)), none], [])
  refine Z_run C it_Gm_copy 2 (f2 := (13, [some (.ref (D.1 g)), some (.ref (D.1 u)), some (.int (nI 0))], [])) rfl ?_
  refine Z_run C it_Gm_copy 2 (f2 := (15, [some (.ref (D.1 g)), some (.ref (D.1 u)), some (.int (nI 0))], [.int (nI 2), .int (nI 0)])) rfl ?_
  refine Z_br C it_Gm_copy rfl rfl (fun hc1 => ?_) (fun hc1 => ?_)
  · exact absurd hc1 (by decide)
  · skip
    refine Z_run C it_Gm_copy 1 (f2 := (19, [some (.ref (D.1 g)), some (.ref (D.1 u)), some (.int (nI 0))], [.ref (D.1 g)])) rfl ?_
    refine Zm_get C it_Gm_copy hD rfl g wi_Gm (by omega) (hg.1 _ _ _) rfl (j := 1) (by decide) fl_Gm_18 (v := .ref (D.1 (g + 3))) rfl ?_
    refine Z_run C it_Gm_copy 2 (f2 := (24, [some (.ref (D.1 g)), some (.ref (D.1 u)), some (.int (nI 0))], [.ref (D.1 u), .int (nI 0), .ref (D.1 (g + 3))])) rfl ?_
    refine Zm_get C it_Gm_copy hD rfl u wi_Gm (by omega) (hu.1 _ _ _) rfl (j := 1) (by decide) fl_Gm_18 (v := .ref (D.1 (u + 3))) rfl ?_
    refine Z_run C it_Gm_copy 1 (f2 := (28, [some (.ref (D.1 g)), some (.ref (D.1 u)), some (.int (nI 0))], [.int (nI 0), .ref (D.1 (u + 3)), .int (nI 0), .ref (D.1 (g + 3))])) rfl ?_
    refine Zm_ald C it_Gm_copy hD (u + 3) 10 rfl (by omega) (hu.2.2.1 _ _ _) (by decide) (by decide) rfl (j := 0) (by omega) (v := .int ((vcp V (g + 2) (u + 2) 36) (u + 3) 0)) rfl ?_
    have e1 : (vcp V (g + 2) (u + 2) 36) (u + 3) 0 = V (u + 3) 0 := by simp (disch := omega) only [vset_n, vcp_n]
    rw [e1]
    refine Zm_ast C it_Gm_copy hD (g + 3) 10 rfl (by first | decide | exact isB_k hb | omega) (hg.2.2.1 _ _ _) (by decide) rfl (j := 0) (by omega) trivial (hg.2.2.2.2.2.1 _).1 ?_
    refine Z_run C it_Gm_copy 1 (f2 := (31, [some (.ref (D.1 g)), some (.ref (D.1 u)), some (.int (nI 0))], [.ref (D.1 g)])) rfl ?_
    refine Zm_get C it_Gm_copy hD rfl g wi_Gm (by omega) (hg.1 _ _ _) rfl (j := 2) (by decide) fl_Gm_22 (v := .ref (D.1 (g + 4))) rfl ?_
    refine Z_run C it_Gm_copy 2 (f2 := (36, [some (.ref (D.1 g)), some (.ref (D.1 u)), some (.int (nI 0))], [.ref (D.1 u), .int (nI 0), .ref (D.1 (g + 4))])) rfl ?_
    refine Zm_get C it_Gm_copy hD rfl u wi_Gm (by omega) (hu.1 _ _ _) rfl (j := 2) (by decide) fl_Gm_22 (v := .ref (D.1 (u + 4))) rfl ?_
    refine Z_run C it_Gm_copy 1 (f2 := (40, [some (.ref (D.1 g)), some (.ref (D.1 u)), some (.int (nI 0))], [.int (nI 0), .ref (D.1 (u + 4)), .int (nI 0), .ref (D.1 (g + 4))])) rfl ?_
    refine Zm_ald C it_Gm_copy hD (u + 4) 10 rfl (by omega) (hu.2.2.2.1 _ _ _) (by decide) (by decide) rfl (j := 0) (by omega) (v := .int ((vset (vcp V (g + 2) (u + 2) 36) (g + 3) 0 (V (u + 3) 0)) (u + 4) 0)) rfl ?_
    have e2 : (vset (vcp V (g + 2) (u + 2) 36) (g + 3) 0 (V (u + 3) 0)) (u + 4) 0 = V (u + 4) 0 := by simp (disch := omega) only [vset_n, vcp_n]
    rw [e2]
    refine Zm_ast C it_Gm_copy hD (g + 4) 10 rfl (by first | decide | exact isB_k hb | omega) (hg.2.2.2.1 _ _ _) (by decide) rfl (j := 0) (by omega) trivial (hg.2.2.2.2.2.1 _).2 ?_
    refine Z_run C it_Gm_copy 1 (f2 := (45, [some (.ref (D.1 g)), some (.ref (D.1 u)), some (.int (nI 0 + nI 1))], [])) rfl ?_
    rw [nI_add 0 1]
    refine Z_run C it_Gm_copy 1 (f2 := (13, [some (.ref (D.1 g)), some (.ref (D.1 u)), some (.int (nI (0 + 1)))], [])) rfl ?_
    have e3 : nI (0 + 1) = nI 1 := rfl
    rw [e3]
    refine Z_run C it_Gm_copy 2 (f2 := (15, [some (.ref (D.1 g)), some (.ref (D.1 u)), some (.int (nI 1))], [.int (nI 2), .int (nI 1)])) rfl ?_
    refine Z_br C it_Gm_copy rfl rfl (fun hc2 => ?_) (fun hc2 => ?_)
    · exact absurd hc2 (by decide)
    · skip
      refine Z_run C it_Gm_copy 1 (f2 := (19, [some (.ref (D.1 g)), some (.ref (D.1 u)), some (.int (nI 1))], [.ref (D.1 g)])) rfl ?_
      refine Zm_get C it_Gm_copy hD rfl g wi_Gm (by omega) (hg.1 _ _ _) rfl (j := 1) (by decide) fl_Gm_18 (v := .ref (D.1 (g + 3))) rfl ?_
      refine Z_run C it_Gm_copy 2 (f2 := (24, [some (.ref (D.1 g)), some (.ref (D.1 u)), some (.int (nI 1))], [.ref (D.1 u), .int (nI 1), .ref (D.1 (g + 3))])) rfl ?_
      refine Zm_get C it_Gm_copy hD rfl u wi_Gm (by omega) (hu.1 _ _ _) rfl (j := 1) (by decide) fl_Gm_18 (v := .ref (D.1 (u + 3))) rfl ?_
      refine Z_run C it_Gm_copy 1 (f2 := (28, [some (.ref (D.1 g)), some (.ref (D.1 u)), some (.int (nI 1))], [.int (nI 1), .ref (D.1 (u + 3)), .int (nI 1), .ref (D.1 (g + 3))])) rfl ?_
      refine Zm_ald C it_Gm_copy hD (u + 3) 10 rfl (by omega) (hu.2.2.1 _ _ _) (by decide) (by decide) rfl (j := 1) (by omega) (v := .int ((vset (vset (vcp V (g + 2) (u + 2) 36) (g + 3) 0 (V (u + 3) 0)) (g + 4) 0 (V (u + 4) 0)) (u + 3) 1)) rfl ?_
      have e4 : (vset (vset (vcp V (g + 2) (u + 2) 36) (g + 3) 0 (V (u + 3) 0)) (g + 4) 0 (V (u + 4) 0)) (u + 3) 1 = V (u + 3) 1 := by simp (disch := omega) only [vset_n, vcp_n]
      rw [e4]
      refine Zm_ast C it_Gm_copy hD (g + 3) 10 rfl (by first | decide | exact isB_k hb | omega) (hg.2.2.1 _ _ _) (by decide) rfl (j := 1) (by omega) trivial (hg.2.2.2.2.2.1 _).1 ?_
      refine Z_run C it_Gm_copy 1 (f2 := (31, [some (.ref (D.1 g)), some (.ref (D.1 u)), some (.int (nI 1))], [.ref (D.1 g)])) rfl ?_
      refine Zm_get C it_Gm_copy hD rfl g wi_Gm (by omega) (hg.1 _ _ _) rfl (j := 2) (by decide) fl_Gm_22 (v := .ref (D.1 (g + 4))) rfl ?_
      refine Z_run C it_Gm_copy 2 (f2 := (36, [some (.ref (D.1 g)), some (.ref (D.1 u)), some (.int (nI 1))], [.ref (D.1 u), .int (nI 1), .ref (D.1 (g + 4))])) rfl ?_
      refine Zm_get C it_Gm_copy hD rfl u wi_Gm (by omega) (hu.1 _ _ _) rfl (j := 2) (by decide) fl_Gm_22 (v := .ref (D.1 (u + 4))) rfl ?_
      refine Z_run C it_Gm_copy 1 (f2 := (40, [some (.ref (D.1 g)), some (.ref (D.1 u)), some (.int (nI 1))], [.int (nI 1), .ref (D.1 (u + 4)), .int (nI 1), .ref (D.1 (g + 4))])) rfl ?_
      refine Zm_ald C it_Gm_copy hD (u + 4) 10 rfl (by omega) (hu.2.2.2.1 _ _ _) (by decide) (by decide) rfl (j := 1) (by omega) (v := .int ((vset (vset (vset (vcp V (g + 2) (u + 2) 36) (g + 3) 0 (V (u + 3) 0)) (g + 4) 0 (V (u + 4) 0)) (g + 3) 1 (V (u + 3) 1)) (u + 4) 1)) rfl ?_
      have e5 : (vset (vset (vset (vcp V (g + 2) (u + 2) 36) (g + 3) 0 (V (u + 3) 0)) (g + 4) 0 (V (u + 4) 0)) (g + 3) 1 (V (u + 3) 1)) (u + 4) 1 = V (u + 4) 1 := by simp (disch := omega) only [vset_n, vcp_n]
      rw [e5]
      refine Zm_ast C it_Gm_copy hD (g + 4) 10 rfl (by first | decide | exact isB_k hb | omega) (hg.2.2.2.1 _ _ _) (by decide) rfl (j := 1) (by omega) trivial (hg.2.2.2.2.2.1 _).2 ?_
      refine Z_run C it_Gm_copy 1 (f2 := (45, [some (.ref (D.1 g)), some (.ref (D.1 u)), some (.int (nI 1 + nI 1))], [])) rfl ?_
      rw [nI_add 1 1]
      refine Z_run C it_Gm_copy 1 (f2 := (13, [some (.ref (D.1 g)), some (.ref (D.1 u)), some (.int (nI (1 + 1)))], [])) rfl ?_
      have e6 : nI (1 + 1) = nI 2 := rfl
      rw [e6]
      refine Z_run C it_Gm_copy 2 (f2 := (15, [some (.ref (D.1 g)), some (.ref (D.1 u)), some (.int (nI 2))], [.int (nI 2), .int (nI 2)])) rfl ?_
      refine Z_br C it_Gm_copy rfl rfl (fun hc3 => ?_) (fun hc3 => ?_)
      · skip
        refine Z_run C it_Gm_copy 2 (f2 := (50, [some (.ref (D.1 g)), some (.ref (D.1 u)), some (.int (nI 2))], [.ref (D.1 u), .ref (D.1 g)])) rfl ?_
        refine Zm_get C it_Gm_copy hD rfl u wi_Gm (by omega) (hu.1 _ _ _) rfl (j := 3) (by decide) fl_Gm_25 (v := .int ((vset (vset (vset (vset (vcp V (g + 2) (u + 2) 36) (g + 3) 0 (V (u + 3) 0)) (g + 4) 0 (V (u + 4) 0)) (g + 3) 1 (V (u + 3) 1)) (g + 4) 1 (V (u + 4) 1)) u 3)) rfl ?_
        have e7 : (vset (vset (vset (vset (vcp V (g + 2) (u + 2) 36) (g + 3) 0 (V (u + 3) 0)) (g + 4) 0 (V (u + 4) 0)) (g + 3) 1 (V (u + 3) 1)) (g + 4) 1 (V (u + 4) 1)) u 3 = V u 3 := by simp (disch := omega) only [vset_n, vcp_n]
        rw [e7]
        refine Zm_put C it_Gm_copy hD rfl g wi_Gm t_Gm t_Gm_ok n_Gm (by first | decide | omega) (hg.1 _ _ _) rfl (j := 3) (by decide) fl_Gm_25 rfl hg.2.2.2.2.2.2.1 rfl rfl ?_
        refine Z_run C it_Gm_copy 2 (f2 := (58, [some (.ref (D.1 g)), some (.ref (D.1 u)), some (.int (nI 2))], [.ref (D.1 u), .ref (D.1 g)])) rfl ?_
        refine Zm_get C it_Gm_copy hD rfl u wi_Gm (by omega) (hu.1 _ _ _) rfl (j := 4) (by decide) fl_Gm_29 (v := .int ((vset (vset (vset (vset (vset (vcp V (g + 2) (u + 2) 36) (g + 3) 0 (V (u + 3) 0)) (g + 4) 0 (V (u + 4) 0)) (g + 3) 1 (V (u + 3) 1)) (g + 4) 1 (V (u + 4) 1)) g 3 (V u 3)) u 4)) rfl ?_
        have e8 : (vset (vset (vset (vset (vset (vcp V (g + 2) (u + 2) 36) (g + 3) 0 (V (u + 3) 0)) (g + 4) 0 (V (u + 4) 0)) (g + 3) 1 (V (u + 3) 1)) (g + 4) 1 (V (u + 4) 1)) g 3 (V u 3)) u 4 = V u 4 := by simp (disch := omega) only [vset_n, vcp_n]
        rw [e8]
        refine Zm_put C it_Gm_copy hD rfl g wi_Gm t_Gm t_Gm_ok n_Gm (by first | decide | omega) (hg.1 _ _ _) rfl (j := 4) (by decide) fl_Gm_29 rfl hg.2.2.2.2.2.2.2.1 rfl rfl ?_
        refine Z_run C it_Gm_copy 2 (f2 := (66, [some (.ref (D.1 g)), some (.ref (D.1 u)), some (.int (nI 2))], [.ref (D.1 u), .ref (D.1 g)])) rfl ?_
        refine Zm_get C it_Gm_copy hD rfl u wi_Gm (by omega) (hu.1 _ _ _) rfl (j := 5) (by decide) fl_Gm_32 (v := .int ((vset (vset (vset (vset (vset (vset (vcp V (g + 2) (u + 2) 36) (g + 3) 0 (V (u + 3) 0)) (g + 4) 0 (V (u + 4) 0)) (g + 3) 1 (V (u + 3) 1)) (g + 4) 1 (V (u + 4) 1)) g 3 (V u 3)) g 4 (V u 4)) u 5)) rfl ?_
        have e9 : (vset (vset (vset (vset (vset (vset (vcp V (g + 2) (u + 2) 36) (g + 3) 0 (V (u + 3) 0)) (g + 4) 0 (V (u + 4) 0)) (g + 3) 1 (V (u + 3) 1)) (g + 4) 1 (V (u + 4) 1)) g 3 (V u 3)) g 4 (V u 4)) u 5 = V u 5 := by simp (disch := omega) only [vset_n, vcp_n]
        rw [e9]
        refine Zm_put C it_Gm_copy hD rfl g wi_Gm t_Gm t_Gm_ok n_Gm (by first | decide | omega) (hg.1 _ _ _) rfl (j := 5) (by decide) fl_Gm_32 rfl hg.2.2.2.2.2.2.2.2.1 (zfit_n (by first | exact bI_v | assumption)) (zfit_f (by first | exact bI_v | assumption)) ?_
        refine Z_run C it_Gm_copy 2 (f2 := (74, [some (.ref (D.1 g)), some (.ref (D.1 u)), some (.int (nI 2))], [.ref (D.1 u), .ref (D.1 g)])) rfl ?_
        refine Zm_get C it_Gm_copy hD rfl u wi_Gm (by omega) (hu.1 _ _ _) rfl (j := 6) (by decide) fl_Gm_36 (v := .int ((vset (vset (vset (vset (vset (vset (vset (vcp V (g + 2) (u + 2) 36) (g + 3) 0 (V (u + 3) 0)) (g + 4) 0 (V (u + 4) 0)) (g + 3) 1 (V (u + 3) 1)) (g + 4) 1 (V (u + 4) 1)) g 3 (V u 3)) g 4 (V u 4)) g 5 (V u 5)) u 6)) rfl ?_
        have e10 : (vset (vset (vset (vset (vset (vset (vset (vcp V (g + 2) (u + 2) 36) (g + 3) 0 (V (u + 3) 0)) (g + 4) 0 (V (u + 4) 0)) (g + 3) 1 (V (u + 3) 1)) (g + 4) 1 (V (u + 4) 1)) g 3 (V u 3)) g 4 (V u 4)) g 5 (V u 5)) u 6 = V u 6 := by simp (disch := omega) only [vset_n, vcp_n]
        rw [e10]
        refine Zm_put C it_Gm_copy hD rfl g wi_Gm t_Gm t_Gm_ok n_Gm (by first | decide | omega) (hg.1 _ _ _) rfl (j := 6) (by decide) fl_Gm_36 rfl hg.2.2.2.2.2.2.2.2.2.1 rfl rfl ?_
        refine Z_run C it_Gm_copy 2 (f2 := (82, [some (.ref (D.1 g)), some (.ref (D.1 u)), some (.int (nI 2))], [.ref (D.1 u), .ref (D.1 g)])) rfl ?_
        refine Zm_get C it_Gm_copy hD rfl u wi_Gm (by omega) (hu.1 _ _ _) rfl (j := 7) (by decide) fl_Gm_39 (v := P u 7) rfl ?_
        refine Zm_putr C it_Gm_copy hD rfl g wi_Gm t_Gm t_Gm_ok n_Gm (by first | decide | omega) (hg.1 _ _ _) rfl (j := 7) (by decide) fl_Gm_39 rfl hg.2.2.2.2.2.2.2.2.2.2 (x := P u 7) (nar7 hv7) (fit7 hv7) ?_
        refine Zm_ext (V2 := gcx V g u) (gcx_al hg hgu) ?_
        exact Z_vret C q.e it_Gm_copy rfl (zRet_vH rfl) (by decide) (by decide)
      · exact absurd hc3 (by decide)
/-- the states are the games gs 0 .. gs 4 -/
def isH (D : zD) (P : Nat → Nat → Value) (gs : Nat → Nat) : Prop := ∀ k, k < 5 → P 7 k = .ref (D.1 (gs k)) ∧ isG (gs k) ∧ 8 ≤ gs k
section ZAA
variable {E : zE} {G : zG} {cc : ByteArray} {nL : Nat} {own nm : String} {ret : Option FieldType} {R : Room} {sz k n : Nat} {t : List zI} {pc : Nat} {ls : zL} {rest : List Value} {D : zD} {V : Nat → Nat → Int32} {P : Nat → Nat → Value} {PH : aH}
theorem Zm_aast (C : zCx E G cc nL own nm ret R) (ht : zT cc t) (hD : zDok E D) {r : Nat × Int32 × Nat} (hl : t.lookup pc = some (.aastore, r)) {j : Nat} {x : Int32} (hx : x = nI j) (hj : j < 5) {g : Nat} (hg : isG g) (kk : Z E G (HM D V (pset P 7 j (.ref (D.1 g))) PH) sz k n (pc + 1, ls, rest)) : Z E G (HM D V P PH) sz k n (pc, ls, .ref (D.1 g) :: .int x :: .ref (D.1 7) :: rest) := by
  have hg5 := hg.2.2.2.2.1
  refine Z_aast C ht hl (a := D.1 7) (nn := 5) (fs := (mk D 7 (V 7) (P 7)).2.2) (by rw [HM_at hD (by decide)]; rfl) (by rw [HM_at hD (by omega), hg.1]; rfl) hx hj (by decide) (hD.2.1 7 (by decide)) ?_
  rw [HM_set (V2 := V) (P2 := pset P 7 j (.ref (D.1 g))) hD (by decide) (by rw [pset_s, mk_r (i := 7) rfl]; rfl) (fun _ _ => rfl) (fun b hb => pset_n hb)]
  exact kk
end ZAA
def prot (D : zD) (P : Nat → Nat → Value) (gs : Nat → Nat) : Nat → Nat → Value := pset (pset (pset (pset (pset P 7 0 (.ref (D.1 (gs 1)))) 7 1 (.ref (D.1 (gs 2)))) 7 2 (.ref (D.1 (gs 3)))) 7 3 (.ref (D.1 (gs 4)))) 7 4 (.ref (D.1 (gs 0)))
set_option maxRecDepth 20000 in
theorem ct_Hs_dropOldest {E : zE} (hE : zEv E) {l : Launch} (hl : l.stackTraces = false) {D : zD} (hD : zDok E D) (V : Nat → Nat → Int32) (P : Nat → Nat → Value) (PH : aH) (gs : Nat → Nat) (hgs : isH D P gs) (n : Nat) (hn : V 6 1 = nI n) (h1 : 1 ≤ n) (sz : Nat) : zM E l y_Hs_dropOldest [.code y_Hs_dropOldest c_Hs_dropOldest 3 none] rm_Hs_dropOldest [.ref (D.1 6)] (HM D V P PH) sz (zRet (none) (HM D (vset V 6 1 (nI (n - 1))) (prot D P gs) PH) sz) := by
  refine zM_of hE hl (by decide +kernel) [some (.ref (D.1 6)), none, none] ⟨rfl, rfl, Nat.le_of_ble_eq_true rfl⟩ ?_
  intro G C q htb
  refine Z_run C it_Hs_dropOldest 1 (f2 := (1, [some (.ref (D.1 6)), none, none], [.ref (D.1 6)])) rfl ?_
  refine Zm_get C it_Hs_dropOldest hD rfl 6 wi_Hs (by decide) rfl rfl (j := 0) (by decide) fl_Hs_11 (v := .ref (D.1 7)) rfl ?_
  refine Z_run C it_Hs_dropOldest 1 (f2 := (5, [some (.ref (D.1 6)), none, none], [.int (nI 0), .ref (D.1 7)])) rfl ?_
  refine Zm_ald C it_Hs_dropOldest hD 7 14 rfl (by decide) rfl (by decide) (by decide) rfl (j := 0) (by omega) (v := .ref (D.1 (gs 0))) (hgs 0 (by decide)).1 ?_
  refine Z_run C it_Hs_dropOldest 3 (f2 := (9, [some (.ref (D.1 6)), some (.ref (D.1 (gs 0))), some (.int (nI 1))], [])) rfl ?_
  refine Z_run C it_Hs_dropOldest 2 (f2 := (11, [some (.ref (D.1 6)), some (.ref (D.1 (gs 0))), some (.int (nI 1))], [.int (nI 5), .int (nI 1)])) rfl ?_
  refine Z_br C it_Hs_dropOldest rfl rfl (fun hc1 => ?_) (fun hc1 => ?_)
  · exact absurd hc1 (by decide)
  · skip
    refine Z_run C it_Hs_dropOldest 1 (f2 := (15, [some (.ref (D.1 6)), some (.ref (D.1 (gs 0))), some (.int (nI 1))], [.ref (D.1 6)])) rfl ?_
    refine Zm_get C it_Hs_dropOldest hD rfl 6 wi_Hs (by decide) rfl rfl (j := 0) (by decide) fl_Hs_11 (v := .ref (D.1 7)) rfl ?_
    refine Z_run C it_Hs_dropOldest 3 (f2 := (21, [some (.ref (D.1 6)), some (.ref (D.1 (gs 0))), some (.int (nI 1))], [.int (nI 1 - nI 1), .ref (D.1 7)])) rfl ?_
    have e1 : nI 1 - nI 1 = nI 0 := by decide
    rw [e1]
    refine Z_run C it_Hs_dropOldest 1 (f2 := (22, [some (.ref (D.1 6)), some (.ref (D.1 (gs 0))), some (.int (nI 1))], [.ref (D.1 6), .int (nI 0), .ref (D.1 7)])) rfl ?_
    refine Zm_get C it_Hs_dropOldest hD rfl 6 wi_Hs (by decide) rfl rfl (j := 0) (by decide) fl_Hs_11 (v := .ref (D.1 7)) rfl ?_
    refine Z_run C it_Hs_dropOldest 1 (f2 := (26, [some (.ref (D.1 6)), some (.ref (D.1 (gs 0))), some (.int (nI 1))], [.int (nI 1), .ref (D.1 7), .int (nI 0), .ref (D.1 7)])) rfl ?_
    refine Zm_ald C it_Hs_dropOldest hD 7 14 rfl (by decide) rfl (by decide) (by decide) rfl (j := 1) (by omega) (v := .ref (D.1 (gs 1))) (hgs 1 (by decide)).1 ?_
    refine Zm_aast C it_Hs_dropOldest hD rfl (j := 0) rfl (by decide) (g := gs 1) (hgs 1 (by decide)).2.1 ?_
    refine Z_run C it_Hs_dropOldest 1 (f2 := (31, [some (.ref (D.1 6)), some (.ref (D.1 (gs 0))), some (.int (nI 1 + nI 1))], [])) rfl ?_
    rw [nI_add 1 1]
    refine Z_run C it_Hs_dropOldest 1 (f2 := (9, [some (.ref (D.1 6)), some (.ref (D.1 (gs 0))), some (.int (nI (1 + 1)))], [])) rfl ?_
    have e2 : nI (1 + 1) = nI 2 := rfl
    rw [e2]
    refine Z_run C it_Hs_dropOldest 2 (f2 := (11, [some (.ref (D.1 6)), some (.ref (D.1 (gs 0))), some (.int (nI 2))], [.int (nI 5), .int (nI 2)])) rfl ?_
    refine Z_br C it_Hs_dropOldest rfl rfl (fun hc2 => ?_) (fun hc2 => ?_)
    · exact absurd hc2 (by decide)
    · skip
      refine Z_run C it_Hs_dropOldest 1 (f2 := (15, [some (.ref (D.1 6)), some (.ref (D.1 (gs 0))), some (.int (nI 2))], [.ref (D.1 6)])) rfl ?_
      refine Zm_get C it_Hs_dropOldest hD rfl 6 wi_Hs (by decide) rfl rfl (j := 0) (by decide) fl_Hs_11 (v := .ref (D.1 7)) rfl ?_
      refine Z_run C it_Hs_dropOldest 3 (f2 := (21, [some (.ref (D.1 6)), some (.ref (D.1 (gs 0))), some (.int (nI 2))], [.int (nI 2 - nI 1), .ref (D.1 7)])) rfl ?_
      have e3 : nI 2 - nI 1 = nI 1 := by decide
      rw [e3]
      refine Z_run C it_Hs_dropOldest 1 (f2 := (22, [some (.ref (D.1 6)), some (.ref (D.1 (gs 0))), some (.int (nI 2))], [.ref (D.1 6), .int (nI 1), .ref (D.1 7)])) rfl ?_
      refine Zm_get C it_Hs_dropOldest hD rfl 6 wi_Hs (by decide) rfl rfl (j := 0) (by decide) fl_Hs_11 (v := .ref (D.1 7)) rfl ?_
      refine Z_run C it_Hs_dropOldest 1 (f2 := (26, [some (.ref (D.1 6)), some (.ref (D.1 (gs 0))), some (.int (nI 2))], [.int (nI 2), .ref (D.1 7), .int (nI 1), .ref (D.1 7)])) rfl ?_
      refine Zm_ald C it_Hs_dropOldest hD 7 14 rfl (by decide) rfl (by decide) (by decide) rfl (j := 2) (by omega) (v := .ref (D.1 (gs 2))) (hgs 2 (by decide)).1 ?_
      refine Zm_aast C it_Hs_dropOldest hD rfl (j := 1) rfl (by decide) (g := gs 2) (hgs 2 (by decide)).2.1 ?_
      refine Z_run C it_Hs_dropOldest 1 (f2 := (31, [some (.ref (D.1 6)), some (.ref (D.1 (gs 0))), some (.int (nI 2 + nI 1))], [])) rfl ?_
      rw [nI_add 2 1]
      refine Z_run C it_Hs_dropOldest 1 (f2 := (9, [some (.ref (D.1 6)), some (.ref (D.1 (gs 0))), some (.int (nI (2 + 1)))], [])) rfl ?_
      have e4 : nI (2 + 1) = nI 3 := rfl
      rw [e4]
      refine Z_run C it_Hs_dropOldest 2 (f2 := (11, [some (.ref (D.1 6)), some (.ref (D.1 (gs 0))), some (.int (nI 3))], [.int (nI 5), .int (nI 3)])) rfl ?_
      refine Z_br C it_Hs_dropOldest rfl rfl (fun hc3 => ?_) (fun hc3 => ?_)
      · exact absurd hc3 (by decide)
      · skip
        refine Z_run C it_Hs_dropOldest 1 (f2 := (15, [some (.ref (D.1 6)), some (.ref (D.1 (gs 0))), some (.int (nI 3))], [.ref (D.1 6)])) rfl ?_
        refine Zm_get C it_Hs_dropOldest hD rfl 6 wi_Hs (by decide) rfl rfl (j := 0) (by decide) fl_Hs_11 (v := .ref (D.1 7)) rfl ?_
        refine Z_run C it_Hs_dropOldest 3 (f2 := (21, [some (.ref (D.1 6)), some (.ref (D.1 (gs 0))), some (.int (nI 3))], [.int (nI 3 - nI 1), .ref (D.1 7)])) rfl ?_
        have e5 : nI 3 - nI 1 = nI 2 := by decide
        rw [e5]
        refine Z_run C it_Hs_dropOldest 1 (f2 := (22, [some (.ref (D.1 6)), some (.ref (D.1 (gs 0))), some (.int (nI 3))], [.ref (D.1 6), .int (nI 2), .ref (D.1 7)])) rfl ?_
        refine Zm_get C it_Hs_dropOldest hD rfl 6 wi_Hs (by decide) rfl rfl (j := 0) (by decide) fl_Hs_11 (v := .ref (D.1 7)) rfl ?_
        refine Z_run C it_Hs_dropOldest 1 (f2 := (26, [some (.ref (D.1 6)), some (.ref (D.1 (gs 0))), some (.int (nI 3))], [.int (nI 3), .ref (D.1 7), .int (nI 2), .ref (D.1 7)])) rfl ?_
        refine Zm_ald C it_Hs_dropOldest hD 7 14 rfl (by decide) rfl (by decide) (by decide) rfl (j := 3) (by omega) (v := .ref (D.1 (gs 3))) (hgs 3 (by decide)).1 ?_
        refine Zm_aast C it_Hs_dropOldest hD rfl (j := 2) rfl (by decide) (g := gs 3) (hgs 3 (by decide)).2.1 ?_
        refine Z_run C it_Hs_dropOldest 1 (f2 := (31, [some (.ref (D.1 6)), some (.ref (D.1 (gs 0))), some (.int (nI 3 + nI 1))], [])) rfl ?_
        rw [nI_add 3 1]
        refine Z_run C it_Hs_dropOldest 1 (f2 := (9, [some (.ref (D.1 6)), some (.ref (D.1 (gs 0))), some (.int (nI (3 + 1)))], [])) rfl ?_
        have e6 : nI (3 + 1) = nI 4 := rfl
        rw [e6]
        refine Z_run C it_Hs_dropOldest 2 (f2 := (11, [some (.ref (D.1 6)), some (.ref (D.1 (gs 0))), some (.int (nI 4))], [.int (nI 5), .int (nI 4)])) rfl ?_
        refine Z_br C it_Hs_dropOldest rfl rfl (fun hc4 => ?_) (fun hc4 => ?_)
        · exact absurd hc4 (by decide)
        · skip
          refine Z_run C it_Hs_dropOldest 1 (f2 := (15, [some (.ref (D.1 6)), some (.ref (D.1 (gs 0))), some (.int (nI 4))], [.ref (D.1 6)])) rfl ?_
          refine Zm_get C it_Hs_dropOldest hD rfl 6 wi_Hs (by decide) rfl rfl (j := 0) (by decide) fl_Hs_11 (v := .ref (D.1 7)) rfl ?_
          refine Z_run C it_Hs_dropOldest 3 (f2 := (21, [some (.ref (D.1 6)), some (.ref (D.1 (gs 0))), some (.int (nI 4))], [.int (nI 4 - nI 1), .ref (D.1 7)])) rfl ?_
          have e7 : nI 4 - nI 1 = nI 3 := by decide
          rw [e7]
          refine Z_run C it_Hs_dropOldest 1 (f2 := (22, [some (.ref (D.1 6)), some (.ref (D.1 (gs 0))), some (.int (nI 4))], [.ref (D.1 6), .int (nI 3), .ref (D.1 7)])) rfl ?_
          refine Zm_get C it_Hs_dropOldest hD rfl 6 wi_Hs (by decide) rfl rfl (j := 0) (by decide) fl_Hs_11 (v := .ref (D.1 7)) rfl ?_
          refine Z_run C it_Hs_dropOldest 1 (f2 := (26, [some (.ref (D.1 6)), some (.ref (D.1 (gs 0))), some (.int (nI 4))], [.int (nI 4), .ref (D.1 7), .int (nI 3), .ref (D.1 7)])) rfl ?_
          refine Zm_ald C it_Hs_dropOldest hD 7 14 rfl (by decide) rfl (by decide) (by decide) rfl (j := 4) (by omega) (v := .ref (D.1 (gs 4))) (hgs 4 (by decide)).1 ?_
          refine Zm_aast C it_Hs_dropOldest hD rfl (j := 3) rfl (by decide) (g := gs 4) (hgs 4 (by decide)).2.1 ?_
          refine Z_run C it_Hs_dropOldest 1 (f2 := (31, [some (.ref (D.1 6)), some (.ref (D.1 (gs 0))), some (.int (nI 4 + nI 1))], [])) rfl ?_
          rw [nI_add 4 1]
          refine Z_run C it_Hs_dropOldest 1 (f2 := (9, [some (.ref (D.1 6)), some (.ref (D.1 (gs 0))), some (.int (nI (4 + 1)))], [])) rfl ?_
          have e8 : nI (4 + 1) = nI 5 := rfl
          rw [e8]
          refine Z_run C it_Hs_dropOldest 2 (f2 := (11, [some (.ref (D.1 6)), some (.ref (D.1 (gs 0))), some (.int (nI 5))], [.int (nI 5), .int (nI 5)])) rfl ?_
          refine Z_br C it_Hs_dropOldest rfl rfl (fun hc5 => ?_) (fun hc5 => ?_)
          · skip
            refine Z_run C it_Hs_dropOldest 1 (f2 := (35, [some (.ref (D.1 6)), some (.ref (D.1 (gs 0))), some (.int (nI 5))], [.ref (D.1 6)])) rfl ?_
            refine Zm_get C it_Hs_dropOldest hD rfl 6 wi_Hs (by decide) rfl rfl (j := 0) (by decide) fl_Hs_11 (v := .ref (D.1 7)) rfl ?_
            refine Z_run C it_Hs_dropOldest 2 (f2 := (40, [some (.ref (D.1 6)), some (.ref (D.1 (gs 0))), some (.int (nI 5))], [.ref (D.1 (gs 0)), .int (nI 4), .ref (D.1 7)])) rfl ?_
            refine Zm_aast C it_Hs_dropOldest hD rfl (j := 4) rfl (by decide) (g := gs 0) (hgs 0 (by decide)).2.1 ?_
            refine Z_run C it_Hs_dropOldest 2 (f2 := (43, [some (.ref (D.1 6)), some (.ref (D.1 (gs 0))), some (.int (nI 5))], [.ref (D.1 6), .ref (D.1 6)])) rfl ?_
            refine Zm_get C it_Hs_dropOldest hD rfl 6 wi_Hs (by decide) rfl rfl (j := 1) (by decide) fl_Hs_15 (v := .int (nI n)) (congrArg Value.int hn) ?_
            refine Z_run C it_Hs_dropOldest 2 (f2 := (48, [some (.ref (D.1 6)), some (.ref (D.1 (gs 0))), some (.int (nI 5))], [.int (nI n - nI 1), .ref (D.1 6)])) rfl ?_
            have e9 : nI n - nI 1 = nI (n - 1) := nI_sub (by omega)
            rw [e9]
            refine Zm_put C it_Hs_dropOldest hD rfl 6 wi_Hs t_Hs t_Hs_ok n_Hs (by first | decide | omega) rfl rfl (j := 1) (by decide) fl_Hs_15 rfl rfl rfl rfl ?_
            exact Z_vret C q.e it_Hs_dropOldest rfl (zRet_vH rfl) (by decide) (by decide)
          · exact absurd hc5 (by decide)
/-- the memory behind remember -/
def rmV (V : Nat → Nat → Int32) (gs : Nat → Nat) (n : Nat) : Nat → Nat → Int32 := if n < 5 then vset (gcx V (gs n) 1) 6 1 (nI (n + 1)) else vset (gcx (vset V 6 1 (nI 4)) (gs 0) 1) 6 1 (nI 5)
def rmP (D : zD) (P : Nat → Nat → Value) (gs : Nat → Nat) (n : Nat) : Nat → Nat → Value := if n < 5 then pset P (gs n) 7 (P 1 7) else pset (prot D P gs) (gs 0) 7 (P 1 7)
def rsV (V : Nat → Nat → Int32) (gs : Nat → Nat) (n : Nat) : Nat → Nat → Int32 := if n = 0 then V else gcx (vset V 6 1 (nI (n - 1))) 1 (gs (n - 1))
def rsP (P : Nat → Nat → Value) (gs : Nat → Nat) (n : Nat) : Nat → Nat → Value := if n = 0 then P else pset P 1 7 (P (gs (n - 1)) 7)
theorem isG_i {g : Nat} (h : isG g) : zin g := by have := h.2.2.2.2.1; omega
set_option maxRecDepth 20000 in
theorem ct_Hs_remember {E : zE} (hE : zEv E) {l : Launch} (hl : l.stackTraces = false) {D : zD} (hD : zDok E D) (V : Nat → Nat → Int32) (P : Nat → Nat → Value) (PH : aH) (gs : Nat → Nat) (hgs : isH D P gs) (n : Nat) (hn : V 6 1 = nI n) (h5n : n ≤ 5) (h5 : V 1 5 = 0 ∨ V 1 5 = 1) (h7 : P 1 7 = .null ∨ ∃ q, P 1 7 = .ref q) (sz : Nat) : zM E l y_Hs_remember [.code y_Hs_remember c_Hs_remember 2 none] rm_Hs_remember [.ref (D.1 6), .ref (D.1 1)] (HM D V P PH) sz (zRet (none) (HM D (rmV V gs n) (rmP D P gs n) PH) sz) := by
  refine zM_of hE hl (by decide +kernel) [some (.ref (D.1 6)), some (.ref (D.1 1))] ⟨rfl, rfl, Nat.le_of_ble_eq_true rfl⟩ ?_
  intro G C q htb
  refine Z_run C it_Hs_remember 1 (f2 := (1, [some (.ref (D.1 6)), some (.ref (D.1 1))], [.ref (D.1 6)])) rfl ?_
  refine Zm_get C it_Hs_remember hD rfl 6 wi_Hs (by decide) rfl rfl (j := 1) (by decide) fl_Hs_15 (v := .int (nI n)) (congrArg Value.int hn) ?_
  refine Z_run C it_Hs_remember 1 (f2 := (5, [some (.ref (D.1 6)), some (.ref (D.1 1))], [.int (nI 5), .int (nI n)])) rfl ?_
  refine Z_br C it_Hs_remember rfl rfl (fun hc1 => ?_) (fun hc1 => ?_)
  · replace hc1 := (nI_ltI (a := n) (b := 5) (by omega) (by omega)).mp hc1
    refine Z_run C it_Hs_remember 1 (f2 := (13, [some (.ref (D.1 6)), some (.ref (D.1 1))], [.ref (D.1 6)])) rfl ?_
    refine Zm_get C it_Hs_remember hD rfl 6 wi_Hs (by decide) rfl rfl (j := 0) (by decide) fl_Hs_11 (v := .ref (D.1 7)) rfl ?_
    refine Z_run C it_Hs_remember 1 (f2 := (17, [some (.ref (D.1 6)), some (.ref (D.1 1))], [.ref (D.1 6), .ref (D.1 7)])) rfl ?_
    refine Zm_get C it_Hs_remember hD rfl 6 wi_Hs (by decide) rfl rfl (j := 1) (by decide) fl_Hs_15 (v := .int (nI n)) (congrArg Value.int hn) ?_
    have hgn := hgs n (by omega)
    have hgi := hgn.2.1.2.2.2.2.1
    have hg8 := hgn.2.2
    refine Zm_ald C it_Hs_remember hD 7 14 rfl (by decide) rfl (by decide) (by decide) rfl (j := n) (by omega) (v := .ref (D.1 (gs n))) hgn.1 ?_
    refine Z_run C it_Hs_remember 1 (f2 := (22, [some (.ref (D.1 6)), some (.ref (D.1 1))], [.ref (D.1 1), .ref (D.1 (gs n))])) rfl ?_
    have hX : (gcx V (gs n) 1) 6 1 = nI n := by rw [gcx_n (by omega) (by omega) (by omega) (by omega)]; exact hn
    refine Zr_callV C it_Hs_remember hD rfl p_Gm_copy ml_Hs_23 (gs n) (isG_i hgn.2.1) (hgn.2.1.1 _ _ _) rfl [.ref (D.1 1)] (ct_Gm_copy C.ev C.l hD V P _ (gs n) hgn.2.1 1 isG_1 (Or.inr (by omega)) h5 h7 _) rfl rfl ⟨by decide, by decide, by decide, by decide⟩ (Nat.le_of_ble_eq_true rfl) rfl ?_
    show Z E G (HM D (gcx V (gs n) 1) (pset P (gs n) 7 (P 1 7)) PH) sz 0 0 (25, [some (.ref (D.1 6)), some (.ref (D.1 1))], [])
    refine Z_run C it_Hs_remember 2 (f2 := (27, [some (.ref (D.1 6)), some (.ref (D.1 1))], [.ref (D.1 6), .ref (D.1 6)])) rfl ?_
    refine Zm_get C it_Hs_remember hD rfl 6 wi_Hs (by decide) rfl rfl (j := 1) (by decide) fl_Hs_15 (v := .int (nI n)) (congrArg Value.int hX) ?_
    refine Z_run C it_Hs_remember 2 (f2 := (32, [some (.ref (D.1 6)), some (.ref (D.1 1))], [.int (nI n + nI 1), .ref (D.1 6)])) rfl ?_
    rw [nI_add n 1]
    refine Zm_put C it_Hs_remember hD rfl 6 wi_Hs t_Hs t_Hs_ok n_Hs (by first | decide | omega) rfl rfl (j := 1) (by decide) fl_Hs_15 rfl rfl rfl rfl ?_
    exact Z_vret C q.e it_Hs_remember rfl (zRet_vH (by unfold rmV rmP; rw [if_pos hc1, if_pos hc1])) (by decide) (by decide)
  · replace hc1 : ¬ _ := fun z9 => hc1 ((nI_ltI (a := n) (b := 5) (by omega) (by omega)).mpr z9)
    refine Z_run C it_Hs_remember 1 (f2 := (9, [some (.ref (D.1 6)), some (.ref (D.1 1))], [.ref (D.1 6)])) rfl ?_
    refine Zr_callV C it_Hs_remember hD rfl p_Hs_dropOldest ml_Hs_20 6 (by decide) rfl rfl [] (ct_Hs_dropOldest C.ev C.l hD _ _ _ gs hgs n hn (by omega) _) rfl rfl ⟨by decide, by decide, by decide, by decide⟩ (Nat.le_of_ble_eq_true rfl) rfl ?_
    show Z E G (HM D (vset V 6 1 (nI (n - 1))) (prot D P gs) PH) sz 0 0 (12, [some (.ref (D.1 6)), some (.ref (D.1 1))], [])
    refine Z_run C it_Hs_remember 1 (f2 := (13, [some (.ref (D.1 6)), some (.ref (D.1 1))], [.ref (D.1 6)])) rfl ?_
    refine Zm_get C it_Hs_remember hD rfl 6 wi_Hs (by decide) rfl rfl (j := 0) (by decide) fl_Hs_11 (v := .ref (D.1 7)) rfl ?_
    refine Z_run C it_Hs_remember 1 (f2 := (17, [some (.ref (D.1 6)), some (.ref (D.1 1))], [.ref (D.1 6), .ref (D.1 7)])) rfl ?_
    refine Zm_get C it_Hs_remember hD rfl 6 wi_Hs (by decide) rfl rfl (j := 1) (by decide) fl_Hs_15 (v := .int (nI (n - 1))) rfl ?_
    have h5n : n = 5 := by omega
    subst h5n
    show Z E G (HM D (vset V 6 1 (nI 4)) (prot D P gs) PH) sz 0 0 (20, [some (.ref (D.1 6)), some (.ref (D.1 1))], [.int (nI 4), .ref (D.1 7)])
    have hgn := hgs 0 (by decide)
    have hgi := hgn.2.1.2.2.2.2.1
    have hg8 := hgn.2.2
    refine Zm_ald C it_Hs_remember hD 7 14 rfl (by decide) rfl (by decide) (by decide) rfl (j := 4) (by omega) (v := .ref (D.1 (gs 0))) rfl ?_
    refine Z_run C it_Hs_remember 1 (f2 := (22, [some (.ref (D.1 6)), some (.ref (D.1 1))], [.ref (D.1 1), .ref (D.1 (gs 0))])) rfl ?_
    have hX : (gcx (vset V 6 1 (nI 4)) (gs 0) 1) 6 1 = nI 4 := by rw [gcx_n (by omega) (by omega) (by omega) (by omega)]; rfl
    refine Zr_callV C it_Hs_remember hD rfl p_Gm_copy ml_Hs_23 (gs 0) (isG_i hgn.2.1) (hgn.2.1.1 _ _ _) rfl [.ref (D.1 1)] (ct_Gm_copy C.ev C.l hD (vset V 6 1 (nI 4)) (prot D P gs) _ (gs 0) hgn.2.1 1 isG_1 (Or.inr (by omega)) h5 h7 _) rfl rfl ⟨by decide, by decide, by decide, by decide⟩ (Nat.le_of_ble_eq_true rfl) rfl ?_
    show Z E G (HM D (gcx (vset V 6 1 (nI 4)) (gs 0) 1) (pset (prot D P gs) (gs 0) 7 (P 1 7)) PH) sz 0 0 (25, [some (.ref (D.1 6)), some (.ref (D.1 1))], [])
    refine Z_run C it_Hs_remember 2 (f2 := (27, [some (.ref (D.1 6)), some (.ref (D.1 1))], [.ref (D.1 6), .ref (D.1 6)])) rfl ?_
    refine Zm_get C it_Hs_remember hD rfl 6 wi_Hs (by decide) rfl rfl (j := 1) (by decide) fl_Hs_15 (v := .int (nI 4)) (congrArg Value.int hX) ?_
    refine Z_run C it_Hs_remember 2 (f2 := (32, [some (.ref (D.1 6)), some (.ref (D.1 1))], [.int (nI 4 + nI 1), .ref (D.1 6)])) rfl ?_
    rw [nI_add 4 1]
    refine Zm_put C it_Hs_remember hD rfl 6 wi_Hs t_Hs t_Hs_ok n_Hs (by first | decide | omega) rfl rfl (j := 1) (by decide) fl_Hs_15 rfl rfl rfl rfl ?_
    exact Z_vret C q.e it_Hs_remember rfl (zRet_vH (by unfold rmV rmP; rw [if_neg (show ¬ 5 < 5 by decide), if_neg (show ¬ 5 < 5 by decide)])) (by decide) (by decide)

