/-! the model's row behind a move, place by place -/
theorem mvR_o {r : Nat → Int32} {F mv : Nat → Nat} {tn md bs a b j : Nat} (h7 : j ≠ 37) (h8 : j ≠ 38) : mvR r F mv tn md bs a b j = mvZ r F tn md bs a b j := by
  unfold mvR
  generalize (if F b = 0 then bs else md + 1) = B
  split
  · rw [upd_n h8, upd_n h7]
  · split
    · rw [upd_n h7]
    · rfl
theorem mvZ_o {r : Nat → Int32} {F : Nat → Nat} {tn md bs a b j : Nat} (ha : a < 36) (hb : b < 36) (h : 36 ≤ j) (h1 : j ≠ 44 + tn) (h2 : j ≠ 46 + tn) (h3 : j ≠ 40) (h4 : j ≠ 41) (h5 : j ≠ 39) : mvZ r F tn md bs a b j = r j := by
  unfold mvZ
  rw [upd_n h5, upd_n h4, upd_n h3, upd_n (by omega), upd_n h2, upd_n (by omega), upd_n h1]
theorem mvZ_44 {r : Nat → Int32} {F : Nat → Nat} {tn md bs a b : Nat} (ha : a < 36) (hb : b < 36) (ht : tn < 2) : mvZ r F tn md bs a b (44 + tn) = r (44 + tn) + nI (wr (F b)) := by
  unfold mvZ
  rw [upd_n (by omega), upd_n (by omega), upd_n (by omega), upd_n (by omega), upd_n (by omega), upd_n (by omega), upd_s]
theorem mvZ_46 {r : Nat → Int32} {F : Nat → Nat} {tn md bs a b : Nat} (ha : a < 36) (hb : b < 36) (ht : tn < 2) : mvZ r F tn md bs a b (46 + tn) = r (46 + tn) + (nI (wr (lra (F a) (F b))) - nI (wr (F a))) := by
  unfold mvZ
  rw [upd_n (by omega), upd_n (by omega), upd_n (by omega), upd_n (by omega), upd_s, upd_n (by omega), upd_n (by omega)]
theorem mvZ_40 {r : Nat → Int32} {F : Nat → Nat} {tn md bs a b : Nat} : mvZ r F tn md bs a b 40 = nI (md + 1) := by
  unfold mvZ
  rw [upd_n (by decide), upd_n (by decide), upd_s]
theorem mvZ_41 {r : Nat → Int32} {F : Nat → Nat} {tn md bs a b : Nat} : mvZ r F tn md bs a b 41 = nI (if F b = 0 then bs else md + 1) := by
  unfold mvZ
  rw [upd_n (by decide), upd_s]
theorem mvZ_39 {r : Nat → Int32} {F : Nat → Nat} {tn md bs a b : Nat} : mvZ r F tn md bs a b 39 = nI (1 - tn) := by
  unfold mvZ
  rw [upd_s]
/-! the class's rows behind a move -/
theorem mvC_F {W : Nat → Nat → Int32} {L : List zPos} {tn md : Nat} {ch : Option Nat} {a b : Nat} (hF : okF (bF W 2)) (ha : a < 36) : bF (mvC W L tn md ch a b) 2 = mvF (bF W 2) a b := by
  rw [← bF_mv (tn := tn) (md := md) (ld := ldr (bF W 2 b)) hF ha]
  funext k
  rfl
theorem mvC_14 {W : Nat → Nat → Int32} {L : List zPos} {tn md : Nat} {ch : Option Nat} {a b : Nat} : mvC W L tn md ch a b 1 4 = nI (md + 1) ∧ mvC W L tn md ch a b 1 3 = nI (1 - tn) ∧ mvC W L tn md ch a b 1 5 = bI (ovr (if ldr (bF W 2 b) then some tn else ch) (n1t (1 - tn) (mvF (bF W 2) a b) L) (mvs (mvF (bF W 2) a b) (1 - tn) 36)) := ⟨rfl, rfl, rfl⟩
theorem mvC_16 {W : Nat → Nat → Int32} {L : List zPos} {tn md : Nat} {ch : Option Nat} {a b : Nat} : mvC W L tn md ch a b 1 6 = if ldr (bF W 2 b) then nI tn else W 1 6 := by
  unfold mvC mvV
  cases ldr (bF W 2 b) <;> rfl
theorem mvC_4 {W : Nat → Nat → Int32} {L : List zPos} {tn md : Nat} {ch : Option Nat} {a b : Nat} : mvC W L tn md ch a b 4 = upd (upd (W 4) tn (W 4 tn + nI (wst (lrn (bF W 2 a) (bF W 2 b))))) (1 - tn) (upd (W 4) tn (W 4 tn + nI (wst (lrn (bF W 2 a) (bF W 2 b)))) (1 - tn) - nI (wr (bF W 2 b))) := by
  unfold mvC mvV
  cases ldr (bF W 2 b) <;> rfl
theorem mvC_5 {W : Nat → Nat → Int32} {L : List zPos} {tn md : Nat} {ch : Option Nat} {a b : Nat} : mvC W L tn md ch a b 5 = upd (W 5) tn (W 5 tn + nI (wr (bF W 2 b))) := by
  unfold mvC mvV
  cases ldr (bF W 2 b) <;> rfl
theorem mvC_o {W : Nat → Nat → Int32} {L : List zPos} {tn md : Nat} {ch : Option Nat} {a b c : Nat} (hc : 6 ≤ c) : mvC W L tn md ch a b c = W c := by
  unfold mvC mvV mvB
  rw [vset_n (by omega), vset_n (by omega), vset_n (by omega), vset_n (by omega), vset_n (by omega)]
  cases ldr (bF W 2 b)
  · show mvA W a b tn c = W c
    unfold mvA
    rw [vset_n (by omega), vset_n (by omega), vset_n (by omega)]
  · show vset (mvA W a b tn) 1 6 (nI tn) c = W c
    rw [vset_n (by omega)]
    unfold mvA
    rw [vset_n (by omega), vset_n (by omega), vset_n (by omega)]
theorem RSc_move {W : Nat → Nat → Int32} {lv lv2 : Value} {L : List zPos} {z ms : Nat → Int32} {Bd : Nat → Nat → Nat} {mv : Nat → Nat} {tn md bs : Nat} {ov st : Bool} {ch : Option Nat} (h : RSc (W 1, W 3, W 4, W 5, lv, L) z ms Bd mv tn md bs ov st ch) {a b : Nat} (ha : a < 36) (hb : b < 36) (hw : whm st ov (bF W 2) tn a b = 0) :
    RSc (mvC W L tn md ch a b 1, mvC W L tn md ch a b 3, mvC W L tn md ch a b 4, mvC W L tn md ch a b 5, lv2, mvL W L tn a b) (mvR z (bF W 2) mv tn md bs a b) (upd ms md (nI (36 * a + b))) (fun i => if i = md + 1 then mvF (bF W 2) a b else Bd i) (mvX mv md a b) (1 - tn) (md + 1) (if bF W 2 b = 0 then bs else md + 1) (ovr (if ldr (bF W 2 b) then some tn else ch) (n1t (1 - tn) (mvF (bF W 2) a b) L) (mvs (mvF (bF W 2) a b) (1 - tn) 36)) true (if ldr (bF W 2 b) then some tn else ch) := by
  have hh := h
  obtain ⟨⟨a1, a2, a3, a4⟩, ⟨b1, b2, b3⟩, ⟨c1, c2⟩, ⟨d1, d2⟩, ⟨e1, e2, e3, e4⟩, ⟨f1, f2⟩, ⟨g1, g2⟩, ⟨i1, i2⟩, jm, ac⟩ := h
  have hF : okF (bF W 2) := a1
  obtain ⟨h0, hab⟩ := whm_0 hw
  have hst : st = true := by
    cases st with
    | true => rfl
    | false => unfold whm at hw; cases hw
  have hov : ov = false := by
    cases ov with
    | false => rfl
    | true => rw [hst] at hw; unfold whm at hw; cases hw
  subst hst
  subst hov
  have hch : ch = none := e4 rfl
  subst hch
  obtain ⟨gL, gt⟩ := g2 rfl
  have gL : L = trL Bd md := gL
  have hFe : bF (mvC W L tn md none a b) 2 = mvF (bF W 2) a b := mvC_F hF ha
  have hB1 : (fun i => if i = md + 1 then mvF (bF W 2) a b else Bd i) (md + 1) = mvF (bF W 2) a b := if_pos rfl
  have hBo : ∀ i, i ≤ md → (fun i => if i = md + 1 then mvF (bF W 2) a b else Bd i) i = Bd i := fun i hi => if_neg (by omega)
  have hTR : TRm (fun i => if i = md + 1 then mvF (bF W 2) a b else Bd i) (mvX mv md a b) (md + 1) (if bF W 2 b = 0 then bs else md + 1) := by
    obtain ⟨t1, t2, t3, t4, t5⟩ := i2
    have hBm : Bd md = bF W 2 := i1
    refine ⟨fun i => ?_, fun m hm => ?_, ?_, fun m h1 h2 => ?_, ?_⟩
    · dsimp only
      split
      · exact okF_mv hF ha
      · exact t1 i
    · by_cases e : m = md
      · subst e
        have ex : mvX mv m a b m = 36 * a + b := if_pos rfl
        rw [ex, show (36 * a + b) / 36 = a by omega, show (36 * a + b) % 36 = b by omega]
        dsimp only
        rw [if_neg (by omega), if_pos rfl, hBm]
        exact ⟨by omega, hab, h0, rfl⟩
      · have ex : mvX mv md a b m = mv m := if_neg e
        rw [ex]
        dsimp only
        rw [if_neg (by omega), if_neg (by omega)]
        exact t2 m (by omega)
    · split <;> omega
    · by_cases e : bF W 2 b = 0
      · rw [if_pos e] at h1
        by_cases em : m = md
        · subst em
          have ex : mvX mv m a b m = 36 * a + b := if_pos rfl
          rw [ex, show (36 * a + b) % 36 = b by omega]
          dsimp only
          rw [if_neg (by omega), hBm]
          exact e
        · have ex : mvX mv md a b m = mv m := if_neg em
          rw [ex]
          dsimp only
          rw [if_neg (by omega)]
          exact t4 m h1 (by omega)
      · rw [if_neg e] at h1
        omega
    · by_cases e : bF W 2 b = 0
      · rw [if_pos e]
        rcases t5 with t5 | t5
        · exact Or.inl t5
        · by_cases hb0 : bs = 0
          · exact Or.inl hb0
          · refine Or.inr ?_
            have ex : mvX mv md a b (bs - 1) = mv (bs - 1) := if_neg (by omega)
            rw [ex]
            dsimp only
            rw [if_neg (by omega)]
            exact t5
      · rw [if_neg e]
        refine Or.inr ?_
        rw [show md + 1 - 1 = md by omega]
        have ex : mvX mv md a b md = 36 * a + b := if_pos rfl
        rw [ex, show (36 * a + b) % 36 = b by omega]
        dsimp only
        rw [if_neg (by omega), hBm]
        exact e
  have hLx : trL (fun i => if i = md + 1 then mvF (bF W 2) a b else Bd i) md = L := by rw [gL]; exact trL_ext hBo
  have htm : tmM (mvF (bF W 2) a b) (mvX mv md a b) (md + 1) (if bF W 2 b = 0 then bs else md + 1) = n1t (1 - tn) (mvF (bF W 2) a b) L := by
    have := tmM_n1t hTR
    rw [hLx] at this
    try dsimp only at this
    rw [if_pos rfl] at this
    rw [this, show (md + 1) % 2 = 1 - tn by omega]
  have hz38 : mvR z (bF W 2) mv tn md bs a b 38 = oI (if ldr (bF W 2 b) then some tn else none) := by
    unfold mvR
    have hff : ¬ (false = true) := by decide
    have htt : true = true := rfl
    generalize (if bF W 2 b = 0 then bs else md + 1) = B
    cases ldr (bF W 2 b) with
    | true => rw [if_pos htt, if_pos htt, upd_s]; rfl
    | false =>
      rw [if_neg hff, if_neg hff]
      have e9 : mvZ z (bF W 2) tn md bs a b 38 = z 38 := mvZ_o ha hb (by decide) (by omega) (by omega) (by decide) (by decide) (by decide)
      split
      · rw [upd_n (by decide), e9]; exact e2
      · rw [e9]; exact e2
  have hz37 : mvR z (bF W 2) mv tn md bs a b 37 = bI (ovr (if ldr (bF W 2 b) then some tn else none) (n1t (1 - tn) (mvF (bF W 2) a b) L) (mvs (mvF (bF W 2) a b) (1 - tn) 36)) := by
    unfold mvR
    rw [htm, mvs_mvo (okF_mv hF ha)]
    have hff : ¬ (false = true) := by decide
    have htt : true = true := rfl
    cases ldr (bF W 2 b) with
    | true => rw [if_pos htt, if_pos htt, upd_n (by decide), upd_s]; rfl
    | false =>
      rw [if_neg hff, if_neg hff]
      have e9 : mvZ z (bF W 2) tn md bs a b 37 = z 37 := mvZ_o ha hb (by decide) (by omega) (by omega) (by decide) (by decide) (by decide)
      unfold ovr
      by_cases h1 : mvs (mvF (bF W 2) a b) (1 - tn) 36 = 0
      · rw [if_pos (Or.inl h1), upd_s, h1]
        cases decide (3 ≤ n1t (1 - tn) (mvF (bF W 2) a b) L) <;> rfl
      · by_cases h2 : n1t (1 - tn) (mvF (bF W 2) a b) L ≤ 2
        · rw [if_neg (by rintro (q | q); exact h1 q; exact q h2), e9, d2]
          have g5 : decide (3 ≤ n1t (1 - tn) (mvF (bF W 2) a b) L) = false := decide_eq_false (by omega)
          have g6 : (mvs (mvF (bF W 2) a b) (1 - tn) 36 == 0) = false := by simp [h1]
          rw [g5, g6]
          rfl
        · rw [if_pos (Or.inr h2), upd_s]
          have g5 : decide (3 ≤ n1t (1 - tn) (mvF (bF W 2) a b) L) = true := decide_eq_true (by omega)
          rw [g5]
          rfl
  obtain ⟨q1, q2, q3⟩ := mvC_14 (W := W) (L := L) (tn := tn) (md := md) (ch := none) (a := a) (b := b)
  refine ⟨⟨?_, fun k hk => ?_, ?_, fun s hs => ?_⟩, ⟨by omega, q2, ?_⟩, ⟨q1, ?_⟩, ⟨q3, hz37⟩, ⟨?_, hz38, fun k hk => ?_, fun hq => ?_⟩, ⟨?_, ?_⟩, ⟨fun hq => (by cases hq), fun _ => ⟨?_, by omega⟩⟩, ⟨?_, hTR⟩, fun m hm => ?_, fun s hs => ?_⟩
  · show okF (bF (mvC W L tn md none a b) 2)
    rw [hFe]; exact okF_mv hF ha
  · rw [mvR_o (by omega) (by omega)]
    show _ = nI (mo (bF (mvC W L tn md none a b) 2 k))
    rw [hFe]
    exact mvZ_b a2 ha hb hab k hk
  · show one_ (bF (mvC W L tn md none a b) 2)
    rw [hFe]; exact one_mv hF a3 ha hb hab h0
  · show cnt (fun k => hld (bF (mvC W L tn md none a b) 2) k s) 36 ≤ 8
    rw [hFe]
    exact Nat.le_trans (cnt_mv hF ha hb hab h0 s) (a4 s hs)
  · rw [mvR_o (by decide) (by decide), mvZ_39]
  · rw [mvR_o (by decide) (by decide), mvZ_40]
  · show mvC W L tn md none a b 1 6 = _
    rw [mvC_16]
    cases ldr (bF W 2 b) with
    | true => rfl
    | false => exact e1
  · cases hl : ldr (bF W 2 b) with
    | true => rw [hl, if_pos rfl] at hk; cases hk; exact b1
    | false => rw [hl, if_neg (by decide)] at hk; cases hk
  · cases hl : ldr (bF W 2 b) with
    | true => rw [hl] at hq; cases hq
    | false => rfl
  · rw [mvR_o (by decide) (by decide), mvZ_o ha hb (by decide) (by omega) (by omega) (by decide) (by decide) (by decide)]
    exact f1
  · rw [mvR_o (by decide) (by decide), mvZ_41]
  · show mvL W L tn a b = _
    unfold trL
    rw [hLx]
    rw [if_pos rfl]
    unfold mvL
    rw [show (md + 1) % 2 = 1 - tn by omega]
  · show _ = bF (mvC W L tn md none a b) 2
    rw [hFe]
    exact if_pos rfl
  · exact mvX_r jm m hm
  · show mvC W L tn md none a b 4 s = _ ∧ mvC W L tn md none a b 5 s = _
    rw [mvC_4, mvC_5]
    have hw2 := (lra_tb _ (hF a ha) _ (hF b hb)).2
    by_cases es : s = tn
    · subst es
      obtain ⟨ac1, ac2⟩ := ac s hs
      have ac1 : W 4 s = z (42 + s) - z (45 - s) + z (46 + s) := ac1
      have ac2 : W 5 s = z (44 + s) := ac2
      rw [upd_n (by omega), upd_s, upd_s, mvR_o (by omega) (by omega), mvR_o (by omega) (by omega), mvR_o (by omega) (by omega), mvR_o (by omega) (by omega), mvZ_46 ha hb b1, mvZ_44 ha hb b1, mvZ_o ha hb (by omega) (by omega) (by omega) (by omega) (by omega) (by omega), mvZ_o ha hb (by omega) (by omega) (by omega) (by omega) (by omega) (by omega), hw2, ac1, ac2, ← nI_add]
      refine ⟨?_, rfl⟩
      grind
    · have es2 : s = 1 - tn := by omega
      obtain ⟨ac1, ac2⟩ := ac s hs
      have ac1 : W 4 s = z (42 + s) - z (45 - s) + z (46 + s) := ac1
      have ac2 : W 5 s = z (44 + s) := ac2
      have e45 : 45 - s = 44 + tn := by omega
      rw [← es2, upd_s, upd_n es, upd_n es, mvR_o (by omega) (by omega), mvR_o (by omega) (by omega), mvR_o (by omega) (by omega), mvR_o (by omega) (by omega), e45, mvZ_44 ha hb b1, mvZ_o ha hb (by omega) (by omega) (by omega) (by omega) (by omega) (by omega), mvZ_o ha hb (by omega) (by omega) (by omega) (by omega) (by omega) (by omega), mvZ_o ha hb (by omega) (by omega) (by omega) (by omega) (by omega) (by omega), ac1, ac2, e45]
      refine ⟨?_, rfl⟩
      grind
