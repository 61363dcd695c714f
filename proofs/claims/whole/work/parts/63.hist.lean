/-! ===== what the calls owe: the past ===== -/
theorem recM_2 {V : Nat → Nat → Int32} {n : Nat} (hn : n ≤ 5) : recM V n 37 2 = nI (if n < 5 then n + 1 else 5) := by
  unfold recM
  by_cases h : n = 5
  · subst h
    rfl
  · rw [if_neg h, if_pos (show n < 5 by omega)]
    unfold recB
    rw [vrd_s]
theorem recM_39 {V V2 : Nat → Nat → Int32} {n : Nat} (h8 : V2 38 = V 38) (h9 : V2 39 = V 39) : recM V2 n 39 = recM V n 39 := by
  unfold recM
  split
  · unfold recB recA
    rw [vset_n (by decide), vrow_s, vset_n (by decide), vrow_s, vset_n (by decide), vrow_n (by decide), vset_n (by decide), vrow_s, vset_n (by decide), vrow_s, vset_n (by decide), vrow_n (by decide), h8, h9]
  · unfold recB
    rw [vset_n (by decide), vrow_s, vset_n (by decide), vrow_s, h8, h9]
theorem recM_n {V : Nat → Nat → Int32} {n : Nat} (hn : n < 5) : recM V n 39 = rcp (V 39) (V 38) (n * 60) 0 60 := by
  unfold recM
  rw [if_neg (by omega)]
  unfold recB
  rw [vset_n (by decide), vrow_s]
theorem recM_5 {V : Nat → Nat → Int32} : recM V 5 39 = rcp (rcp (V 39) (V 39) 0 60 240) (V 38) (4 * 60) 0 60 := by
  unfold recM
  rw [if_pos rfl]
  unfold recB recA
  rw [vset_n (by decide), vrow_s, vset_n (by decide), vrow_s, vset_n (by decide), vrow_n (by decide)]
theorem blk_o {r src : Nat → Int32} {o p i k : Nat} (ho : i ≠ o) (hk : k < 60) : blk (rcp r src (o * 60) p 60) i k = blk r i k := by
  unfold blk rcp
  rw [if_neg (by omega)]
theorem blk_s {r src : Nat → Int32} {o k : Nat} (hk : k < 60) : blk (rcp r src (o * 60) 0 60) o k = src k := by
  unfold blk rcp
  rw [if_pos (by omega)]
  congr 1
  omega
theorem blk_f {r : Nat → Int32} {i k : Nat} (hi : i < 4) (hk : k < 60) : blk (rcp r r 0 60 240) i k = blk r (i + 1) k := by
  unfold blk rcp
  rw [if_pos (by omega)]
  congr 1
  omega
theorem chn_mono {PH PH2 : aH} (h : ∀ q c, PH q = some c → PH2 q = some c) : ∀ {L : List zPos} {v : Value}, chn PH v L → chn PH2 v L := by
  intro L
  induction L with
  | nil => exact fun h2 => h2
  | cons p L ih =>
    intro v h2
    obtain ⟨q, v2, e, h3, h4, h5⟩ := h2
    exact ⟨q, v2, e, h _ _ h3, h4, ih h5⟩
theorem HR_ext {PH PH2 : aH} {r39 s39 r40 s40 : Nat → Int32} {H : List zGm} {md : Nat} (h : HR PH r39 r40 H md) (hPH : ∀ q c, PH q = some c → PH2 q = some c) (h9 : s39 = r39) (h0 : ∀ k, k < md → s40 k = r40 k) {md2 : Nat} (hm : md ≤ md2) : HR PH2 s39 s40 H md2 := by
  obtain ⟨hm9, h1, h2, h3⟩ := h
  refine ⟨hm9, fun i hi => Nat.le_trans (h1 i hi) hm, h2, fun i y hy => ⟨chn_mono hPH (h3 i y hy).1, ?_⟩⟩
  have hi := (List.getElem?_eq_some_iff.mp hy).1
  have := h1 i hi
  rw [h9]
  exact RS_ext (h3 i y hy).2 (fun _ _ => rfl) (fun k hk => h0 k (by omega))
theorem HR_psh {PH : aH} {V : Nat → Nat → Int32} {H : List zGm} {md : Nat} {x : zGm} (h : HR PH (V 39) (V 40) H md) (hl : H.length ≤ 5) (hch : chn PH (zGm.lv x) (zGm.L x)) (hr : RS x (V 38) (V 40) md) : HR PH (recM V H.length 39) (V 40) (psh H x) md := by
  obtain ⟨hm, h1, h2, h3⟩ := h
  have hlen := psh_len (g := x) hl
  by_cases hn : H.length < 5
  · rw [if_pos hn] at hlen
    refine ⟨fun i => if i < H.length then hm i else md, ?_, ?_, ?_⟩
    · intro i hi
      dsimp only
      split
      · next h9 => exact h1 i h9
      · exact Nat.le_refl _
    · intro i j hij hj
      dsimp only
      by_cases g1 : j < H.length
      · rw [if_pos g1, if_pos (by omega)]
        exact h2 i j hij g1
      · rw [if_neg g1]
        split
        · next g2 => exact h1 i g2
        · exact Nat.le_refl _
    · intro i y hy
      unfold psh at hy
      rw [if_pos hn] at hy
      rw [recM_n hn]
      by_cases hi : i < H.length
      · rw [List.getElem?_append_left hi] at hy
        dsimp only
        rw [if_pos hi]
        exact ⟨(h3 i y hy).1, RS_ext (h3 i y hy).2 (fun k hk => blk_o (by omega) (by omega)) (fun _ _ => rfl)⟩
      · rw [List.getElem?_append_right (by omega)] at hy
        have hi2 : i = H.length := by
          by_cases e : i - H.length = 0
          · omega
          · rw [List.getElem?_eq_none_iff.mpr (by show 1 ≤ i - H.length; omega)] at hy
            cases hy
        subst hi2
        rw [Nat.sub_self] at hy
        cases hy
        dsimp only
        rw [if_neg (by omega)]
        exact ⟨hch, RS_ext hr (fun k hk => blk_s (by omega)) (fun _ _ => rfl)⟩
  · have h5 : H.length = 5 := by omega
    rw [if_neg hn] at hlen
    rw [h5, recM_5]
    refine ⟨fun i => if i < 4 then hm (i + 1) else md, ?_, ?_, ?_⟩
    · intro i hi
      dsimp only
      split
      · next h9 => exact h1 _ (by omega)
      · exact Nat.le_refl _
    · intro i j hij hj
      dsimp only
      by_cases g1 : j < 4
      · rw [if_pos g1, if_pos (by omega)]
        exact h2 _ _ (by omega) (by omega)
      · rw [if_neg g1]
        split
        · next g2 => exact h1 _ (by omega)
        · exact Nat.le_refl _
    · intro i y hy
      unfold psh at hy
      rw [if_neg hn] at hy
      by_cases hi : i < 4
      · rw [List.getElem?_append_left (by rw [List.length_tail]; omega), List.getElem?_tail] at hy
        dsimp only
        rw [if_pos hi]
        exact ⟨(h3 _ y hy).1, RS_ext (h3 _ y hy).2 (fun k hk => by rw [blk_o (by omega) (by omega), blk_f hi (by omega)]) (fun _ _ => rfl)⟩
      · rw [List.getElem?_append_right (by rw [List.length_tail]; omega), List.length_tail] at hy
        have hi2 : i = 4 := by
          by_cases e : i - (H.length - 1) = 0
          · omega
          · rw [List.getElem?_eq_none_iff.mpr (by show 1 ≤ i - (H.length - 1); omega)] at hy
            cases hy
        subst hi2
        rw [h5] at hy
        cases hy
        dsimp only
        rw [if_neg (by omega)]
        exact ⟨hch, RS_ext hr (fun k hk => blk_s (by omega)) (fun _ _ => rfl)⟩
/-- behind a call that remembers the game first -/
theorem SIM_rec {D : zD} {V V3 W : Nat → Nat → Int32} {P P3 Q : Nat → Nat → Value} {PH PH3 : aH} {s3 nc md md3 n9 : Nat} {L L3 : List zPos} {H : List zGm} {gs2 : Nat → Nat} {T : Nat → Nat}
    (hP3 : okP D PH3) (hS3 : okS D PH3 s3) (hm9 : ∀ q c, PH q = some c → PH3 q = some c)
    (hch : chn PH (P 1 7) L) (hR : RS (V 1, V 3, V 4, V 5, P 1 7, L) (V 38) (V 40) md) (hl : H.length ≤ 5) (hHm : HR PH (V 39) (V 40) H md)
    (hH2 : atH D W Q (psh H (V 1, V 3, V 4, V 5, P 1 7, L)) gs2) (hVW : ∀ c, 6 ≤ c → c ≤ 32 → V3 c = W c) (hPQ : ∀ c, 7 ≤ c → c ≤ 28 → P3 c = Q c)
    (hT : okT V T) (hU : okU V T) (h33 : V 33 1 = nI n9) (h37 : V 37 7 = nI n9) (h60 : n9 ≤ 60)
    (e33 : V3 33 = V 33) (e34 : V3 34 = V 34) (e43 : V3 43 = V 43) (e39 : V3 39 = recM V H.length 39) (e2 : V3 37 2 = recM V H.length 37 2) (e7 : V3 37 7 = V 37 7) (e40 : ∀ k, k < md → V3 40 k = V 40 k)
    (hch3 : chn PH3 (P3 1 7) L3) (hR3 : RS (V3 1, V3 3, V3 4, V3 5, P3 1 7, L3) (V3 38) (V3 40) md3) (hmd : md ≤ md3) (hmd3 : md3 ≤ 12 * (nc + 1)) : SIM D V3 P3 PH3 s3 (nc + 1) := by
  refine ⟨hP3, hS3, L3, md3, _, gs2, T, n9, hch3, hR3, hmd3, atH_fr hH2 hVW hPQ, ?_, ?_, fun k hk => by rw [e34]; exact hT k hk, fun k hk => by rw [e43]; exact hU k hk, by rw [e33]; exact h33, by rw [e7]; exact h37, h60⟩
  · rw [e2, recM_2 hl, psh_len hl]
  · exact HR_ext (HR_psh hHm hl hch hR) hm9 e39 e40 hmd
