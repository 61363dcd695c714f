/-! ===== the class's state ===== -/
/-- a game: the rows of its fields, its squares, its accounts, what was taken, its latest position, its positions -/
abbrev zGm : Type := (Nat → Int32) × (Nat → Int32) × (Nat → Int32) × (Nat → Int32) × Value × List zPos
abbrev zGm.f (x : zGm) : Nat → Int32 := x.1
abbrev zGm.b (x : zGm) : Nat → Int32 := x.2.1
abbrev zGm.a (x : zGm) : Nat → Int32 := x.2.2.1
abbrev zGm.k (x : zGm) : Nat → Int32 := x.2.2.2.1
abbrev zGm.lv (x : zGm) : Value := x.2.2.2.2.1
abbrev zGm.L (x : zGm) : List zPos := x.2.2.2.2.2
def zGm.F (x : zGm) : Nat → Nat := fun k => pn ((zGm.b x) k)
def atG (V : Nat → Nat → Int32) (P : Nat → Nat → Value) (g : Nat) (x : zGm) : Prop := V g = (zGm.f x) ∧ V (g + 1 + 1) = (zGm.b x) ∧ V (g + 3) = (zGm.a x) ∧ V (g + 4) = (zGm.k x) ∧ P g 7 = (zGm.lv x)
def okG (PH : aH) (x : zGm) : Prop := okF (zGm.F x) ∧ (∃ t, t < 2 ∧ (zGm.f x) 3 = nI t) ∧ (∃ ov, (zGm.f x) 5 = bI ov) ∧ (∃ ch : Option Nat, (zGm.f x) 6 = oI ch ∧ ∀ k, ch = some k → k < 2) ∧ chn PH (zGm.lv x) (zGm.L x) ∧ ∀ t F, n1t t F (zGm.L x) ≤ (zGm.L x).length + 1
def atH (D : zD) (V : Nat → Nat → Int32) (P : Nat → Nat → Value) (H : List zGm) (gs : Nat → Nat) : Prop := isH D P gs ∧ (∀ i, i < 5 → gs i ≤ 28) ∧ (∀ i j, i < 5 → j < 5 → i ≠ j → gs i + 5 ≤ gs j ∨ gs j + 5 ≤ gs i) ∧ V 6 1 = nI H.length ∧ H.length ≤ 5 ∧ ∀ i y, H[i]? = some y → atG V P (gs i) y
abbrev zXs : Type := zGm × List zGm × (Nat → Nat) × Nat
def psh (h : List zGm) (g : zGm) : List zGm := if h.length < 5 then h ++ [g] else h.tail ++ [g]
theorem atG_fr {V V2 : Nat → Nat → Int32} {P P2 : Nat → Nat → Value} {g : Nat} {x : zGm} (h : atG V P g x) (h0 : V2 g = V g) (h2 : V2 (g + 1 + 1) = V (g + 1 + 1)) (h3 : V2 (g + 3) = V (g + 3)) (h4 : V2 (g + 4) = V (g + 4)) (h7 : P2 g 7 = P g 7) : atG V2 P2 g x :=
  ⟨h0.trans h.1, h2.trans h.2.1, h3.trans h.2.2.1, h4.trans h.2.2.2.1, h7.trans h.2.2.2.2⟩
theorem gcx_r {V : Nat → Nat → Int32} {g u : Nat} (hgu : g + 5 ≤ u ∨ u + 5 ≤ g) : gcx V g u g = V u ∧ gcx V g u (g + 1 + 1) = V (u + 1 + 1) ∧ gcx V g u (g + 3) = V (u + 3) ∧ gcx V g u (g + 4) = V (u + 4) := by
  unfold gcx
  refine ⟨?_, ?_, ?_, ?_⟩
  · rw [vcx_n (by omega), vcx_n (by omega), vcx_n (by omega), vcx_s]
  · rw [vcx_n (by omega), vcx_n (by omega), vcx_s]
    rw [vcx_n (by omega)]
  · rw [vcx_n (by omega), vcx_s, vcx_n (by omega), vcx_n (by omega)]
  · rw [vcx_s, vcx_n (by omega), vcx_n (by omega), vcx_n (by omega)]
theorem psh_len {h : List zGm} {g : zGm} (hl : h.length ≤ 5) : (psh h g).length = if h.length < 5 then h.length + 1 else 5 := by
  unfold psh
  split
  · rw [List.length_append]; rfl
  · rw [List.length_append, List.length_tail]
    show h.length - 1 + 1 = 5
    omega
def rotg (gs : Nat → Nat) : Nat → Nat := fun k => if k = 4 then gs 0 else gs (k + 1)
theorem psh_H {D : zD} {V : Nat → Nat → Int32} {P : Nat → Nat → Value} {h : List zGm} {gs : Nat → Nat} {g : zGm} (hH : atH D V P h gs) (hg : atG V P 1 g) : ∃ gs2, atH D (rmV V gs h.length) (rmP D P gs h.length) (psh h g) gs2 ∧ (∀ c, c < 6 ∨ 33 ≤ c → rmV V gs h.length c = V c) ∧ (∀ c, c < 6 ∨ 33 ≤ c → rmP D P gs h.length c = P c) := by
  obtain ⟨h1, h2, h3, h4, h5, h6⟩ := hH
  by_cases hn : h.length < 5
  · have q := h1 h.length hn
    have q2 := h2 h.length hn
    have q8 := q.2.2
    have r := gcx_r (V := V) (g := gs h.length) (u := 1) (Or.inr (by omega))
    have eV : rmV V gs h.length = vset (gcx V (gs h.length) 1) 6 1 (nI (h.length + 1)) := by unfold rmV; rw [if_pos hn]
    have eP : rmP D P gs h.length = pset P (gs h.length) 7 (P 1 7) := by unfold rmP; rw [if_pos hn]
    rw [eV, eP]
    refine ⟨gs, ⟨fun k hk => ⟨?_, (h1 k hk).2⟩, h2, h3, ?_, ?_, ?_⟩, ?_, ?_⟩
    · rw [pset_n (by omega)]
      exact (h1 k hk).1
    · rw [psh_len h5, if_pos hn, vset_s]
      simp [upd]
    · rw [psh_len h5, if_pos hn]
      omega
    · intro i y hy
      unfold psh at hy
      rw [if_pos hn] at hy
      by_cases hi : i < h.length
      · rw [List.getElem?_append_left hi] at hy
        have h9 := h3 i h.length (by omega) hn (by omega)
        have q3 := (h1 i (by omega)).2.2
        refine atG_fr (h6 i y hy) ?_ ?_ ?_ ?_ ?_
        · rw [vset_n (by omega), gcx_n (by omega) (by omega) (by omega) (by omega)]
        · rw [vset_n (by omega), gcx_n (by omega) (by omega) (by omega) (by omega)]
        · rw [vset_n (by omega), gcx_n (by omega) (by omega) (by omega) (by omega)]
        · rw [vset_n (by omega), gcx_n (by omega) (by omega) (by omega) (by omega)]
        · rw [pset_n (by omega)]
      · rw [List.getElem?_append_right (by omega)] at hy
        have hi2 : i = h.length := by
          by_cases e : i - h.length = 0
          · omega
          · rw [List.getElem?_eq_none_iff.mpr (by show 1 ≤ i - h.length; omega)] at hy
            cases hy
        subst hi2
        rw [Nat.sub_self] at hy
        cases hy
        refine ⟨?_, ?_, ?_, ?_, ?_⟩
        · rw [vset_n (by omega), r.1]; exact hg.1
        · rw [vset_n (by omega), r.2.1]; exact hg.2.1
        · rw [vset_n (by omega), r.2.2.1]; exact hg.2.2.1
        · rw [vset_n (by omega), r.2.2.2]; exact hg.2.2.2.1
        · rw [pset_s]
          show (updV (P (gs h.length)) 7 (P 1 7)) 7 = _
          simp [updV]
          exact hg.2.2.2.2
    · intro c hc
      rw [vset_n (by omega), gcx_n (by omega) (by omega) (by omega) (by omega)]
    · intro c hc
      rw [pset_n (by omega)]
  · have hn5 : h.length = 5 := by omega
    have q := h1 0 (by decide)
    have q2 := h2 0 (by decide)
    have q8 := q.2.2
    have r := gcx_r (V := vset V 6 1 (nI 4)) (g := gs 0) (u := 1) (Or.inr (by omega))
    have eV : rmV V gs h.length = vset (gcx (vset V 6 1 (nI 4)) (gs 0) 1) 6 1 (nI 5) := by unfold rmV; rw [if_neg hn]
    have eP : rmP D P gs h.length = pset (prot D P gs) (gs 0) 7 (P 1 7) := by unfold rmP; rw [if_neg hn]
    rw [eV, eP]
    have hrot : ∀ c, c ≠ 7 → prot D P gs c = P c := fun c hc => by
      unfold prot
      rw [pset_n hc, pset_n hc, pset_n hc, pset_n hc, pset_n hc]
    refine ⟨rotg gs, ⟨fun k hk => ?_, fun k hk => ?_, fun i j hi hj hij => ?_, ?_, ?_, ?_⟩, ?_, ?_⟩
    · rw [pset_n (by omega)]
      match k, hk with
      | 0, _ => exact ⟨rfl, (h1 1 (by decide)).2⟩
      | 1, _ => exact ⟨rfl, (h1 2 (by decide)).2⟩
      | 2, _ => exact ⟨rfl, (h1 3 (by decide)).2⟩
      | 3, _ => exact ⟨rfl, (h1 4 (by decide)).2⟩
      | 4, _ => exact ⟨rfl, (h1 0 (by decide)).2⟩
      | k + 5, h => exact absurd h (by omega)
    · unfold rotg
      split
      · exact q2
      · exact h2 (k + 1) (by omega)
    · unfold rotg
      split
      · split
        · omega
        · exact h3 0 (j + 1) (by omega) (by omega) (by omega)
      · split
        · exact h3 (i + 1) 0 (by omega) (by omega) (by omega)
        · exact h3 (i + 1) (j + 1) (by omega) (by omega) (by omega)
    · rw [psh_len h5, if_neg hn, vset_s]
      simp [upd]
    · rw [psh_len h5, if_neg hn]
      omega
    · intro i y hy
      unfold psh at hy
      rw [if_neg hn] at hy
      have ht : h.tail.length = 4 := by rw [List.length_tail]; omega
      by_cases hi : i < 4
      · rw [List.getElem?_append_left (by omega), List.getElem?_tail] at hy
        have h9 := h3 (i + 1) 0 (by omega) (by omega) (by omega)
        have q3 := (h1 (i + 1) (by omega)).2.2
        have e : rotg gs i = gs (i + 1) := by unfold rotg; rw [if_neg (by omega)]
        rw [e]
        refine atG_fr (h6 (i + 1) y hy) ?_ ?_ ?_ ?_ ?_
        · rw [vset_n (by omega), gcx_n (by omega) (by omega) (by omega) (by omega), vset_n (by omega)]
        · rw [vset_n (by omega), gcx_n (by omega) (by omega) (by omega) (by omega), vset_n (by omega)]
        · rw [vset_n (by omega), gcx_n (by omega) (by omega) (by omega) (by omega), vset_n (by omega)]
        · rw [vset_n (by omega), gcx_n (by omega) (by omega) (by omega) (by omega), vset_n (by omega)]
        · rw [pset_n (by omega), hrot _ (by omega)]
      · rw [List.getElem?_append_right (by omega)] at hy
        have hi2 : i = 4 := by
          by_cases e : i - h.tail.length = 0
          · omega
          · rw [List.getElem?_eq_none_iff.mpr (by show 1 ≤ i - h.tail.length; omega)] at hy
            cases hy
        subst hi2
        rw [ht, Nat.sub_self] at hy
        cases hy
        have e : rotg gs 4 = gs 0 := rfl
        rw [e]
        refine ⟨?_, ?_, ?_, ?_, ?_⟩
        · rw [vset_n (by omega), r.1, vset_n (by omega)]; exact hg.1
        · rw [vset_n (by omega), r.2.1, vset_n (by omega)]; exact hg.2.1
        · rw [vset_n (by omega), r.2.2.1, vset_n (by omega)]; exact hg.2.2.1
        · rw [vset_n (by omega), r.2.2.2, vset_n (by omega)]; exact hg.2.2.2.1
        · rw [pset_s]
          show (updV (prot D P gs (gs 0)) 7 (P 1 7)) 7 = _
          simp [updV]
          exact hg.2.2.2.2
    · intro c hc
      rw [vset_n (by omega), gcx_n (by omega) (by omega) (by omega) (by omega), vset_n (by omega)]
    · intro c hc
      rw [pset_n (by omega), hrot _ (by omega)]
