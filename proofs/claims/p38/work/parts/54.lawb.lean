/-! ===== the law's small methods, over any heap that holds its rows ===== -/
section ZLW
variable {E : zE} {G : zG} {cc : ByteArray} {nL : Nat} {own nm : String} {ret : Option FieldType} {R : Room} {h : aH} {sz k n : Nat} {t : List zI} {pc : Nat} {ls : zL} {st rest : List Value}
theorem Z_dom {f : zF} (kk : (∀ (a : Nat) (c : aC), h a = some c → a < sz) → Z E G h sz k n f) : Z E G h sz k n f := by
  obtain ⟨p, l, e, R', s, m, args, below, meth, c, Q⟩ := G
  intro H locs g1 g2 g3
  exact kk (fun a c hc => (g1.2.2.2 a c hc).1) H locs g1 g2 g3
theorem Z_lo {f : zF} (kk : zB E ≤ sz → Z E G h sz k n f) : Z E G h sz k n f := by
  obtain ⟨p, l, e, R', s, m, args, below, meth, c, Q⟩ := G
  intro H locs g1 g2 g3
  exact kk g1.1 H locs g1 g2 g3
theorem Z_ldc (C : zCx E G cc nL own nm ret R) (ht : zT cc t) {idx : Nat} {r : Nat × Int32 × Nat} (hl : t.lookup pc = some (.ldc idx, r)) {v : Int32} (hc : Cond.constant own idx v ∈ zWs) (kk : Z E G h sz k n (pc + 2, ls, .int v :: rest)) : Z E G h sz k n (pc, ls, rest) := by
  obtain ⟨p, l, e, R', s, m, args, below, meth, c, Q⟩ := G
  obtain ⟨hE, rfl, hx, hb, hml, hown, hW, -⟩ := C
  intro H locs h1 h2 h3 la hla
  obtain ⟨hd, ho⟩ := zT_at ht hl
  have hlen : r.1 = 2 := by have h9 := ho; simp only [zok, beq_iff_eq] at h9; exact h9
  dsimp only at hd
  rw [hlen] at hd
  exact lv_ldc hx hb hown (zmem_at hE hW hc) hd (kk H locs h1 h2 h3 la hla)
theorem Z_idiv (C : zCx E G cc nL own nm ret R) (ht : zT cc t) {r : Nat × Int32 × Nat} (hl : t.lookup pc = some (.idiv, r)) {x y : Int32} (hne : ¬ y = 0) (kk : Z E G h sz k n (pc + 1, ls, .int (x / y) :: rest)) : Z E G h sz k n (pc, ls, .int y :: .int x :: rest) := by
  obtain ⟨p, l, e, R', s, m, args, below, meth, c, Q⟩ := G
  obtain ⟨hE, rfl, hx, hb, -⟩ := C
  intro H locs h1 h2 h3 la hla
  obtain ⟨hd, ho⟩ := zT_at ht hl
  have hlen : r.1 = 1 := by have h9 := ho; simp only [zok, beq_iff_eq] at h9; exact h9
  dsimp only at hd
  rw [hlen] at hd
  exact lv_idiv hx hb hd hne (kk H locs h1 h2 h3 la hla)
theorem Z_irem (C : zCx E G cc nL own nm ret R) (ht : zT cc t) {r : Nat × Int32 × Nat} (hl : t.lookup pc = some (.irem, r)) {x y : Int32} (hne : ¬ y = 0) (kk : Z E G h sz k n (pc + 1, ls, .int (x % y) :: rest)) : Z E G h sz k n (pc, ls, .int y :: .int x :: rest) := by
  obtain ⟨p, l, e, R', s, m, args, below, meth, c, Q⟩ := G
  obtain ⟨hE, rfl, hx, hb, -⟩ := C
  intro H locs h1 h2 h3 la hla
  obtain ⟨hd, ho⟩ := zT_at ht hl
  have hlen : r.1 = 1 := by have h9 := ho; simp only [zok, beq_iff_eq] at h9; exact h9
  dsimp only at hd
  rw [hlen] at hd
  refine lv_irem hx hb hd hne ?_
  have k2 := kk H locs h1 h2 h3 la hla
  rw [← irem_eq_mod] at k2
  exact k2
end ZLW
/-- the law's rows of a board: steps, and the leader's bit with the side's, where a piece stands -/
def okpq (F : Nat → Nat) (p q : Nat → Int32) : Prop := okF F ∧ ∀ k, k < 36 → p k = nI (stp (F k)) ∧ (stp (F k) = 0 → F k = 0) ∧ (F k ≠ 0 → q k = nI (F k / 32))
def sdI (F : Nat → Nat) (k : Nat) : Int32 := if F k = 0 then -1 else nI (sd (F k))
theorem sdI_s {F : Nat → Nat} {k s : Nat} (hs : s < 2) : sdI F k = nI s ↔ hld F k s = true := by
  have h1 := sd_le (F k)
  unfold sdI hld
  by_cases h0 : F k = 0
  · rw [if_pos h0]
    have : ¬ (-1 : Int32) = nI s := by
      rcases (show s = 0 ∨ s = 1 by omega) with rfl | rfl <;> decide
    simp [h0, this]
  · rw [if_neg h0, nI_eq (by omega) (by omega)]
    simp [h0]
theorem sdI_n {F : Nat → Nat} {k s : Nat} (hs : s < 2) : ¬ sdI F k = nI s ↔ hld F k s = false := by
  rw [sdI_s hs, Bool.not_eq_true]
def cellv (L : Nat) (xs : Nat → Int32) (k : Nat) : Int32 := if k < L then xs k else 32452867 * nI k + 15485863
def lwN (v : Int32) (n : Nat) : Nat := pn v % 2147483648 % n
theorem lwN_lt (v : Int32) {n : Nat} (h : 0 < n) : lwN v n < n := Nat.mod_lt _ h
theorem msk31 (v : Int32) : v &&& 2147483647 = nI (pn v % 2147483648) := by
  apply Int32.toBitVec_inj.mp
  apply BitVec.eq_of_toNat_eq
  show (v.toBitVec &&& (2147483647#32)).toNat = (BitVec.ofNat 32 (pn v % 2147483648)).toNat
  rw [BitVec.toNat_and, BitVec.toNat_ofNat, BitVec.toNat_ofNat]
  have e : 2147483647 % 2 ^ 32 = 2 ^ 31 - 1 := by decide
  rw [e, Nat.and_two_pow_sub_one_eq_mod]
  show pn v % 2 ^ 31 = _
  omega
/-- a row or a column of a step, from 0 to 4 for -2 to 2 -/
def rI (i : Nat) : Int32 := nI i - nI 2
theorem rI_0 : (-2 : Int32) = rI 0 := by decide
theorem rI_s : ∀ i, i < 5 → rI i + nI 1 = rI (i + 1) := by decide +kernel
theorem rI_5 : ∀ i, i < 6 → (nI 3 ≤ rI i ↔ i = 5) := by decide +kernel
def bsd (f i j : Nat) : Option Nat := if 2 ≤ f / 6 + i ∧ f / 6 + i < 8 ∧ 2 ≤ f % 6 + j ∧ f % 6 + j < 8 then some (6 * (f / 6 + i - 2) + (f % 6 + j - 2)) else none
def bsb (f i j : Nat) : Bool := if decide (nI (f / 6) + rI i < 0) || (decide (nI 5 < nI (f / 6) + rI i) || (decide (nI (f % 6) + rI j < 0) || !decide (nI (f % 6) + rI j ≤ nI 5))) then bsd f i j == none else nI 6 * (nI (f / 6) + rI i) + (nI (f % 6) + rI j) == oI (bsd f i j)
theorem bsb_t : ∀ f, f < 36 → ∀ i, i < 5 → ∀ j, j < 5 → bsb f i j = true := by decide +kernel
theorem bs_n (f : Nat) (hf : f < 36) (i : Nat) (hi : i < 5) (j : Nat) (hj : j < 5) (h : nI (f / 6) + rI i < 0 ∨ nI 5 < nI (f / 6) + rI i ∨ nI (f % 6) + rI j < 0 ∨ ¬ nI (f % 6) + rI j ≤ nI 5) : bsd f i j = none := by
  have h1 := bsb_t f hf i hi j hj
  unfold bsb at h1
  rw [if_pos (by simp only [Bool.or_eq_true, decide_eq_true_eq, Bool.not_eq_true', decide_eq_false_iff_not]; exact h), beq_iff_eq] at h1
  exact h1
theorem bs_s (f : Nat) (hf : f < 36) (i : Nat) (hi : i < 5) (j : Nat) (hj : j < 5) (g1 : ¬ nI (f / 6) + rI i < 0) (g2 : ¬ nI 5 < nI (f / 6) + rI i) (g3 : ¬ nI (f % 6) + rI j < 0) (g4 : nI (f % 6) + rI j ≤ nI 5) : nI 6 * (nI (f / 6) + rI i) + (nI (f % 6) + rI j) = oI (bsd f i j) := by
  have h1 := bsb_t f hf i hi j hj
  unfold bsb at h1
  rw [if_neg (by simp only [Bool.or_eq_true, decide_eq_true_eq, Bool.not_eq_true', decide_eq_false_iff_not]; rintro (q | q | q | q); exact g1 q; exact g2 q; exact g3 q; exact q g4), beq_iff_eq] at h1
  exact h1
theorem bsd_lt {f i j t : Nat} (h : bsd f i j = some t) : t < 36 := by
  unfold bsd at h
  split at h
  · cases h; omega
  · cases h
theorem wsp_s {s i c : Nat} (h : kw i = c) : wsp s i + s / 2 ^ i % 2 * c = wsp s (i + 1) := by
  have e : wsp s (i + 1) = if kn s i then wsp s i + kw i else wsp s i := by
    cases hk : kn s i <;> simp [wsp, hk]
  rw [e, h]
  unfold kn
  rcases (show s / 2 ^ i % 2 = 0 ∨ s / 2 ^ i % 2 = 1 by omega) with g | g <;> simp [g]
theorem shl1 : ∀ i, i < 5 → nI 1 <<< (nI i &&& 31) = nI (2 ^ i) := by decide +kernel
theorem kw_o {i : Nat} (h : i < 5) (h2 : ¬ i = 2) (h3 : ¬ i = 3) (h4 : ¬ i = 4) : kw i = 1 := by
  rcases (show i = 0 ∨ i = 1 by omega) with rfl | rfl <;> rfl
theorem tw2_lt {i : Nat} (h : i < 5) : 0 < 2 ^ i ∧ 2 ^ i < 32 := by
  rcases (show i = 0 ∨ i = 1 ∨ i = 2 ∨ i = 3 ∨ i = 4 by omega) with rfl | rfl | rfl | rfl | rfl <;> decide
theorem bit_i32 {x k : Nat} (hx : x < 2 ^ 36) (hk : k < 36) : (lN x >>> ((nI k).toInt64 &&& 63) &&& lN 1).toInt32 = nI (if x.testBit k then 1 else 0) := by
  rw [lN_shr (by omega) (by omega)]
  have h9 : x / 2 ^ k < 2 ^ 64 := Nat.lt_of_le_of_lt (Nat.div_le_self _ _) (by omega)
  rw [show lN 1 = (1 : Int64) from rfl, wb_a1 h9, Nat.testBit_eq_decide_div_mod_eq]
  rcases (show x / 2 ^ k % 2 = 0 ∨ x / 2 ^ k % 2 = 1 by omega) with g | g <;> (rw [g]; decide)
theorem kc_Lw_7 : Cond.constant R_Lw 7 (32452867) ∈ zWs := zmem 318 (by decide +kernel) rfl
theorem kc_Lw_8 : Cond.constant R_Lw 8 (15485863) ∈ zWs := zmem 319 (by decide +kernel) rfl
theorem kc_Lw_9 : Cond.constant R_Lw 9 (2147483647) ∈ zWs := zmem 323 (by decide +kernel) rfl
set_option maxRecDepth 20000 in
theorem ct_Lw_cell {E : zE} (hE : zEv E) {l : Launch} (hl : l.stackTraces = false) (L : Nat) (hL : L ≤ 260) (xs : Nat → Int32) (h : aH) (sa : Nat) (hs : h sa = some (15, L, fun k => .int (xs k))) (k : Nat) (hk : k < 1000) (sz : Nat) : zM E l y_Lw_cell [.code y_Lw_cell c_Lw_cell 2 (some .int)] rm_Lw_cell [.ref sa, .int (nI k)] h sz (zRet (some (.int (cellv L xs k))) h sz) := by
  refine zM_of hE hl (by decide +kernel) [some (.ref sa), some (.int (nI k))] ⟨rfl, rfl, Nat.le_of_ble_eq_true rfl⟩ ?_
  intro G C q htb
  refine Z_run C it_Lw_cell 2 (f2 := (2, [some (.ref sa), some (.int (nI k))], [.ref sa, .int (nI k)])) rfl ?_
  refine Z_alen C it_Lw_cell rfl hs (v := nI L) rfl ?_
  refine Z_br C it_Lw_cell rfl rfl (fun hc1 => ?_) (fun hc1 => ?_)
  · replace hc1 := (nI_leI (a := L) (b := k) (by omega) (by omega)).mp hc1
    refine Z_ldc C it_Lw_cell rfl kc_Lw_7 ?_
    refine Z_run C it_Lw_cell 2 (f2 := (16, [some (.ref sa), some (.int (nI k))], [.int ((32452867) * nI k)])) rfl ?_
    refine Z_ldc C it_Lw_cell rfl kc_Lw_8 ?_
    refine Z_run C it_Lw_cell 1 (f2 := (19, [some (.ref sa), some (.int (nI k))], [.int (((32452867) * nI k) + (15485863))])) rfl ?_
    exact Z_iret C q.e it_Lw_cell rfl (zRet_i (by unfold cellv; rw [if_neg (by omega)])) (by decide) (by decide)
  · replace hc1 : ¬ _ := fun z9 => hc1 ((nI_leI (a := L) (b := k) (by omega) (by omega)).mpr z9)
    refine Z_run C it_Lw_cell 2 (f2 := (8, [some (.ref sa), some (.int (nI k))], [.int (nI k), .ref sa])) rfl ?_
    refine Z_ald C it_Lw_cell (tg := 15) rfl hs (by decide) rfl (j := k) (by omega) (by omega) (v := .int (xs k)) rfl ?_
    refine Z_run C it_Lw_cell 1 (f2 := (19, [some (.ref sa), some (.int (nI k))], [.int (xs k)])) rfl ?_
    exact Z_iret C q.e it_Lw_cell rfl (zRet_i (by unfold cellv; rw [if_pos (by omega)])) (by decide) (by decide)
set_option maxRecDepth 20000 in
theorem ct_Lw_low {E : zE} (hE : zEv E) {l : Launch} (hl : l.stackTraces = false) (v : Int32) (n : Nat) (h0 : 0 < n) (hn : n < 2147483648) (h : aH) (sz : Nat) : zM E l y_Lw_low [.code y_Lw_low c_Lw_low 2 (some .int)] rm_Lw_low [.int v, .int (nI n)] h sz (zRet (some (.int (nI (lwN v n)))) h sz) := by
  refine zM_of hE hl (by decide +kernel) [some (.int v), some (.int (nI n))] ⟨rfl, rfl, Nat.le_of_ble_eq_true rfl⟩ ?_
  intro G C q htb
  refine Z_run C it_Lw_low 1 (f2 := (1, [some (.int v), some (.int (nI n))], [.int v])) rfl ?_
  refine Z_ldc C it_Lw_low rfl kc_Lw_9 ?_
  refine Z_run C it_Lw_low 1 (f2 := (4, [some (.int v), some (.int (nI n))], [.int (v &&& (2147483647))])) rfl ?_
  have e1 : v &&& (2147483647) = nI (pn v % 2147483648) := msk31 v
  rw [e1]
  refine Z_run C it_Lw_low 1 (f2 := (5, [some (.int v), some (.int (nI n))], [.int (nI n), .int (nI (pn v % 2147483648))])) rfl ?_
  refine Z_irem C it_Lw_low rfl (fun z9 => absurd ((nI_e0 (by omega)).mp z9) (by omega)) ?_
  rw [nI_mod (a := pn v % 2147483648) (d := n) (by omega) (by omega) (by omega)]
  exact Z_iret C q.e it_Lw_low rfl (zRet_i rfl) (by decide) (by decide)
set_option maxRecDepth 20000 in
theorem lp_Lw_worth {E : zE} {G : zG} {O : zO} (C : zCx E G c_Lw_worth 4 y_Lw_worth.cls y_Lw_worth.name (some .int) rm_Lw_worth) (q : zEndX E G O rm_Lw_worth.cells rm_Lw_worth.slots)  {h : aH} {sz : Nat} {s w : Nat} (hs : s < 32) (hw : w < 4) (hO : O (.inl (some (.int (nI (wst s + w % 2 * 10))))) h sz) : ∀ (j i : Nat), 5 - i < j → i ≤ 5 → Z E G h sz 0 0 (9, [some (.int (nI s)), some (.int (nI w)), some (.int (nI (w % 2 * 10 + wsp s i))), some (.int (nI i))], []) := by
  intro j
  induction j with
  | zero =>
    intro i h1 h2
    omega
  | succ j ih =>
    intro i h1 h2
    have hwl := wsp_le s i
    have hdv : s / 2 ^ i ≤ s := Nat.div_le_self _ _
    have h2i : i < 5 → 0 < 2 ^ i ∧ 2 ^ i < 32 := tw2_lt
    refine Z_run C it_Lw_worth 2 (f2 := (11, [some (.int (nI s)), some (.int (nI w)), some (.int (nI (w % 2 * 10 + wsp s i))), some (.int (nI i))], [.int (nI 5), .int (nI i)])) rfl ?_
    refine Z_br C it_Lw_worth rfl rfl (fun hc1 => ?_) (fun hc1 => ?_)
    · replace hc1 := (nI_leI (a := 5) (b := i) (by omega) (by omega)).mp hc1
      refine Z_run C it_Lw_worth 1 (f2 := (56, [some (.int (nI s)), some (.int (nI w)), some (.int (nI (w % 2 * 10 + wsp s i))), some (.int (nI i))], [.int (nI (w % 2 * 10 + wsp s i))])) rfl ?_
      exact Z_iret C q.e it_Lw_worth rfl (by rw [show wst s + w % 2 * 10 = w % 2 * 10 + wsp s i by rw [show i = 5 by omega]; unfold wst; omega] at hO; exact hO) (by decide) (by decide)
    · replace hc1 : ¬ _ := fun z9 => hc1 ((nI_leI (a := 5) (b := i) (by omega) (by omega)).mpr z9)
      refine Z_run C it_Lw_worth 5 (f2 := (19, [some (.int (nI s)), some (.int (nI w)), some (.int (nI (w % 2 * 10 + wsp s i))), some (.int (nI i))], [.int (nI 1 <<< (nI i &&& 31)), .int (nI s), .int (nI (w % 2 * 10 + wsp s i))])) rfl ?_
      have e1 : nI 1 <<< (nI i &&& 31) = nI (2 ^ i) := shl1 i (by omega)
      rw [e1]
      refine Z_idiv C it_Lw_worth rfl (fun z9 => absurd ((nI_e0 (by omega)).mp z9) (by omega)) ?_
      rw [nI_div (a := s) (d := 2 ^ i) (by omega) (by omega) (by omega)]
      refine Z_run C it_Lw_worth 2 (f2 := (22, [some (.int (nI s)), some (.int (nI w)), some (.int (nI (w % 2 * 10 + wsp s i))), some (.int (nI i))], [.int (nI (s / (2 ^ i)) % nI 2), .int (nI (w % 2 * 10 + wsp s i))])) rfl ?_
      rw [nI_mod (a := s / (2 ^ i)) (d := 2) (by omega) (by omega) (by omega)]
      refine Z_run C it_Lw_worth 2 (f2 := (24, [some (.int (nI s)), some (.int (nI w)), some (.int (nI (w % 2 * 10 + wsp s i))), some (.int (nI i))], [.int (nI 3), .int (nI i), .int (nI ((s / (2 ^ i)) % 2)), .int (nI (w % 2 * 10 + wsp s i))])) rfl ?_
      refine Z_br C it_Lw_worth rfl rfl (fun hc2 => ?_) (fun hc2 => ?_)
      · replace hc2 : ¬ _ := fun z9 => hc2 ((nI_eq (a := i) (b := 3) (by omega) (by omega)).mpr z9)
        refine Z_run C it_Lw_worth 2 (f2 := (33, [some (.int (nI s)), some (.int (nI w)), some (.int (nI (w % 2 * 10 + wsp s i))), some (.int (nI i))], [.int (nI 2), .int (nI i), .int (nI ((s / (2 ^ i)) % 2)), .int (nI (w % 2 * 10 + wsp s i))])) rfl ?_
        refine Z_br C it_Lw_worth rfl rfl (fun hc3 => ?_) (fun hc3 => ?_)
        · replace hc3 := (nI_eq (a := i) (b := 2) (by omega) (by omega)).mp hc3
          refine Z_run C it_Lw_worth 3 (f2 := (47, [some (.int (nI s)), some (.int (nI w)), some (.int (nI (w % 2 * 10 + wsp s i))), some (.int (nI i))], [.int (nI ((s / (2 ^ i)) % 2) * nI 3), .int (nI (w % 2 * 10 + wsp s i))])) rfl ?_
          rw [nI_mul ((s / (2 ^ i)) % 2) 3]
          refine Z_run C it_Lw_worth 1 (f2 := (48, [some (.int (nI s)), some (.int (nI w)), some (.int (nI (w % 2 * 10 + wsp s i))), some (.int (nI i))], [.int (nI (w % 2 * 10 + wsp s i) + nI (((s / (2 ^ i)) % 2) * 3))])) rfl ?_
          rw [nI_add (w % 2 * 10 + wsp s i) (((s / (2 ^ i)) % 2) * 3)]
          refine Z_run C it_Lw_worth 2 (f2 := (52, [some (.int (nI s)), some (.int (nI w)), some (.int (nI (w % 2 * 10 + wsp s i + ((s / (2 ^ i)) % 2) * 3))), some (.int (nI i + nI 1))], [])) rfl ?_
          rw [nI_add i 1]
          refine Z_run C it_Lw_worth 1 (f2 := (9, [some (.int (nI s)), some (.int (nI w)), some (.int (nI (w % 2 * 10 + wsp s i + ((s / (2 ^ i)) % 2) * 3))), some (.int (nI (i + 1)))], [])) rfl ?_
          have e2 : nI (w % 2 * 10 + wsp s i + ((s / (2 ^ i)) % 2) * 3) = nI (w % 2 * 10 + wsp s (i + 1)) := congrArg nI (by rw [← wsp_s (s := s) (i := i) (c := 3) (by first | (subst_vars; rfl) | exact kw_o (by omega) (by omega) (by omega) (by omega) | (rw [show i = 4 by omega]; rfl))]; omega)
          rw [e2]
          exact ih (i + 1) (by omega) (by omega)
        · replace hc3 : ¬ _ := fun z9 => hc3 ((nI_eq (a := i) (b := 2) (by omega) (by omega)).mpr z9)
          refine Z_run C it_Lw_worth 2 (f2 := (38, [some (.int (nI s)), some (.int (nI w)), some (.int (nI (w % 2 * 10 + wsp s i))), some (.int (nI i))], [.int (nI 4), .int (nI i), .int (nI ((s / (2 ^ i)) % 2)), .int (nI (w % 2 * 10 + wsp s i))])) rfl ?_
          refine Z_br C it_Lw_worth rfl rfl (fun hc4 => ?_) (fun hc4 => ?_)
          · replace hc4 : ¬ _ := fun z9 => hc4 ((nI_eq (a := i) (b := 4) (by omega) (by omega)).mpr z9)
            refine Z_run C it_Lw_worth 2 (f2 := (47, [some (.int (nI s)), some (.int (nI w)), some (.int (nI (w % 2 * 10 + wsp s i))), some (.int (nI i))], [.int (nI ((s / (2 ^ i)) % 2) * nI 1), .int (nI (w % 2 * 10 + wsp s i))])) rfl ?_
            rw [nI_mul ((s / (2 ^ i)) % 2) 1]
            refine Z_run C it_Lw_worth 1 (f2 := (48, [some (.int (nI s)), some (.int (nI w)), some (.int (nI (w % 2 * 10 + wsp s i))), some (.int (nI i))], [.int (nI (w % 2 * 10 + wsp s i) + nI (((s / (2 ^ i)) % 2) * 1))])) rfl ?_
            rw [nI_add (w % 2 * 10 + wsp s i) (((s / (2 ^ i)) % 2) * 1)]
            refine Z_run C it_Lw_worth 2 (f2 := (52, [some (.int (nI s)), some (.int (nI w)), some (.int (nI (w % 2 * 10 + wsp s i + ((s / (2 ^ i)) % 2) * 1))), some (.int (nI i + nI 1))], [])) rfl ?_
            rw [nI_add i 1]
            refine Z_run C it_Lw_worth 1 (f2 := (9, [some (.int (nI s)), some (.int (nI w)), some (.int (nI (w % 2 * 10 + wsp s i + ((s / (2 ^ i)) % 2) * 1))), some (.int (nI (i + 1)))], [])) rfl ?_
            have e3 : nI (w % 2 * 10 + wsp s i + ((s / (2 ^ i)) % 2) * 1) = nI (w % 2 * 10 + wsp s (i + 1)) := congrArg nI (by rw [← wsp_s (s := s) (i := i) (c := 1) (by first | (subst_vars; rfl) | exact kw_o (by omega) (by omega) (by omega) (by omega) | (rw [show i = 4 by omega]; rfl))]; omega)
            rw [e3]
            exact ih (i + 1) (by omega) (by omega)
          · replace hc4 := Classical.not_not.mp hc4
            replace hc4 := (nI_eq (a := i) (b := 4) (by omega) (by omega)).mp hc4
            refine Z_run C it_Lw_worth 3 (f2 := (47, [some (.int (nI s)), some (.int (nI w)), some (.int (nI (w % 2 * 10 + wsp s i))), some (.int (nI i))], [.int (nI ((s / (2 ^ i)) % 2) * nI 3), .int (nI (w % 2 * 10 + wsp s i))])) rfl ?_
            rw [nI_mul ((s / (2 ^ i)) % 2) 3]
            refine Z_run C it_Lw_worth 1 (f2 := (48, [some (.int (nI s)), some (.int (nI w)), some (.int (nI (w % 2 * 10 + wsp s i))), some (.int (nI i))], [.int (nI (w % 2 * 10 + wsp s i) + nI (((s / (2 ^ i)) % 2) * 3))])) rfl ?_
            rw [nI_add (w % 2 * 10 + wsp s i) (((s / (2 ^ i)) % 2) * 3)]
            refine Z_run C it_Lw_worth 2 (f2 := (52, [some (.int (nI s)), some (.int (nI w)), some (.int (nI (w % 2 * 10 + wsp s i + ((s / (2 ^ i)) % 2) * 3))), some (.int (nI i + nI 1))], [])) rfl ?_
            rw [nI_add i 1]
            refine Z_run C it_Lw_worth 1 (f2 := (9, [some (.int (nI s)), some (.int (nI w)), some (.int (nI (w % 2 * 10 + wsp s i + ((s / (2 ^ i)) % 2) * 3))), some (.int (nI (i + 1)))], [])) rfl ?_
            have e4 : nI (w % 2 * 10 + wsp s i + ((s / (2 ^ i)) % 2) * 3) = nI (w % 2 * 10 + wsp s (i + 1)) := congrArg nI (by rw [← wsp_s (s := s) (i := i) (c := 3) (by first | (subst_vars; rfl) | exact kw_o (by omega) (by omega) (by omega) (by omega) | (rw [show i = 4 by omega]; rfl))]; omega)
            rw [e4]
            exact ih (i + 1) (by omega) (by omega)
      · replace hc2 := Classical.not_not.mp hc2
        replace hc2 := (nI_eq (a := i) (b := 3) (by omega) (by omega)).mp hc2
        refine Z_run C it_Lw_worth 3 (f2 := (47, [some (.int (nI s)), some (.int (nI w)), some (.int (nI (w % 2 * 10 + wsp s i))), some (.int (nI i))], [.int (nI ((s / (2 ^ i)) % 2) * nI 5), .int (nI (w % 2 * 10 + wsp s i))])) rfl ?_
        rw [nI_mul ((s / (2 ^ i)) % 2) 5]
        refine Z_run C it_Lw_worth 1 (f2 := (48, [some (.int (nI s)), some (.int (nI w)), some (.int (nI (w % 2 * 10 + wsp s i))), some (.int (nI i))], [.int (nI (w % 2 * 10 + wsp s i) + nI (((s / (2 ^ i)) % 2) * 5))])) rfl ?_
        rw [nI_add (w % 2 * 10 + wsp s i) (((s / (2 ^ i)) % 2) * 5)]
        refine Z_run C it_Lw_worth 2 (f2 := (52, [some (.int (nI s)), some (.int (nI w)), some (.int (nI (w % 2 * 10 + wsp s i + ((s / (2 ^ i)) % 2) * 5))), some (.int (nI i + nI 1))], [])) rfl ?_
        rw [nI_add i 1]
        refine Z_run C it_Lw_worth 1 (f2 := (9, [some (.int (nI s)), some (.int (nI w)), some (.int (nI (w % 2 * 10 + wsp s i + ((s / (2 ^ i)) % 2) * 5))), some (.int (nI (i + 1)))], [])) rfl ?_
        have e5 : nI (w % 2 * 10 + wsp s i + ((s / (2 ^ i)) % 2) * 5) = nI (w % 2 * 10 + wsp s (i + 1)) := congrArg nI (by rw [← wsp_s (s := s) (i := i) (c := 5) (by first | (subst_vars; rfl) | exact kw_o (by omega) (by omega) (by omega) (by omega) | (rw [show i = 4 by omega]; rfl))]; omega)
        rw [e5]
        exact ih (i + 1) (by omega) (by omega)
set_option maxRecDepth 20000 in
theorem ct_Lw_worth {E : zE} (hE : zEv E) {l : Launch} (hl : l.stackTraces = false) (s : Nat) (hs : s < 32) (w : Nat) (hw : w < 4) (h : aH) (sz : Nat) : zM E l y_Lw_worth [.code y_Lw_worth c_Lw_worth 4 (some .int)] rm_Lw_worth [.int (nI s), .int (nI w)] h sz (zRet (some (.int (nI (wst s + w % 2 * 10)))) h sz) := by
  refine zM_of hE hl (by decide +kernel) [some (.int (nI s)), some (.int (nI w)), none, none] ⟨rfl, rfl, Nat.le_of_ble_eq_true rfl⟩ ?_
  intro G C q htb
  refine Z_run C it_Lw_worth 3 (f2 := (3, [some (.int (nI s)), some (.int (nI w)), none, none], [.int (nI w % nI 2)])) rfl ?_
  rw [nI_mod (a := w) (d := 2) (by omega) (by omega) (by omega)]
  refine Z_run C it_Lw_worth 2 (f2 := (6, [some (.int (nI s)), some (.int (nI w)), none, none], [.int (nI (w % 2) * nI 10)])) rfl ?_
  rw [nI_mul (w % 2) 10]
  refine Z_run C it_Lw_worth 3 (f2 := (9, [some (.int (nI s)), some (.int (nI w)), some (.int (nI ((w % 2) * 10))), some (.int (nI 0))], [])) rfl ?_
  exact lp_Lw_worth C q hs hw ⟨rfl, rfl, rfl⟩ 6 0 (by omega) (by omega)
set_option maxRecDepth 20000 in
theorem ct_Lw_side {E : zE} (hE : zEv E) {l : Launch} (hl : l.stackTraces = false) (F : Nat → Nat) (pr qr : Nat → Int32) (hpq : okpq F pr qr) (h : aH) (pa qa : Nat) (hp : h pa = some (10, 36, fun k => .int (pr k))) (hq : h qa = some (10, 36, fun k => .int (qr k))) (a : Nat) (ha : a < 36) (sz : Nat) : zM E l y_Lw_side [.code y_Lw_side c_Lw_side 3 (some .int)] rm_Lw_side [.ref pa, .ref qa, .int (nI a)] h sz (zRet (some (.int (sdI F a))) h sz) := by
  refine zM_of hE hl (by decide +kernel) [some (.ref pa), some (.ref qa), some (.int (nI a))] ⟨rfl, rfl, Nat.le_of_ble_eq_true rfl⟩ ?_
  intro G C q htb
  have hst := stp_lt (F a)
  have hF := hpq.1 a ha
  refine Z_run C it_Lw_side 2 (f2 := (2, [some (.ref pa), some (.ref qa), some (.int (nI a))], [.int (nI a), .ref pa])) rfl ?_
  refine Z_ald C it_Lw_side (tg := 10) rfl hp (by decide) rfl (j := a) (by omega) (by decide) (v := .int (nI (stp (F a)))) (congrArg Value.int (hpq.2 a (by omega)).1) ?_
  refine Z_br C it_Lw_side rfl rfl (fun hc1 => ?_) (fun hc1 => ?_)
  · replace hc1 : ¬ _ := fun z9 => hc1 ((nI_e0 (a := stp (F a)) (by omega)).mpr z9)
    have hne : F a ≠ 0 := fun z => hc1 (by rw [z]; rfl)
    refine Z_run C it_Lw_side 2 (f2 := (12, [some (.ref pa), some (.ref qa), some (.int (nI a))], [.int (nI a), .ref qa])) rfl ?_
    refine Z_ald C it_Lw_side (tg := 10) rfl hq (by decide) rfl (j := a) (by omega) (by decide) (v := .int (nI (F a / 32))) (congrArg Value.int ((hpq.2 a (by omega)).2.2 (by assumption))) ?_
    refine Z_run C it_Lw_side 2 (f2 := (15, [some (.ref pa), some (.ref qa), some (.int (nI a))], [.int (nI (F a / 32) / nI 2)])) rfl ?_
    rw [nI_div (a := F a / 32) (d := 2) (by omega) (by omega) (by omega)]
    exact Z_iret C q.e it_Lw_side rfl (zRet_i (by unfold sdI sd; rw [if_neg hne]; exact congrArg nI (by omega))) (by decide) (by decide)
  · replace hc1 := Classical.not_not.mp hc1
    replace hc1 := (nI_e0 (a := stp (F a)) (by omega)).mp hc1
    refine Z_run C it_Lw_side 2 (f2 := (15, [some (.ref pa), some (.ref qa), some (.int (nI a))], [.int ((-1))])) rfl ?_
    exact Z_iret C q.e it_Lw_side rfl (zRet_i (by unfold sdI; rw [if_pos ((hpq.2 a ha).2.1 hc1)])) (by decide) (by decide)
set_option maxRecDepth 20000 in
theorem ct_Lw_beside {E : zE} (hE : zEv E) {l : Launch} (hl : l.stackTraces = false) (f : Nat) (hf : f < 36) (i : Nat) (hi : i < 5) (j : Nat) (hj : j < 5) (h : aH) (sz : Nat) : zM E l y_Lw_beside [.code y_Lw_beside c_Lw_beside 5 (some .int)] rm_Lw_beside [.int (nI f), .int (rI i), .int (rI j)] h sz (zRet (some (.int (oI (bsd f i j)))) h sz) := by
  refine zM_of hE hl (by decide +kernel) [some (.int (nI f)), some (.int (rI i)), some (.int (rI j)), none, none] ⟨rfl, rfl, Nat.le_of_ble_eq_true rfl⟩ ?_
  intro G C q htb
  refine Z_run C it_Lw_beside 3 (f2 := (4, [some (.int (nI f)), some (.int (rI i)), some (.int (rI j)), none, none], [.int (nI f / nI 6)])) rfl ?_
  rw [nI_div (a := f) (d := 6) (by omega) (by omega) (by omega)]
  refine Z_run C it_Lw_beside 6 (f2 := (11, [some (.int (nI f)), some (.int (rI i)), some (.int (rI j)), some (.int (nI (f / 6) + rI i)), none], [.int (nI f % nI 6)])) rfl ?_
  rw [nI_mod (a := f) (d := 6) (by omega) (by omega) (by omega)]
  refine Z_run C it_Lw_beside 4 (f2 := (16, [some (.int (nI f)), some (.int (rI i)), some (.int (rI j)), some (.int (nI (f / 6) + rI i)), some (.int (nI (f % 6) + rI j))], [.int (nI (f / 6) + rI i)])) rfl ?_
  refine Z_br C it_Lw_beside rfl rfl (fun hc1 => ?_) (fun hc1 => ?_)
  · skip
    refine Z_run C it_Lw_beside 2 (f2 := (46, [some (.int (nI f)), some (.int (rI i)), some (.int (rI j)), some (.int (nI (f / 6) + rI i)), some (.int (nI (f % 6) + rI j))], [.int ((-1))])) rfl ?_
    exact Z_iret C q.e it_Lw_beside rfl (zRet_i (by rw [bs_n f hf i hi j hj (by first | exact Or.inl hc1 | exact Or.inr (Or.inl hc2) | exact Or.inr (Or.inr (Or.inl hc3)) | exact Or.inr (Or.inr (Or.inr hc4)))]; rfl)) (by decide) (by decide)
  · skip
    refine Z_run C it_Lw_beside 2 (f2 := (21, [some (.int (nI f)), some (.int (rI i)), some (.int (rI j)), some (.int (nI (f / 6) + rI i)), some (.int (nI (f % 6) + rI j))], [.int (nI 5), .int (nI (f / 6) + rI i)])) rfl ?_
    refine Z_br C it_Lw_beside rfl rfl (fun hc2 => ?_) (fun hc2 => ?_)
    · skip
      refine Z_run C it_Lw_beside 2 (f2 := (46, [some (.int (nI f)), some (.int (rI i)), some (.int (rI j)), some (.int (nI (f / 6) + rI i)), some (.int (nI (f % 6) + rI j))], [.int ((-1))])) rfl ?_
      exact Z_iret C q.e it_Lw_beside rfl (zRet_i (by rw [bs_n f hf i hi j hj (by first | exact Or.inl hc1 | exact Or.inr (Or.inl hc2) | exact Or.inr (Or.inr (Or.inl hc3)) | exact Or.inr (Or.inr (Or.inr hc4)))]; rfl)) (by decide) (by decide)
    · skip
      refine Z_run C it_Lw_beside 1 (f2 := (26, [some (.int (nI f)), some (.int (rI i)), some (.int (rI j)), some (.int (nI (f / 6) + rI i)), some (.int (nI (f % 6) + rI j))], [.int (nI (f % 6) + rI j)])) rfl ?_
      refine Z_br C it_Lw_beside rfl rfl (fun hc3 => ?_) (fun hc3 => ?_)
      · skip
        refine Z_run C it_Lw_beside 2 (f2 := (46, [some (.int (nI f)), some (.int (rI i)), some (.int (rI j)), some (.int (nI (f / 6) + rI i)), some (.int (nI (f % 6) + rI j))], [.int ((-1))])) rfl ?_
        exact Z_iret C q.e it_Lw_beside rfl (zRet_i (by rw [bs_n f hf i hi j hj (by first | exact Or.inl hc1 | exact Or.inr (Or.inl hc2) | exact Or.inr (Or.inr (Or.inl hc3)) | exact Or.inr (Or.inr (Or.inr hc4)))]; rfl)) (by decide) (by decide)
      · skip
        refine Z_run C it_Lw_beside 2 (f2 := (32, [some (.int (nI f)), some (.int (rI i)), some (.int (rI j)), some (.int (nI (f / 6) + rI i)), some (.int (nI (f % 6) + rI j))], [.int (nI 5), .int (nI (f % 6) + rI j)])) rfl ?_
        refine Z_br C it_Lw_beside rfl rfl (fun hc4 => ?_) (fun hc4 => ?_)
        · skip
          refine Z_run C it_Lw_beside 5 (f2 := (46, [some (.int (nI f)), some (.int (rI i)), some (.int (rI j)), some (.int (nI (f / 6) + rI i)), some (.int (nI (f % 6) + rI j))], [.int ((nI 6 * (nI (f / 6) + rI i)) + (nI (f % 6) + rI j))])) rfl ?_
          exact Z_iret C q.e it_Lw_beside rfl (zRet_i (bs_s f hf i hi j hj hc1 hc2 hc3 hc4)) (by decide) (by decide)
        · skip
          refine Z_run C it_Lw_beside 2 (f2 := (46, [some (.int (nI f)), some (.int (rI i)), some (.int (rI j)), some (.int (nI (f / 6) + rI i)), some (.int (nI (f % 6) + rI j))], [.int ((-1))])) rfl ?_
          exact Z_iret C q.e it_Lw_beside rfl (zRet_i (by rw [bs_n f hf i hi j hj (by first | exact Or.inl hc1 | exact Or.inr (Or.inl hc2) | exact Or.inr (Or.inr (Or.inl hc3)) | exact Or.inr (Or.inr (Or.inr hc4)))]; rfl)) (by decide) (by decide)
set_option maxRecDepth 20000 in
theorem lp_Lw_bits {E : zE} {G : zG} {O : zO} (C : zCx E G c_Lw_bits 4 y_Lw_bits.cls y_Lw_bits.name (some .int) rm_Lw_bits) (q : zEndX E G O rm_Lw_bits.cells rm_Lw_bits.slots)  {h : aH} {sz : Nat} {x : Nat} (hx : x < 2 ^ 36) (hO : O (.inl (some (.int (nI (popc x))))) h sz) : ∀ (j i : Nat), 36 - i < j → i ≤ 36 → Z E G h sz 0 0 (4, [some (.long (lN x)), none, some (.int (nI (cnt x.testBit i))), some (.int (nI i))], []) := by
  intro j
  induction j with
  | zero =>
    intro i h1 h2
    omega
  | succ j ih =>
    intro i h1 h2
    refine Z_run C it_Lw_bits 2 (f2 := (7, [some (.long (lN x)), none, some (.int (nI (cnt x.testBit i))), some (.int (nI i))], [.int (nI 36), .int (nI i)])) rfl ?_
    refine Z_br C it_Lw_bits rfl rfl (fun hc1 => ?_) (fun hc1 => ?_)
    · replace hc1 := (nI_leI (a := 36) (b := i) (by omega) (by omega)).mp hc1
      refine Z_run C it_Lw_bits 1 (f2 := (26, [some (.long (lN x)), none, some (.int (nI (cnt x.testBit i))), some (.int (nI i))], [.int (nI (cnt x.testBit i))])) rfl ?_
      exact Z_iret C q.e it_Lw_bits rfl ((show i = 36 by omega) ▸ hO) (by decide) (by decide)
    · replace hc1 : ¬ _ := fun z9 => hc1 ((nI_leI (a := 36) (b := i) (by omega) (by omega)).mpr z9)
      refine Z_run C it_Lw_bits 7 (f2 := (17, [some (.long (lN x)), none, some (.int (nI (cnt x.testBit i))), some (.int (nI i))], [.int (((lN x >>> ((nI i).toInt64 &&& 63)) &&& lN 1).toInt32), .int (nI (cnt x.testBit i))])) rfl ?_
      have e1 : ((lN x >>> ((nI i).toInt64 &&& 63)) &&& lN 1).toInt32 = nI (if x.testBit i then 1 else 0) := bit_i32 hx (by omega)
      rw [e1]
      refine Z_run C it_Lw_bits 1 (f2 := (18, [some (.long (lN x)), none, some (.int (nI (cnt x.testBit i))), some (.int (nI i))], [.int (nI (cnt x.testBit i) + nI (if x.testBit i then 1 else 0))])) rfl ?_
      rw [nI_add (cnt x.testBit i) (if x.testBit i then 1 else 0)]
      refine Z_run C it_Lw_bits 2 (f2 := (22, [some (.long (lN x)), none, some (.int (nI (cnt x.testBit i + if x.testBit i then 1 else 0))), some (.int (nI i + nI 1))], [])) rfl ?_
      rw [nI_add i 1]
      refine Z_run C it_Lw_bits 1 (f2 := (4, [some (.long (lN x)), none, some (.int (nI (cnt x.testBit i + if x.testBit i then 1 else 0))), some (.int (nI (i + 1)))], [])) rfl ?_
      have e2 : nI (cnt x.testBit i + if x.testBit i then 1 else 0) = nI (cnt x.testBit (i + 1)) := rfl
      rw [e2]
      exact ih (i + 1) (by omega) (by omega)
set_option maxRecDepth 20000 in
theorem ct_Lw_bits {E : zE} (hE : zEv E) {l : Launch} (hl : l.stackTraces = false) (x : Nat) (hx : x < 2 ^ 36) (h : aH) (sz : Nat) : zM E l y_Lw_bits [.code y_Lw_bits c_Lw_bits 4 (some .int)] rm_Lw_bits [.long (lN x)] h sz (zRet (some (.int (nI (popc x)))) h sz) := by
  refine zM_of hE hl (by decide +kernel) [some (.long (lN x)), none, none, none] ⟨rfl, rfl, Nat.le_of_ble_eq_true rfl⟩ ?_
  intro G C q htb
  refine Z_run C it_Lw_bits 4 (f2 := (4, [some (.long (lN x)), none, some (.int (nI 0)), some (.int (nI 0))], [])) rfl ?_
  exact lp_Lw_bits C q hx ⟨rfl, rfl, rfl⟩ 37 0 (by omega) (by omega)
