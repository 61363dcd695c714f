/-! ===== Board: cheapestOn, quarter, copy; positions ===== -/
section ZAC
variable {E : zE} {G : zG} {cc : ByteArray} {nL : Nat} {own nm : String} {ret : Option FieldType} {R : Room} {h : aH} {sz k n : Nat} {t : List zI} {pc : Nat} {ls : zL} {rest : List Value} {D : zD} {V : Nat → Nat → Int32} {P : Nat → Nat → Value} {PH : aH}
theorem Z_acopy (C : zCx E G cc nL own nm ret R) (ht : zT cc t) {idx : Nat} {r : Nat × Int32 × Nat} (hl : t.lookup pc = some (.invokestatic idx, r)) (hlk : Cond.methodLink own idx arraycopyName ∈ zWs) (hnat : Cond.native arraycopyName ∈ zWs) (hst : Cond.static arraycopyName ∈ zWs) (hini : Cond.initialized "java/lang/System" ∈ zWs) {a0 a n0 n1 : Nat} {f g : Nat → Int32} (ha0 : h a0 = some (10, n0, fun k => .int (f k))) (ha : h a = some (10, n1, fun k => .int (g k))) {N : Nat} (h4 : N ≤ n0) (h5 : N ≤ n1) (hN : N < 2 ^ 31) (hB : zB E ≤ a) (hls : ls.length = nL) (hR : 1 ≤ R.frames ∧ (rest.map fun v => v.category).sum + 18 ≤ R.locals) (kk : Z E G (hset h a (10, n1, fun k => .int (va_cpy f g 0 0 N k))) sz k n (pc + 3, ls, rest)) : Z E G h sz k n (pc, ls, .int (nI N) :: .int (nI 0) :: .ref a :: .int (nI 0) :: .ref a0 :: rest) := by
  obtain ⟨p, l, e, R', s, m, args, below, meth, c, Q⟩ := G
  obtain ⟨hE, rfl, hx, hb, hml, hown, hW, -⟩ := C
  intro H locs g1 g2 g3 la hla
  obtain ⟨hd, ho⟩ := zT_at ht hl
  have hlen : r.1 = 3 := by have h9 := ho; simp only [zok, beq_iff_eq] at h9; exact h9
  dsimp only at hd
  rw [hlen] at hd
  have own10 : ∀ {a n f}, h a = some (10, n, f) → H[a]? = some (arrV (E.2.2.2 10) n f) := fun {a n f} hh => by
    rcases (g1.2.2.2 a _ hh).2 with ⟨q, -⟩ | ⟨q1, q2, q3⟩ | ⟨q1, -⟩
    · exact absurd q (by show ¬ 10 < 6; omega)
    · exact q3
    · exact absurd q1 (by show ¬ 10 = 15; omega)
  have hc0 := own10 ha0
  have hc1 := own10 ha
  have hA := arrOfT_moved hW.alike (hE.2.2.1 10 (by omega) (by omega)).1
  have e0 : (nI 0).toNatClampNeg = 0 := nI_clamp (by omega)
  have eN : (nI N).toNatClampNeg = N := nI_clamp hN
  have t0 : (nI 0).toInt = 0 := rfl
  have tN : (nI N).toInt = (N : Int) := nI_toInt hN
  intro T hT X
  obtain ⟨-, k0, hk0, cm0, hkk0⟩ := hA n0 (fun j => .int (f j))
  obtain ⟨-, k1, hk1, cm1, hkk1⟩ := hA n1 (fun j => .int (g j))
  obtain ⟨vm', X', step⟩ := X.arraycopy hx hown (zmem_at hE hW hlk) (zmem_at hE hW hnat) (zmem_at hE hW hst) (zmem_at hE hW hini) (src := a0) (dst := a) (cs := arrV (E.2.2.2 10) n0 (fun j => .int (f j))) (cd := arrV (E.2.2.2 10) n1 (fun j => .int (g j))) (srcPos := nI 0) (destPos := nI 0) (n := nI N) (by rw [hT]; exact hc0) (by rw [hT]; exact hc1)
    (fun _ h => by cases h) (fun _ h => by cases h) (fun h => by cases h) (fun h => by cases h) hk0 hk1 hkk0 hkk1 (by simp [zty, refKind]) (nI_pos (by omega)) (nI_pos (by omega)) (nI_pos hN)
    (by rw [t0, tN, arrV_size]; omega)
    (by rw [t0, tN, arrV_size]; omega)
    (fun vm₁ _ i hi => by
      rw [eN] at hi
      have ee : (arrV (E.2.2.2 10) n0 (fun j => .int (f j))).slots.getD ((nI 0).toNatClampNeg + i) .null = .int (f ((nI 0).toNatClampNeg + i)) := by
        rw [Array.getD_eq_getD_getElem?, arrV_read _ _ (by rw [e0]; omega)]
        rfl
      refine ⟨?_, ?_⟩
      · rw [ee]; rfl
      · rw [ee]
        exact trivial)
    (g := F0 m pc la (.int (nI N) :: .int (nI 0) :: .ref a :: .int (nI 0) :: .ref a0 :: rest)) rfl (by rw [hml, ← hls]; exact hla.1) (rest := rest) rfl (by rw [hb]; exact hd) hR.1 (by show 2 * 0 + _ + (7 + 11) ≤ _; omega)
  have e1 : copied (arrV (E.2.2.2 10) n0 (fun j => .int (f j))) (arrV (E.2.2.2 10) n1 (fun j => .int (g j))) (nI 0) (nI 0) (nI N) = arrV (E.2.2.2 10) n1 (fun j => .int (va_cpy f g (nI 0).toNatClampNeg (nI 0).toNatClampNeg (nI N).toNatClampNeg j)) := va_copied (fun z => .int z) _ _ f g (by rw [e0, eN]; omega)
  rw [e1, e0, eN] at X' step
  have hlt : a < H.size := (Array.getElem?_eq_some_iff.mp hc1).1
  have oq : ∀ q : Nat, q ≠ a → (H.setIfInBounds a (arrV (E.2.2.2 10) n1 (fun j => .int (va_cpy f g 0 0 N j))))[q]? = H[q]? := fun q hq => by simp [Array.getElem?_setIfInBounds, Ne.symm hq]
  have hheap : ((T.setVm vm').setCell a (arrV (E.2.2.2 10) n1 (fun j => .int (va_cpy f g 0 0 N j)))).heap = H.setIfInBounds a (arrV (E.2.2.2 10) n1 (fun j => .int (va_cpy f g 0 0 N j))) := by rw [← hT]; rfl
  obtain ⟨t9, a1, b1⟩ := kk _ _ (g1.set (H1 := H.setIfInBounds a (arrV (E.2.2.2 10) n1 (fun j => .int (va_cpy f g 0 0 N j)))) (by simp) oq hB (g1.2.2.2 a _ ha).1 (Or.inr (Or.inl ⟨by show 10 ≤ 10; omega, by show 10 < 15; omega, by simp [Array.getElem?_setIfInBounds, hlt]⟩))) (by simpa using g2) (fun q hq => by
      rcases List.mem_append.mp hq with h9 | h9
      · exact g3 q h9
      · obtain ⟨z, -, hz⟩ := List.mem_map.mp h9
        rw [← hz]
        exact hB) la hla _ hheap X'
  exact ⟨t9, step t9 a1, b1⟩
theorem Zr_callVh (C : zCx E G cc nL own nm ret R) (ht : zT cc t) {idx : Nat} {r : Nat × Int32 × Nat} (hl : t.lookup pc = some (.invokevirtual idx, r)) {y : MethodName} {c9 : ByteArray} {n9 a : Nat} {r9 : Option FieldType} {rm : Room} (hp : zPv y c9 n9 r9 a) (hlk : Cond.methodLink own idx y ∈ zWs) {b : Nat} (As : List Value) {v : Option Value} {h2 : aH} {sz2 : Nat} {st : List Value} (hM : zM E (zGl G) y [.code y c9 n9 r9] rm (.ref b :: As) h sz (zRet v h2 sz2)) (hst : st = As.reverse ++ .ref b :: rest) (ha : As.length = a) {ci nn N : Nat} {fs : Nat → Value} {T : u_T} (hb9 : h b = some (ci, nn, fs)) (hci : zCl[ci]? = some (y.cls, T, N)) (hR : zRm rm R n9 k n) (hcat : (rest.map fun v => v.category).sum ≤ 8) (hls : ls.length = nL)
    (kk : Z E G h2 sz2 (k + rm.cells) (n + rm.slots) (pc + 3, ls, v.toList ++ rest)) : Z E G h sz k n (pc, ls, st) :=
  Z_callV C ht hl hp hlk As hM hst ha hb9 hci hR hcat hls (fun w h3 sz3 hO => by obtain ⟨e1, rfl, rfl⟩ := hO; cases e1; exact kk) (fun X h3 sz3 hO => by cases hO.1)
end ZAC
def vcp (V : Nat → Nat → Int32) (j i n : Nat) : Nat → Nat → Int32 := fun c => if c = j then va_cpy (V i) (V j) 0 0 n else V c
theorem vcp_s {V : Nat → Nat → Int32} {j i n : Nat} : vcp V j i n j = va_cpy (V i) (V j) 0 0 n := by simp [vcp]
theorem vcp_n {V : Nat → Nat → Int32} {j i n c : Nat} (h : c ≠ j) : vcp V j i n c = V c := by simp [vcp, h]
theorem vcp_in {V : Nat → Nat → Int32} {j i n k : Nat} (h : k < n) : vcp V j i n j k = V i k := by rw [vcp_s]; simp [va_cpy, h]
/-- the cheapest piece among some squares, of several the lowest -/
def chs (F : Nat → Nat) (m : Nat) : Nat → Option Nat
  | 0 => none
  | n + 1 => if m.testBit n then (match chs F m n with
    | none => some n
    | some k => if wr (F n) < wr (F k) then some n else some k) else chs F m n
def lst (F : Nat → Nat) : Option Nat → Nat
  | none => 0
  | some k => wr (F k)
theorem chs_lt {F : Nat → Nat} {m : Nat} : ∀ {n k : Nat}, chs F m n = some k → k < n ∧ m.testBit k = true := by
  intro n
  induction n with
  | zero => intro k h; cases h
  | succ n ih =>
    intro k h
    unfold chs at h
    split at h
    · next ht =>
      split at h
      · cases h; exact ⟨by omega, ht⟩
      · next k2 hk2 =>
        have := ih hk2
        split at h
        · cases h; exact ⟨by omega, ht⟩
        · cases h; exact ⟨by omega, this.2⟩
    · have := ih h
      exact ⟨by omega, this.2⟩
theorem chs_f {F : Nat → Nat} {m i : Nat} (h : m.testBit i = false) : chs F m (i + 1) = chs F m i := by simp [chs, h]
theorem chs_n {F : Nat → Nat} {m i : Nat} (h : m.testBit i = true) (hn : chs F m i = none) : chs F m (i + 1) = some i := by simp [chs, h, hn]
theorem chs_c {F : Nat → Nat} {m i k : Nat} (h : m.testBit i = true) (hk : chs F m i = some k) (hl : lst F (chs F m i) ≤ wr (F i)) : chs F m (i + 1) = chs F m i := by
  rw [hk] at hl
  simp only [lst] at hl
  simp [chs, h, hk, show ¬ wr (F i) < wr (F k) by omega]
theorem chs_d {F : Nat → Nat} {m i k : Nat} (h : m.testBit i = true) (hk : chs F m i = some k) (hl : ¬ lst F (chs F m i) ≤ wr (F i)) : chs F m (i + 1) = some i := by
  rw [hk] at hl
  simp only [lst] at hl
  simp [chs, h, hk, show wr (F i) < wr (F k) by omega]
theorem oI_m1 {o : Option Nat} (h : ∀ k, o = some k → k < 36) : oI o = -1 ↔ o = none := by
  cases o with
  | none => exact ⟨fun _ => rfl, fun _ => rfl⟩
  | some k =>
    have h1 := h k rfl
    constructor
    · intro h2
      exfalso
      have h3 : ∀ j, j < 36 → nI j ≠ -1 := by decide
      exact h3 k h1 h2
    · intro h2; cases h2
/-- the pieces of some squares in one number -/
def qtr (F : Nat → Nat) (q : Nat) : Nat → Nat
  | 0 => 0
  | n + 1 => qtr F q n * 128 ||| F (q * 36 / 4 + n)
theorem qtr_lt {F : Nat → Nat} (hF : okF F) {q n : Nat} (h : q * 36 / 4 + n ≤ 36) : qtr F q n < 2 ^ (7 * n) := by
  induction n with
  | zero => simp [qtr]
  | succ n ih =>
    have h1 := ih (by omega)
    have h2 := hF (q * 36 / 4 + n) (by omega)
    have h3 : 2 ^ (7 * (n + 1)) = 2 ^ (7 * n) * 128 := by rw [Nat.mul_succ, Nat.pow_add]
    have h4 : 1 ≤ 2 ^ (7 * n) := Nat.one_le_two_pow
    unfold qtr
    refine Nat.or_lt_two_pow (by rw [h3]; omega) (by rw [h3]; omega)
theorem qtr_63 {F : Nat → Nat} (hF : okF F) {q n : Nat} (h : q * 36 / 4 + n ≤ 36) (hn : n ≤ 9) : qtr F q n < 2 ^ 63 := Nat.lt_of_lt_of_le (qtr_lt hF h) (Nat.pow_le_pow_right (by decide) (by omega))
theorem wA_ini : Cond.initialized "java/lang/System" ∈ zWs := zmem 24 (by decide +kernel) rfl
theorem ml_Bd_15 : Cond.methodLink R_Bd 15 arraycopyName ∈ zWs := zmem 413 (by decide +kernel) rfl
theorem wA_st : Cond.static arraycopyName ∈ zWs := zmem 414 (by decide +kernel) rfl
theorem wA_nat : Cond.native arraycopyName ∈ zWs := zmem 415 (by decide +kernel) rfl
theorem ml_Xx_o : Cond.methodLink R_Xx 1 Lib.objectInit ∈ zWs := zmem 33 (by decide +kernel) rfl
theorem wO_in : Cond.instanceMethod Lib.objectInit ∈ zWs := zmem 34 (by decide +kernel) rfl
theorem wO_co : Cond.code Lib.objectInit ⟨#[0xb1]⟩ 1 none ∈ zWs := zmem 35 (by decide +kernel) rfl
theorem ml_Gm_o : Cond.methodLink R_Gm 3 Lib.objectInit ∈ zWs := zmem 41 (by decide +kernel) rfl
theorem ml_Bd_o : Cond.methodLink R_Bd 3 Lib.objectInit ∈ zWs := zmem 47 (by decide +kernel) rfl
theorem ml_Hs_o : Cond.methodLink R_Hs 1 Lib.objectInit ∈ zWs := zmem 90 (by decide +kernel) rfl
theorem ml_Tx_o : Cond.methodLink R_Tx 3 Lib.objectInit ∈ zWs := zmem 106 (by decide +kernel) rfl
theorem ml_Ps_o : Cond.methodLink R_Ps 1 Lib.objectInit ∈ zWs := zmem 570 (by decide +kernel) rfl
set_option maxRecDepth 20000 in
theorem lp_Bd_cheapestOn {E : zE} {G : zG} {O : zO} (C : zCx E G c_Bd_cheapestOn 7 y_Bd_cheapestOn.cls y_Bd_cheapestOn.name (some .int) rm_Bd_cheapestOn) (q : zEndX E G O rm_Bd_cheapestOn.cells rm_Bd_cheapestOn.slots)  {D : zD} (hD : zDok E D) {V : Nat → Nat → Int32} {P : Nat → Nat → Value} {PH : aH} {b : Nat} (hb : isB b) (hF : okF (bF V b)) {m : Nat} (hm : m < 2 ^ 36) {sz : Nat} (hO : O (.inl (some (.int (oI (chs (bF V b) m 36))))) (HM D V P PH) sz) : ∀ (j i : Nat), 36 - i < j → i ≤ 36 → Z E G (HM D V P PH) sz 0 0 (8, [some (.ref (D.1 b)), some (.long (lN m)), none, some (.int (oI (chs (bF V b) m i))), some (.int (nI (lst (bF V b) (chs (bF V b) m i)))), some (.int (nI i)), none], []) := by
  intro j
  induction j with
  | zero =>
    intro i h1 h2
    omega
  | succ j ih =>
    intro i h1 h2
    refine Z_run C it_Bd_cheapestOn 2 (f2 := (12, [some (.ref (D.1 b)), some (.long (lN m)), none, some (.int (oI (chs (bF V b) m i))), some (.int (nI (lst (bF V b) (chs (bF V b) m i)))), some (.int (nI i)), none], [.int (nI 36), .int (nI i)])) rfl ?_
    refine Z_br C it_Bd_cheapestOn rfl rfl (fun hc1 => ?_) (fun hc1 => ?_)
    · replace hc1 := (nI_leI (a := 36) (b := i) (by omega) (by omega)).mp hc1
      refine Z_run C it_Bd_cheapestOn 1 (f2 := (64, [some (.ref (D.1 b)), some (.long (lN m)), none, some (.int (oI (chs (bF V b) m i))), some (.int (nI (lst (bF V b) (chs (bF V b) m i)))), some (.int (nI i)), none], [.int (oI (chs (bF V b) m i))])) rfl ?_
      exact Z_iret C q.e it_Bd_cheapestOn rfl ((show i = 36 by omega) ▸ hO) (by decide) (by decide)
    · replace hc1 : ¬ _ := fun z9 => hc1 ((nI_leI (a := 36) (b := i) (by omega) (by omega)).mpr z9)
      refine Z_run C it_Bd_cheapestOn 7 (f2 := (23, [some (.ref (D.1 b)), some (.long (lN m)), none, some (.int (oI (chs (bF V b) m i))), some (.int (nI (lst (bF V b) (chs (bF V b) m i)))), some (.int (nI i)), none], [.int (lg_cmp ((lN m >>> ((nI i).toInt64 &&& 63)) &&& lN 1) (lN 0))])) rfl ?_
      have e1 : lg_cmp ((lN m >>> ((nI i).toInt64 &&& 63)) &&& lN 1) (lN 0) = bI (m.testBit i) := lN_bit (by omega) (by omega)
      rw [e1]
      refine Z_br C it_Bd_cheapestOn rfl rfl (fun hc2 => ?_) (fun hc2 => ?_)
      · replace hc2 := bI_0.mp hc2
        refine Z_run C it_Bd_cheapestOn 1 (f2 := (60, [some (.ref (D.1 b)), some (.long (lN m)), none, some (.int (oI (chs (bF V b) m i))), some (.int (nI (lst (bF V b) (chs (bF V b) m i)))), some (.int (nI i + nI 1)), none], [])) rfl ?_
        rw [nI_add i 1]
        refine Z_run C it_Bd_cheapestOn 1 (f2 := (8, [some (.ref (D.1 b)), some (.long (lN m)), none, some (.int (oI (chs (bF V b) m i))), some (.int (nI (lst (bF V b) (chs (bF V b) m i)))), some (.int (nI (i + 1))), none], [])) rfl ?_
        first | have ec := chs_f (F := bF V b) hc2 | have ec := chs_n (F := bF V b) hc2 hc3 | have ec := chs_c hc2 hk9 hc4 | have ec := chs_d hc2 hk9 hc4
        have ef : oI (chs (bF V b) m i) = oI (chs (bF V b) m (i + 1)) := by rw [ec] <;> rfl
        have el : nI (lst (bF V b) (chs (bF V b) m i)) = nI (lst (bF V b) (chs (bF V b) m (i + 1))) := by rw [ec] <;> rfl
        rw [ef, el]
        refine Z_sub (ls2 := [some (.ref (D.1 b)), some (.long (lN m)), none, some (.int (oI (chs (bF V b) m (i + 1)))), some (.int (nI (lst (bF V b) (chs (bF V b) m (i + 1))))), some (.int (nI (i + 1))), none]) (by simp [zsubl]) ?_
        exact ih (i + 1) (by omega) (by omega)
      · replace hc2 := bI_1.mp hc2
        refine Z_run C it_Bd_cheapestOn 1 (f2 := (27, [some (.ref (D.1 b)), some (.long (lN m)), none, some (.int (oI (chs (bF V b) m i))), some (.int (nI (lst (bF V b) (chs (bF V b) m i)))), some (.int (nI i)), none], [.ref (D.1 b)])) rfl ?_
        refine Zm_get C it_Bd_cheapestOn hD rfl b wi_Bd (isB_i hb) (hb.1 _ _ _) rfl (j := 0) (by decide) fl_Bd_9 (v := .ref (D.1 (b + 1))) rfl ?_
        refine Z_run C it_Bd_cheapestOn 1 (f2 := (32, [some (.ref (D.1 b)), some (.long (lN m)), none, some (.int (oI (chs (bF V b) m i))), some (.int (nI (lst (bF V b) (chs (bF V b) m i)))), some (.int (nI i)), none], [.int (nI i), .ref (D.1 (b + 1))])) rfl ?_
        refine Zm_ald C it_Bd_cheapestOn hD (b + 1) 10 rfl (isB_j hb) (hb.2.1 _ _ _) (by decide) (by decide) rfl (j := i) (by omega) (v := .int (nI (bF V b i))) (bF_v _ _ _) ?_
        refine Zr_callS C it_Bd_cheapestOn rfl p_Pc_worthOf ml_Bd_52 [.int (nI (bF V b i))] (ct_Pc_worthOf C.ev C.l hD _ _ _ (bF V b i) (by first | assumption | omega | exact hF _ (by omega)) _) rfl rfl ⟨by decide, by decide, by decide, by decide⟩ (Nat.le_of_ble_eq_true rfl) rfl ?_
        show Z E G (HM D V P PH) sz 0 0 (36, [some (.ref (D.1 b)), some (.long (lN m)), none, some (.int (oI (chs (bF V b) m i))), some (.int (nI (lst (bF V b) (chs (bF V b) m i)))), some (.int (nI i)), none], [.int (nI (wr (bF V b i)))])
        refine Z_run C it_Bd_cheapestOn 1 (f2 := (38, [some (.ref (D.1 b)), some (.long (lN m)), none, some (.int (oI (chs (bF V b) m i))), some (.int (nI (lst (bF V b) (chs (bF V b) m i)))), some (.int (nI i)), some (.int (nI (wr (bF V b i))))], [])) rfl ?_
        have hwi := wr_le (bF V b i)
        have hwl : lst (bF V b) (chs (bF V b) m i) ≤ 35 := by unfold lst; split; omega; exact wr_le _
        refine Z_run C it_Bd_cheapestOn 2 (f2 := (40, [some (.ref (D.1 b)), some (.long (lN m)), none, some (.int (oI (chs (bF V b) m i))), some (.int (nI (lst (bF V b) (chs (bF V b) m i)))), some (.int (nI i)), some (.int (nI (wr (bF V b i))))], [.int ((-1)), .int (oI (chs (bF V b) m i))])) rfl ?_
        refine Z_br C it_Bd_cheapestOn rfl rfl (fun hc3 => ?_) (fun hc3 => ?_)
        · replace hc3 := (oI_m1 (fun k9 h9 => by have := chs_lt h9; omega)).mp hc3
          refine Z_run C it_Bd_cheapestOn 5 (f2 := (60, [some (.ref (D.1 b)), some (.long (lN m)), none, some (.int (nI i)), some (.int (nI (wr (bF V b i)))), some (.int (nI i + nI 1)), some (.int (nI (wr (bF V b i))))], [])) rfl ?_
          rw [nI_add i 1]
          refine Z_run C it_Bd_cheapestOn 1 (f2 := (8, [some (.ref (D.1 b)), some (.long (lN m)), none, some (.int (nI i)), some (.int (nI (wr (bF V b i)))), some (.int (nI (i + 1))), some (.int (nI (wr (bF V b i))))], [])) rfl ?_
          first | have ec := chs_f (F := bF V b) hc2 | have ec := chs_n (F := bF V b) hc2 hc3 | have ec := chs_c hc2 hk9 hc4 | have ec := chs_d hc2 hk9 hc4
          have ef : nI i = oI (chs (bF V b) m (i + 1)) := by rw [ec] <;> rfl
          have el : nI (wr (bF V b i)) = nI (lst (bF V b) (chs (bF V b) m (i + 1))) := by rw [ec] <;> rfl
          rw [ef, el]
          refine Z_sub (ls2 := [some (.ref (D.1 b)), some (.long (lN m)), none, some (.int (oI (chs (bF V b) m (i + 1)))), some (.int (nI (lst (bF V b) (chs (bF V b) m (i + 1))))), some (.int (nI (i + 1))), none]) (by simp [zsubl]) ?_
          exact ih (i + 1) (by omega) (by omega)
        · obtain ⟨k9, hk9⟩ : ∃ k9, chs (bF V b) m i = some k9 := Option.ne_none_iff_exists'.mp (fun z9 => hc3 ((oI_m1 (fun k9 h9 => by have := chs_lt h9; omega)).mpr z9))
          refine Z_run C it_Bd_cheapestOn 2 (f2 := (47, [some (.ref (D.1 b)), some (.long (lN m)), none, some (.int (oI (chs (bF V b) m i))), some (.int (nI (lst (bF V b) (chs (bF V b) m i)))), some (.int (nI i)), some (.int (nI (wr (bF V b i))))], [.int (nI (lst (bF V b) (chs (bF V b) m i))), .int (nI (wr (bF V b i)))])) rfl ?_
          refine Z_br C it_Bd_cheapestOn rfl rfl (fun hc4 => ?_) (fun hc4 => ?_)
          · replace hc4 := (nI_leI (a := lst (bF V b) (chs (bF V b) m i)) (b := wr (bF V b i)) (by omega) (by omega)).mp hc4
            refine Z_run C it_Bd_cheapestOn 1 (f2 := (60, [some (.ref (D.1 b)), some (.long (lN m)), none, some (.int (oI (chs (bF V b) m i))), some (.int (nI (lst (bF V b) (chs (bF V b) m i)))), some (.int (nI i + nI 1)), some (.int (nI (wr (bF V b i))))], [])) rfl ?_
            rw [nI_add i 1]
            refine Z_run C it_Bd_cheapestOn 1 (f2 := (8, [some (.ref (D.1 b)), some (.long (lN m)), none, some (.int (oI (chs (bF V b) m i))), some (.int (nI (lst (bF V b) (chs (bF V b) m i)))), some (.int (nI (i + 1))), some (.int (nI (wr (bF V b i))))], [])) rfl ?_
            first | have ec := chs_f (F := bF V b) hc2 | have ec := chs_n (F := bF V b) hc2 hc3 | have ec := chs_c hc2 hk9 hc4 | have ec := chs_d hc2 hk9 hc4
            have ef : oI (chs (bF V b) m i) = oI (chs (bF V b) m (i + 1)) := by rw [ec] <;> rfl
            have el : nI (lst (bF V b) (chs (bF V b) m i)) = nI (lst (bF V b) (chs (bF V b) m (i + 1))) := by rw [ec] <;> rfl
            rw [ef, el]
            refine Z_sub (ls2 := [some (.ref (D.1 b)), some (.long (lN m)), none, some (.int (oI (chs (bF V b) m (i + 1)))), some (.int (nI (lst (bF V b) (chs (bF V b) m (i + 1))))), some (.int (nI (i + 1))), none]) (by simp [zsubl]) ?_
            exact ih (i + 1) (by omega) (by omega)
          · replace hc4 : ¬ _ := fun z9 => hc4 ((nI_leI (a := lst (bF V b) (chs (bF V b) m i)) (b := wr (bF V b i)) (by omega) (by omega)).mpr z9)
            refine Z_run C it_Bd_cheapestOn 5 (f2 := (60, [some (.ref (D.1 b)), some (.long (lN m)), none, some (.int (nI i)), some (.int (nI (wr (bF V b i)))), some (.int (nI i + nI 1)), some (.int (nI (wr (bF V b i))))], [])) rfl ?_
            rw [nI_add i 1]
            refine Z_run C it_Bd_cheapestOn 1 (f2 := (8, [some (.ref (D.1 b)), some (.long (lN m)), none, some (.int (nI i)), some (.int (nI (wr (bF V b i)))), some (.int (nI (i + 1))), some (.int (nI (wr (bF V b i))))], [])) rfl ?_
            first | have ec := chs_f (F := bF V b) hc2 | have ec := chs_n (F := bF V b) hc2 hc3 | have ec := chs_c hc2 hk9 hc4 | have ec := chs_d hc2 hk9 hc4
            have ef : nI i = oI (chs (bF V b) m (i + 1)) := by rw [ec] <;> rfl
            have el : nI (wr (bF V b i)) = nI (lst (bF V b) (chs (bF V b) m (i + 1))) := by rw [ec] <;> rfl
            rw [ef, el]
            refine Z_sub (ls2 := [some (.ref (D.1 b)), some (.long (lN m)), none, some (.int (oI (chs (bF V b) m (i + 1)))), some (.int (nI (lst (bF V b) (chs (bF V b) m (i + 1))))), some (.int (nI (i + 1))), none]) (by simp [zsubl]) ?_
            exact ih (i + 1) (by omega) (by omega)
set_option maxRecDepth 20000 in
theorem ct_Bd_cheapestOn {E : zE} (hE : zEv E) {l : Launch} (hl : l.stackTraces = false) {D : zD} (hD : zDok E D) (V : Nat → Nat → Int32) (P : Nat → Nat → Value) (PH : aH) (b : Nat) (hb : isB b) (hF : okF (bF V b)) (m : Nat) (hm : m < 2 ^ 36) (sz : Nat) : zM E l y_Bd_cheapestOn [.code y_Bd_cheapestOn c_Bd_cheapestOn 7 (some .int)] rm_Bd_cheapestOn [.ref (D.1 b), .long (lN m)] (HM D V P PH) sz (zRet (some (.int (oI (chs (bF V b) m 36)))) (HM D V P PH) sz) := by
  refine zM_of hE hl (by decide +kernel) [some (.ref (D.1 b)), some (.long (lN m)), none, none, none, none, none] ⟨rfl, rfl, Nat.le_of_ble_eq_true rfl⟩ ?_
  intro G C q htb
  refine Z_run C it_Bd_cheapestOn 6 (f2 := (8, [some (.ref (D.1 b)), some (.long (lN m)), none, some (.int ((-1))), some (.int (nI 0)), some (.int (nI 0)), none], [])) rfl ?_
  exact lp_Bd_cheapestOn C q hD hb hF hm ⟨rfl, rfl, rfl⟩ 37 0 (by omega) (by omega)
set_option maxRecDepth 20000 in
theorem lp_Bd_quarter {E : zE} {G : zG} {O : zO} (C : zCx E G c_Bd_quarter 7 y_Bd_quarter.cls y_Bd_quarter.name (some .long) rm_Bd_quarter) (q : zEndX E G O rm_Bd_quarter.cells rm_Bd_quarter.slots)  {D : zD} (hD : zDok E D) {V : Nat → Nat → Int32} {P : Nat → Nat → Value} {PH : aH} {b : Nat} (hb : isB b) (hF : okF (bF V b)) {u : Nat} (hu : u < 4) {sz : Nat} (hO : O (.inl (some (.long (lN (qtr (bF V b) u 9))))) (HM D V P PH) sz) : ∀ (j i : Nat), 9 - i < j → i ≤ 9 → Z E G (HM D V P PH) sz 0 0 (24, [some (.ref (D.1 b)), some (.int (nI u)), some (.long (lN (qtr (bF V b) u i))), none, some (.int (nI (u * 36 / 4))), some (.int (nI ((u + 1) * 36 / 4))), some (.int (nI (u * 36 / 4 + i)))], []) := by
  intro j
  induction j with
  | zero =>
    intro i h1 h2
    omega
  | succ j ih =>
    intro i h1 h2
    refine Z_run C it_Bd_quarter 2 (f2 := (28, [some (.ref (D.1 b)), some (.int (nI u)), some (.long (lN (qtr (bF V b) u i))), none, some (.int (nI (u * 36 / 4))), some (.int (nI ((u + 1) * 36 / 4))), some (.int (nI (u * 36 / 4 + i)))], [.int (nI ((u + 1) * 36 / 4)), .int (nI (u * 36 / 4 + i))])) rfl ?_
    refine Z_br C it_Bd_quarter rfl rfl (fun hc1 => ?_) (fun hc1 => ?_)
    · replace hc1 := (nI_leI (a := (u + 1) * 36 / 4) (b := u * 36 / 4 + i) (by omega) (by omega)).mp hc1
      refine Z_run C it_Bd_quarter 1 (f2 := (52, [some (.ref (D.1 b)), some (.int (nI u)), some (.long (lN (qtr (bF V b) u i))), none, some (.int (nI (u * 36 / 4))), some (.int (nI ((u + 1) * 36 / 4))), some (.int (nI (u * 36 / 4 + i)))], [.long (lN (qtr (bF V b) u i))])) rfl ?_
      exact Z_lret C q.e it_Bd_quarter rfl ((show i = 9 by omega) ▸ hO) (by decide) (by decide)
    · replace hc1 : ¬ _ := fun z9 => hc1 ((nI_leI (a := (u + 1) * 36 / 4) (b := u * 36 / 4 + i) (by omega) (by omega)).mpr z9)
      have hq := hF (u * 36 / 4 + i) (by omega)
      refine Z_run C it_Bd_quarter 4 (f2 := (36, [some (.ref (D.1 b)), some (.int (nI u)), some (.long (lN (qtr (bF V b) u i))), none, some (.int (nI (u * 36 / 4))), some (.int (nI ((u + 1) * 36 / 4))), some (.int (nI (u * 36 / 4 + i)))], [.ref (D.1 b), .long (lN (qtr (bF V b) u i) <<< ((nI 7).toInt64 &&& 63))])) rfl ?_
      refine Zm_get C it_Bd_quarter hD rfl b wi_Bd (isB_i hb) (hb.1 _ _ _) rfl (j := 0) (by decide) fl_Bd_9 (v := .ref (D.1 (b + 1))) rfl ?_
      refine Z_run C it_Bd_quarter 1 (f2 := (41, [some (.ref (D.1 b)), some (.int (nI u)), some (.long (lN (qtr (bF V b) u i))), none, some (.int (nI (u * 36 / 4))), some (.int (nI ((u + 1) * 36 / 4))), some (.int (nI (u * 36 / 4 + i)))], [.int (nI (u * 36 / 4 + i)), .ref (D.1 (b + 1)), .long (lN (qtr (bF V b) u i) <<< ((nI 7).toInt64 &&& 63))])) rfl ?_
      refine Zm_ald C it_Bd_quarter hD (b + 1) 10 rfl (isB_j hb) (hb.2.1 _ _ _) (by decide) (by decide) rfl (j := u * 36 / 4 + i) (by omega) (v := .int (nI (bF V b (u * 36 / 4 + i)))) (bF_v _ _ _) ?_
      refine Z_run C it_Bd_quarter 4 (f2 := (48, [some (.ref (D.1 b)), some (.int (nI u)), some (.long ((lN (qtr (bF V b) u i) <<< ((nI 7).toInt64 &&& 63)) ||| (nI (bF V b (u * 36 / 4 + i))).toInt64)), none, some (.int (nI (u * 36 / 4))), some (.int (nI ((u + 1) * 36 / 4))), some (.int (nI (u * 36 / 4 + i) + nI 1))], [])) rfl ?_
      rw [nI_add (u * 36 / 4 + i) 1]
      refine Z_run C it_Bd_quarter 1 (f2 := (24, [some (.ref (D.1 b)), some (.int (nI u)), some (.long ((lN (qtr (bF V b) u i) <<< ((nI 7).toInt64 &&& 63)) ||| (nI (bF V b (u * 36 / 4 + i))).toInt64)), none, some (.int (nI (u * 36 / 4))), some (.int (nI ((u + 1) * 36 / 4))), some (.int (nI (u * 36 / 4 + i + 1)))], [])) rfl ?_
      have e1 : (lN (qtr (bF V b) u i) <<< ((nI 7).toInt64 &&& 63)) ||| (nI (bF V b (u * 36 / 4 + i))).toInt64 = lN (qtr (bF V b) u (i + 1)) := by rw [wb_shl _ (by decide), nI_l (by omega), lN_or (by have := qtr_lt hF (q := u) (n := i) (by omega); have h9 : 2 ^ (7 * i) ≤ 2 ^ 56 := Nat.pow_le_pow_right (by decide) (by omega); omega) (by omega)]; rfl
      rw [e1]
      have e2 : nI (u * 36 / 4 + i + 1) = nI (u * 36 / 4 + (i + 1)) := by rw [Nat.add_assoc]
      rw [e2]
      exact ih (i + 1) (by omega) (by omega)
set_option maxRecDepth 20000 in
theorem ct_Bd_quarter {E : zE} (hE : zEv E) {l : Launch} (hl : l.stackTraces = false) {D : zD} (hD : zDok E D) (V : Nat → Nat → Int32) (P : Nat → Nat → Value) (PH : aH) (b : Nat) (hb : isB b) (hF : okF (bF V b)) (u : Nat) (hu : u < 4) (sz : Nat) : zM E l y_Bd_quarter [.code y_Bd_quarter c_Bd_quarter 7 (some .long)] rm_Bd_quarter [.ref (D.1 b), .int (nI u)] (HM D V P PH) sz (zRet (some (.long (lN (qtr (bF V b) u 9)))) (HM D V P PH) sz) := by
  refine zM_of hE hl (by decide +kernel) [some (.ref (D.1 b)), some (.int (nI u)), none, none, none, none, none] ⟨rfl, rfl, Nat.le_of_ble_eq_true rfl⟩ ?_
  intro G C q htb
  refine Z_run C it_Bd_quarter 5 (f2 := (6, [some (.ref (D.1 b)), some (.int (nI u)), some (.long (lN 0)), none, none, none, none], [.int (nI u * nI 36)])) rfl ?_
  rw [nI_mul u 36]
  refine Z_run C it_Bd_quarter 2 (f2 := (8, [some (.ref (D.1 b)), some (.int (nI u)), some (.long (lN 0)), none, none, none, none], [.int (nI (u * 36) / nI 4)])) rfl ?_
  rw [nI_div (a := u * 36) (d := 4) (by omega) (by omega) (by omega)]
  refine Z_run C it_Bd_quarter 4 (f2 := (13, [some (.ref (D.1 b)), some (.int (nI u)), some (.long (lN 0)), none, some (.int (nI ((u * 36) / 4))), none, none], [.int (nI u + nI 1)])) rfl ?_
  rw [nI_add u 1]
  refine Z_run C it_Bd_quarter 2 (f2 := (16, [some (.ref (D.1 b)), some (.int (nI u)), some (.long (lN 0)), none, some (.int (nI ((u * 36) / 4))), none, none], [.int (nI (u + 1) * nI 36)])) rfl ?_
  rw [nI_mul (u + 1) 36]
  refine Z_run C it_Bd_quarter 2 (f2 := (18, [some (.ref (D.1 b)), some (.int (nI u)), some (.long (lN 0)), none, some (.int (nI ((u * 36) / 4))), none, none], [.int (nI ((u + 1) * 36) / nI 4)])) rfl ?_
  rw [nI_div (a := (u + 1) * 36) (d := 4) (by omega) (by omega) (by omega)]
  refine Z_run C it_Bd_quarter 3 (f2 := (24, [some (.ref (D.1 b)), some (.int (nI u)), some (.long (lN 0)), none, some (.int (nI ((u * 36) / 4))), some (.int (nI (((u + 1) * 36) / 4))), some (.int (nI ((u * 36) / 4)))], [])) rfl ?_
  exact lp_Bd_quarter C q hD hb hF hu ⟨rfl, rfl, rfl⟩ 10 0 (by omega) (by omega)
set_option maxRecDepth 20000 in
theorem ct_Bd_copy {E : zE} (hE : zEv E) {l : Launch} (hl : l.stackTraces = false) {D : zD} (hD : zDok E D) (V : Nat → Nat → Int32) (P : Nat → Nat → Value) (PH : aH) (b : Nat) (hb : isB b) (c : Nat) (hc : isB c) (sz : Nat) : zM E l y_Bd_copy [.code y_Bd_copy c_Bd_copy 2 none] rm_Bd_copy [.ref (D.1 b), .ref (D.1 c)] (HM D V P PH) sz (zRet (none) (HM D (vcp V (b + 1) (c + 1) 36) P PH) sz) := by
  refine zM_of hE hl (by decide +kernel) [some (.ref (D.1 b)), some (.ref (D.1 c))] ⟨rfl, rfl, Nat.le_of_ble_eq_true rfl⟩ ?_
  intro G C q htb
  refine Z_run C it_Bd_copy 1 (f2 := (1, [some (.ref (D.1 b)), some (.ref (D.1 c))], [.ref (D.1 c)])) rfl ?_
  refine Zm_get C it_Bd_copy hD rfl c wi_Bd (isB_i hc) (hc.1 _ _ _) rfl (j := 0) (by decide) fl_Bd_9 (v := .ref (D.1 (c + 1))) rfl ?_
  refine Z_run C it_Bd_copy 2 (f2 := (6, [some (.ref (D.1 b)), some (.ref (D.1 c))], [.ref (D.1 b), .int (nI 0), .ref (D.1 (c + 1))])) rfl ?_
  refine Zm_get C it_Bd_copy hD rfl b wi_Bd (isB_i hb) (hb.1 _ _ _) rfl (j := 0) (by decide) fl_Bd_9 (v := .ref (D.1 (b + 1))) rfl ?_
  refine Z_run C it_Bd_copy 2 (f2 := (12, [some (.ref (D.1 b)), some (.ref (D.1 c))], [.int (nI 36), .int (nI 0), .ref (D.1 (b + 1)), .int (nI 0), .ref (D.1 (c + 1))])) rfl ?_
  refine Z_acopy (a0 := D.1 (c + 1)) (a := D.1 (b + 1)) (n0 := 36) (n1 := 36) (f := V (c + 1)) (g := V (b + 1)) (N := 36) C it_Bd_copy rfl ml_Bd_15 wA_nat wA_st wA_ini (by rw [HM_at hD (isB_j hc), hc.2.1]) (by rw [HM_at hD (isB_j hb), hb.2.1]) (by decide) (by decide) (by decide) (hD.2.1 _ (isB_k hb)) rfl ⟨by decide, by decide⟩ ?_
  rw [HM_set (V2 := vcp V (b + 1) (c + 1) 36) (P2 := P) hD (isB_j hb) (by rw [hb.2.1, vcp_s]) (fun z hz => vcp_n hz) (fun _ _ => rfl)]
  exact Z_vret C q.e it_Bd_copy rfl (zRet_vH rfl) (by decide) (by decide)
/-- a position: what came before, the side to move, the four quarters, how often it came up -/
def pcl (ev : Value) (t : Nat) (a : Nat → Nat) (n : Nat) : aC := (4, 0, fun k => match k with
  | 0 => ev
  | 1 => .int (nI t)
  | 2 => .long (lN (a 0))
  | 3 => .long (lN (a 1))
  | 4 => .long (lN (a 2))
  | 5 => .long (lN (a 3))
  | 6 => .int (nI n)
  | k => defaultValue (t_Ps k))
abbrev zPos : Type := Nat × (Nat → Nat) × Nat
def zPok (p : zPos) : Prop := p.1 < 2 ∧ (∀ i, i < 4 → p.2.1 i < 2 ^ 63) ∧ p.2.2 < 2 ^ 31
/-- the value is the head of the chain of the positions L, the latest first -/
def chn (PH : aH) : Value → List zPos → Prop
  | v, [] => v = .null
  | v, p :: L => ∃ (q : Nat) (ev : Value), v = .ref q ∧ PH q = some (pcl ev p.1 p.2.1 p.2.2) ∧ zPok p ∧ chn PH ev L
theorem chn_v {PH : aH} {v : Value} {L : List zPos} (h : chn PH v L) : v = .null ∨ ∃ q, v = .ref q := by
  cases L with
  | nil => exact Or.inl h
  | cons p L =>
    obtain ⟨q, ev, h1, -⟩ := h
    exact Or.inr ⟨q, h1⟩
def lkl (t : Nat) (a : Nat → Nat) (p : zPos) : Bool := t == p.1 && a 0 == p.2.1 0 && a 1 == p.2.1 1 && a 2 == p.2.1 2 && a 3 == p.2.1 3
def tbf (t : Nat) (a : Nat → Nat) : List zPos → Nat
  | [] => 0
  | p :: L => if lkl t a p then p.2.2 else tbf t a L
theorem tbf_lt {PH : aH} {t : Nat} {a : Nat → Nat} : ∀ {L : List zPos} {v : Value}, chn PH v L → tbf t a L < 2 ^ 31 := by
  intro L
  induction L with
  | nil => intro v h; simp [tbf]
  | cons p L ih =>
    intro v h
    obtain ⟨q, ev, h1, h2, h3, h4⟩ := h
    unfold tbf
    split
    · exact h3.2.2
    · exact ih h4
theorem lgc0 {x y : Nat} (hx : x < 2 ^ 63) (hy : y < 2 ^ 63) : lg_cmp (lN x) (lN y) = 0 ↔ x = y := by
  unfold lg_cmp
  by_cases h : x = y
  · subst h
    simp [show ¬ (lN x > lN x) by simp]
  · have h2 : ¬ lN x = lN y := fun z => h ((pk_lEQ hx hy).mp z)
    simp only [h2, if_false, h, iff_false]
    split <;> decide
/-- the fields of a position that are compared -/
def pfs (fs : Nat → Value) (t : Nat) (a : Nat → Nat) : Prop := fs 1 = .int (nI t) ∧ fs 2 = .long (lN (a 0)) ∧ fs 3 = .long (lN (a 1)) ∧ fs 4 = .long (lN (a 2)) ∧ fs 5 = .long (lN (a 3)) ∧ t < 2 ∧ ∀ i, i < 4 → a i < 2 ^ 63
def notD (D : zD) (q : Nat) : Prop := ¬ (zin (D.2.1 q) ∧ D.1 (D.2.1 q) = q)
theorem HM_p {D : zD} {V : Nat → Nat → Int32} {P : Nat → Nat → Value} {PH : aH} {q : Nat} (h : notD D q) : HM D V P PH q = PH q := by
  unfold HM
  rw [if_neg h]
def okP (D : zD) (PH : aH) : Prop := ∀ q c, PH q = some c → notD D q
theorem HM_pc {D : zD} {V : Nat → Nat → Int32} {P : Nat → Nat → Value} {PH : aH} {q : Nat} {c : aC} (h : okP D PH) (hc : PH q = some c) : HM D V P PH q = some c := by
  rw [HM_p (h q c hc), hc]
theorem HM_ps {D : zD} {V : Nat → Nat → Int32} {P : Nat → Nat → Value} {PH : aH} {q : Nat} {c : aC} (h : notD D q) : hset (HM D V P PH) q c = HM D V P (hset PH q c) := by
  funext a
  by_cases e : a = q
  · subst e
    rw [hset_s, HM_p h, hset_s]
  · rw [hset_n e]
    unfold HM
    rw [hset_n e]
theorem hset_2 {PH : aH} {q : Nat} {c d : aC} : hset (hset PH q c) q d = hset PH q d := by
  funext a
  unfold hset
  split <;> rfl
theorem okP_set {D : zD} {PH : aH} {q : Nat} {c : aC} (h : okP D PH) (hq : notD D q) : okP D (hset PH q c) := by
  intro a d hd
  by_cases e : a = q
  · rw [e]; exact hq
  · rw [hset_n e] at hd
    exact h a d hd
theorem hset_o {PH : aH} {q a : Nat} {c d : aC} (hq : PH q = none) (ha : PH a = some d) : hset PH q c a = some d := by
  rw [hset_n (fun e => by rw [e, hq] at ha; cases ha)]
  exact ha
theorem chn_set {PH : aH} {q : Nat} {c : aC} (hq : PH q = none) : ∀ {L : List zPos} {v : Value}, chn PH v L → chn (hset PH q c) v L := by
  intro L
  induction L with
  | nil => intro v h; exact h
  | cons p L ih =>
    intro v h
    obtain ⟨a, ev, h1, h2, h3, h4⟩ := h
    exact ⟨a, ev, h1, hset_o hq h2, h3, ih h4⟩
set_option maxRecDepth 20000 in
theorem ct_Ps_looksLike {E : zE} (hE : zEv E) {l : Launch} (hl : l.stackTraces = false) (h : aH) (q1 q2 t : Nat) (a : Nat → Nat) (fs f2 : Nat → Value) (p : zPos) (h1 : h q1 = some (4, 0, fs)) (h2 : h q2 = some (4, 0, f2)) (hp1 : pfs fs t a) (hp2 : pfs f2 p.1 p.2.1) (sz : Nat) : zM E l y_Ps_looksLike [.code y_Ps_looksLike c_Ps_looksLike 2 (some .boolean)] rm_Ps_looksLike [.ref q1, .ref q2] h sz (zRet (some (.int (bI (lkl t a p)))) h sz) := by
  refine zM_of hE hl (by decide +kernel) [some (.ref q1), some (.ref q2)] ⟨rfl, rfl, Nat.le_of_ble_eq_true rfl⟩ ?_
  intro G C q htb
  have ht1 := hp1.2.2.2.2.2.1
  have ht2 := hp2.2.2.2.2.2.1
  refine Z_run C it_Ps_looksLike 1 (f2 := (1, [some (.ref q1), some (.ref q2)], [.ref q1])) rfl ?_
  refine Z_getf C it_Ps_looksLike rfl wi_Ps h1 rfl (j := 1) (by decide) fl_Ps_13 (v := .int (nI t)) hp1.1 ?_
  refine Z_run C it_Ps_looksLike 1 (f2 := (5, [some (.ref q1), some (.ref q2)], [.ref q2, .int (nI t)])) rfl ?_
  refine Z_getf C it_Ps_looksLike rfl wi_Ps h2 rfl (j := 1) (by decide) fl_Ps_13 (v := .int (nI p.1)) hp2.1 ?_
  refine Z_br C it_Ps_looksLike rfl rfl (fun hc1 => ?_) (fun hc1 => ?_)
  · replace hc1 : ¬ _ := fun z9 => hc1 ((nI_eq (a := t) (b := p.1) (by omega) (by omega)).mpr z9)
    refine Z_run C it_Ps_looksLike 1 (f2 := (64, [some (.ref q1), some (.ref q2)], [.int (nI 0)])) rfl ?_
    exact Z_zret C q.e it_Ps_looksLike rfl (Or.inl rfl) (zRet_i (bI_f (by first | (simp [lkl, hc5]; done) | (simp [lkl, hc4]; done) | (simp [lkl, hc3]; done) | (simp [lkl, hc2]; done) | (simp [lkl, hc1]; done)))) (by decide) (by decide)
  · replace hc1 := Classical.not_not.mp hc1
    replace hc1 := (nI_eq (a := t) (b := p.1) (by omega) (by omega)).mp hc1
    refine Z_run C it_Ps_looksLike 1 (f2 := (12, [some (.ref q1), some (.ref q2)], [.ref q1])) rfl ?_
    refine Z_getf C it_Ps_looksLike rfl wi_Ps h1 rfl (j := 2) (by decide) fl_Ps_23 (v := .long (lN (a 0))) hp1.2.1 ?_
    refine Z_run C it_Ps_looksLike 1 (f2 := (16, [some (.ref q1), some (.ref q2)], [.ref q2, .long (lN (a 0))])) rfl ?_
    refine Z_getf C it_Ps_looksLike rfl wi_Ps h2 rfl (j := 2) (by decide) fl_Ps_23 (v := .long (lN (p.2.1 0))) hp2.2.1 ?_
    refine Z_run C it_Ps_looksLike 1 (f2 := (20, [some (.ref q1), some (.ref q2)], [.int (lg_cmp (lN (a 0)) (lN (p.2.1 0)))])) rfl ?_
    refine Z_br C it_Ps_looksLike rfl rfl (fun hc2 => ?_) (fun hc2 => ?_)
    · replace hc2 : ¬ a 0 = p.2.1 0 := fun z9 => hc2 ((lgc0 (hp1.2.2.2.2.2.2 0 (by decide)) (hp2.2.2.2.2.2.2 0 (by decide))).mpr z9)
      refine Z_run C it_Ps_looksLike 1 (f2 := (64, [some (.ref q1), some (.ref q2)], [.int (nI 0)])) rfl ?_
      exact Z_zret C q.e it_Ps_looksLike rfl (Or.inl rfl) (zRet_i (bI_f (by first | (simp [lkl, hc5]; done) | (simp [lkl, hc4]; done) | (simp [lkl, hc3]; done) | (simp [lkl, hc2]; done) | (simp [lkl, hc1]; done)))) (by decide) (by decide)
    · replace hc2 := (lgc0 (hp1.2.2.2.2.2.2 0 (by decide)) (hp2.2.2.2.2.2.2 0 (by decide))).mp (Classical.not_not.mp hc2)
      refine Z_run C it_Ps_looksLike 1 (f2 := (24, [some (.ref q1), some (.ref q2)], [.ref q1])) rfl ?_
      refine Z_getf C it_Ps_looksLike rfl wi_Ps h1 rfl (j := 3) (by decide) fl_Ps_27 (v := .long (lN (a 1))) hp1.2.2.1 ?_
      refine Z_run C it_Ps_looksLike 1 (f2 := (28, [some (.ref q1), some (.ref q2)], [.ref q2, .long (lN (a 1))])) rfl ?_
      refine Z_getf C it_Ps_looksLike rfl wi_Ps h2 rfl (j := 3) (by decide) fl_Ps_27 (v := .long (lN (p.2.1 1))) hp2.2.2.1 ?_
      refine Z_run C it_Ps_looksLike 1 (f2 := (32, [some (.ref q1), some (.ref q2)], [.int (lg_cmp (lN (a 1)) (lN (p.2.1 1)))])) rfl ?_
      refine Z_br C it_Ps_looksLike rfl rfl (fun hc3 => ?_) (fun hc3 => ?_)
      · replace hc3 : ¬ a 1 = p.2.1 1 := fun z9 => hc3 ((lgc0 (hp1.2.2.2.2.2.2 1 (by decide)) (hp2.2.2.2.2.2.2 1 (by decide))).mpr z9)
        refine Z_run C it_Ps_looksLike 1 (f2 := (64, [some (.ref q1), some (.ref q2)], [.int (nI 0)])) rfl ?_
        exact Z_zret C q.e it_Ps_looksLike rfl (Or.inl rfl) (zRet_i (bI_f (by first | (simp [lkl, hc5]; done) | (simp [lkl, hc4]; done) | (simp [lkl, hc3]; done) | (simp [lkl, hc2]; done) | (simp [lkl, hc1]; done)))) (by decide) (by decide)
      · replace hc3 := (lgc0 (hp1.2.2.2.2.2.2 1 (by decide)) (hp2.2.2.2.2.2.2 1 (by decide))).mp (Classical.not_not.mp hc3)
        refine Z_run C it_Ps_looksLike 1 (f2 := (36, [some (.ref q1), some (.ref q2)], [.ref q1])) rfl ?_
        refine Z_getf C it_Ps_looksLike rfl wi_Ps h1 rfl (j := 4) (by decide) fl_Ps_30 (v := .long (lN (a 2))) hp1.2.2.2.1 ?_
        refine Z_run C it_Ps_looksLike 1 (f2 := (40, [some (.ref q1), some (.ref q2)], [.ref q2, .long (lN (a 2))])) rfl ?_
        refine Z_getf C it_Ps_looksLike rfl wi_Ps h2 rfl (j := 4) (by decide) fl_Ps_30 (v := .long (lN (p.2.1 2))) hp2.2.2.2.1 ?_
        refine Z_run C it_Ps_looksLike 1 (f2 := (44, [some (.ref q1), some (.ref q2)], [.int (lg_cmp (lN (a 2)) (lN (p.2.1 2)))])) rfl ?_
        refine Z_br C it_Ps_looksLike rfl rfl (fun hc4 => ?_) (fun hc4 => ?_)
        · replace hc4 : ¬ a 2 = p.2.1 2 := fun z9 => hc4 ((lgc0 (hp1.2.2.2.2.2.2 2 (by decide)) (hp2.2.2.2.2.2.2 2 (by decide))).mpr z9)
          refine Z_run C it_Ps_looksLike 1 (f2 := (64, [some (.ref q1), some (.ref q2)], [.int (nI 0)])) rfl ?_
          exact Z_zret C q.e it_Ps_looksLike rfl (Or.inl rfl) (zRet_i (bI_f (by first | (simp [lkl, hc5]; done) | (simp [lkl, hc4]; done) | (simp [lkl, hc3]; done) | (simp [lkl, hc2]; done) | (simp [lkl, hc1]; done)))) (by decide) (by decide)
        · replace hc4 := (lgc0 (hp1.2.2.2.2.2.2 2 (by decide)) (hp2.2.2.2.2.2.2 2 (by decide))).mp (Classical.not_not.mp hc4)
          refine Z_run C it_Ps_looksLike 1 (f2 := (48, [some (.ref q1), some (.ref q2)], [.ref q1])) rfl ?_
          refine Z_getf C it_Ps_looksLike rfl wi_Ps h1 rfl (j := 5) (by decide) fl_Ps_33 (v := .long (lN (a 3))) hp1.2.2.2.2.1 ?_
          refine Z_run C it_Ps_looksLike 1 (f2 := (52, [some (.ref q1), some (.ref q2)], [.ref q2, .long (lN (a 3))])) rfl ?_
          refine Z_getf C it_Ps_looksLike rfl wi_Ps h2 rfl (j := 5) (by decide) fl_Ps_33 (v := .long (lN (p.2.1 3))) hp2.2.2.2.2.1 ?_
          refine Z_run C it_Ps_looksLike 1 (f2 := (56, [some (.ref q1), some (.ref q2)], [.int (lg_cmp (lN (a 3)) (lN (p.2.1 3)))])) rfl ?_
          refine Z_br C it_Ps_looksLike rfl rfl (fun hc5 => ?_) (fun hc5 => ?_)
          · replace hc5 : ¬ a 3 = p.2.1 3 := fun z9 => hc5 ((lgc0 (hp1.2.2.2.2.2.2 3 (by decide)) (hp2.2.2.2.2.2.2 3 (by decide))).mpr z9)
            refine Z_run C it_Ps_looksLike 1 (f2 := (64, [some (.ref q1), some (.ref q2)], [.int (nI 0)])) rfl ?_
            exact Z_zret C q.e it_Ps_looksLike rfl (Or.inl rfl) (zRet_i (bI_f (by first | (simp [lkl, hc5]; done) | (simp [lkl, hc4]; done) | (simp [lkl, hc3]; done) | (simp [lkl, hc2]; done) | (simp [lkl, hc1]; done)))) (by decide) (by decide)
          · replace hc5 := (lgc0 (hp1.2.2.2.2.2.2 3 (by decide)) (hp2.2.2.2.2.2.2 3 (by decide))).mp (Classical.not_not.mp hc5)
            refine Z_run C it_Ps_looksLike 2 (f2 := (64, [some (.ref q1), some (.ref q2)], [.int (nI 1)])) rfl ?_
            exact Z_zret C q.e it_Ps_looksLike rfl (Or.inr rfl) (zRet_i (bI_t (by simp [lkl, hc1, hc2, hc3, hc4, hc5]))) (by decide) (by decide)
theorem pfs_pcl {ev : Value} {p : zPos} (h : zPok p) : pfs (pcl ev p.1 p.2.1 p.2.2).2.2 p.1 p.2.1 := ⟨rfl, rfl, rfl, rfl, rfl, h.1, h.2.1⟩
set_option maxRecDepth 20000 in
theorem lp_Ps_timesBefore {E : zE} {G : zG} {O : zO} (C : zCx E G c_Ps_timesBefore 2 y_Ps_timesBefore.cls y_Ps_timesBefore.name (some .int) rm_Ps_timesBefore) (q : zEndX E G O rm_Ps_timesBefore.cells rm_Ps_timesBefore.slots)  {D : zD} (hD : zDok E D) (V : Nat → Nat → Int32) (P : Nat → Nat → Value) (PH : aH) (hP : okP D PH) (q0 t : Nat) (a : Nat → Nat) (fs : Nat → Value) (hn0 : notD D q0) (hPq : PH q0 = none) (hpf : pfs fs t a) {sz : Nat} : ∀ (L : List zPos) (v : Value), chn PH v L → O (.inl (some (.int (nI (tbf t a L))))) (HM D V P (hset PH q0 (4, 0, fs))) sz → Z E G (HM D V P (hset PH q0 (4, 0, fs))) sz 0 0 (5, [some (.ref q0), some v], []) := by
  have hq0 : HM D V P (hset PH q0 (4, 0, fs)) q0 = some (4, 0, fs) := by rw [HM_p hn0, hset_s]
  intro L
  induction L with
  | nil =>
    intro v hch hO
    have hv : v = .null := hch
    subst hv
    refine Z_run C it_Ps_timesBefore 3 (f2 := (31, [some (.ref q0), some (.null)], [.int (nI 0)])) rfl ?_
    exact Z_iret C q.e it_Ps_timesBefore rfl (hO) (by decide) (by decide)
  | cons p L ih =>
    intro v hch hO
    obtain ⟨q1, ev, hv, hp1, hpk, hch⟩ := hch
    subst hv
    have hq1 : HM D V P (hset PH q0 (4, 0, fs)) q1 = some (4, 0, (pcl ev p.1 p.2.1 p.2.2).2.2) := by rw [HM_p (hP q1 _ hp1), hset_o hPq hp1]; rfl
    unfold tbf at hO
    refine Z_run C it_Ps_timesBefore 4 (f2 := (11, [some (.ref q0), some (.ref q1)], [.ref q1, .ref q0])) rfl ?_
    refine Zr_callVh C it_Ps_timesBefore rfl p_Ps_looksLike ml_Ps_43 [.ref q1] (ct_Ps_looksLike C.ev C.l _ q0 q1 t a _ _ p hq0 hq1 hpf (pfs_pcl hpk) _) rfl rfl hq0 rfl ⟨by decide, by decide, by decide, by decide⟩ (Nat.le_of_ble_eq_true rfl) rfl ?_
    show Z E G (HM D V P (hset PH q0 (4, 0, fs))) sz 0 0 (14, [some (.ref q0), some (.ref q1)], [.int (bI (lkl t a p))])
    refine Z_br C it_Ps_timesBefore rfl rfl (fun hc1 => ?_) (fun hc1 => ?_)
    · replace hc1 := bI_0.mp hc1
      refine Z_run C it_Ps_timesBefore 1 (f2 := (23, [some (.ref q0), some (.ref q1)], [.ref q1])) rfl ?_
      rcases chn_v hch with rfl | ⟨q2, rfl⟩
      · refine Z_getf C it_Ps_timesBefore rfl wi_Ps hq1 rfl (j := 0) (by decide) fl_Ps_7 (v := .null) rfl ?_
        refine Z_run C it_Ps_timesBefore 2 (f2 := (5, [some (.ref q0), some (.null)], [])) rfl ?_
        exact ih _ hch (by rw [hc1] at hO; exact hO)
      · refine Z_getf C it_Ps_timesBefore rfl wi_Ps hq1 rfl (j := 0) (by decide) fl_Ps_7 (v := .ref q2) rfl ?_
        refine Z_run C it_Ps_timesBefore 2 (f2 := (5, [some (.ref q0), some (.ref q2)], [])) rfl ?_
        exact ih _ hch (by rw [hc1] at hO; exact hO)
    · replace hc1 := bI_1.mp hc1
      refine Z_run C it_Ps_timesBefore 1 (f2 := (18, [some (.ref q0), some (.ref q1)], [.ref q1])) rfl ?_
      refine Z_getf C it_Ps_timesBefore rfl wi_Ps hq1 rfl (j := 6) (by decide) fl_Ps_40 (v := .int (nI p.2.2)) rfl ?_
      exact Z_iret C q.e it_Ps_timesBefore rfl (by rw [hc1] at hO; exact hO) (by decide) (by decide)
set_option maxRecDepth 20000 in
theorem ct_Ps_timesBefore_n {E : zE} (hE : zEv E) {l : Launch} (hl : l.stackTraces = false) {D : zD} (hD : zDok E D) (V : Nat → Nat → Int32) (P : Nat → Nat → Value) (PH : aH) (hP : okP D PH) (q0 t : Nat) (a : Nat → Nat) (fs : Nat → Value) (hn0 : notD D q0) (hPq : PH q0 = none) (hpf : pfs fs t a) (hf0 : fs 0 = .null) (L : List zPos) (hch : chn PH (.null) L) (sz : Nat) : zM E l y_Ps_timesBefore [.code y_Ps_timesBefore c_Ps_timesBefore 2 (some .int)] rm_Ps_timesBefore [.ref q0] (HM D V P (hset PH q0 (4, 0, fs))) sz (zRet (some (.int (nI (tbf t a L)))) (HM D V P (hset PH q0 (4, 0, fs))) sz) := by
  refine zM_of hE hl (by decide +kernel) [some (.ref q0), none] ⟨rfl, rfl, Nat.le_of_ble_eq_true rfl⟩ ?_
  intro G C q htb
  have hq0 : HM D V P (hset PH q0 (4, 0, fs)) q0 = some (4, 0, fs) := by rw [HM_p hn0, hset_s]
  refine Z_run C it_Ps_timesBefore 1 (f2 := (1, [some (.ref q0), none], [.ref q0])) rfl ?_
  refine Z_getf C it_Ps_timesBefore rfl wi_Ps hq0 rfl (j := 0) (by decide) fl_Ps_7 (v := .null) hf0 ?_
  refine Z_run C it_Ps_timesBefore 1 (f2 := (5, [some (.ref q0), some (.null)], [])) rfl ?_
  exact lp_Ps_timesBefore C q hD V P PH hP q0 t a fs hn0 hPq hpf L _ hch ⟨rfl, rfl, rfl⟩
set_option maxRecDepth 20000 in
theorem ct_Ps_timesBefore_r {E : zE} (hE : zEv E) {l : Launch} (hl : l.stackTraces = false) {D : zD} (hD : zDok E D) (V : Nat → Nat → Int32) (P : Nat → Nat → Value) (PH : aH) (hP : okP D PH) (q0 t : Nat) (a : Nat → Nat) (fs : Nat → Value) (hn0 : notD D q0) (hPq : PH q0 = none) (hpf : pfs fs t a) (q9 : Nat) (hf0 : fs 0 = .ref q9) (L : List zPos) (hch : chn PH (.ref q9) L) (sz : Nat) : zM E l y_Ps_timesBefore [.code y_Ps_timesBefore c_Ps_timesBefore 2 (some .int)] rm_Ps_timesBefore [.ref q0] (HM D V P (hset PH q0 (4, 0, fs))) sz (zRet (some (.int (nI (tbf t a L)))) (HM D V P (hset PH q0 (4, 0, fs))) sz) := by
  refine zM_of hE hl (by decide +kernel) [some (.ref q0), none] ⟨rfl, rfl, Nat.le_of_ble_eq_true rfl⟩ ?_
  intro G C q htb
  have hq0 : HM D V P (hset PH q0 (4, 0, fs)) q0 = some (4, 0, fs) := by rw [HM_p hn0, hset_s]
  refine Z_run C it_Ps_timesBefore 1 (f2 := (1, [some (.ref q0), none], [.ref q0])) rfl ?_
  refine Z_getf C it_Ps_timesBefore rfl wi_Ps hq0 rfl (j := 0) (by decide) fl_Ps_7 (v := .ref q9) hf0 ?_
  refine Z_run C it_Ps_timesBefore 1 (f2 := (5, [some (.ref q0), some (.ref q9)], [])) rfl ?_
  exact lp_Ps_timesBefore C q hD V P PH hP q0 t a fs hn0 hPq hpf L _ hch ⟨rfl, rfl, rfl⟩
section ZPP
variable {E : zE} {G : zG} {cc : ByteArray} {nL : Nat} {own nm : String} {ret : Option FieldType} {R : Room} {sz k n : Nat} {t : List zI} {pc : Nat} {ls : zL} {rest : List Value} {D : zD} {V : Nat → Nat → Int32} {P : Nat → Nat → Value} {PH : aH}
theorem Zp_put (C : zCx E G cc nL own nm ret R) (ht : zT cc t) {idx : Nat} {r : Nat × Int32 × Nat} (hl : t.lookup pc = some (.putfield idx, r)) {q j : Nat} {fs : Nat → Value} (hn : notD D q) (hB : zB E ≤ q) (hj : j < 7) (hlink : Cond.fieldLink own idx (F_Ps j).1 (F_Ps j).2.1 (F_Ps j).2.2.1 ∈ zWs) (hown : (F_Ps j).1 = own ∧ nm = "<init>") {x : Value} (hna : narrow (t_Ps j) x = x) (hfit : fits (t_Ps j) x = true) (kk : Z E G (HM D V P (hset PH q (4, 0, updV fs j x))) sz k n (pc + 3, ls, rest)) : Z E G (HM D V P (hset PH q (4, 0, fs))) sz k n (pc, ls, x :: .ref q :: rest) := by
  refine Z_putf C ht hl wi_Ps t_Ps t_Ps_ok n_Ps (ci := 4) (by rw [HM_p hn, hset_s]) rfl hj hlink (Or.inr hown) hna hfit hB ?_
  rw [HM_ps hn, hset_2]
  exact kk
end ZPP
def pq4 (F : Nat → Nat) : Nat → Nat := fun i => qtr F i 9
def fs0 : Nat → Value := fun j => defaultValue (t_Ps j)
set_option maxRecDepth 20000 in
theorem ct_Ps_init_n {E : zE} (hE : zEv E) {l : Launch} (hl : l.stackTraces = false) {D : zD} (hD : zDok E D) (V : Nat → Nat → Int32) (P : Nat → Nat → Value) (PH : aH) (b : Nat) (hb : isB b) (hF : okF (bF V b)) (hP : okP D PH) (q0 t : Nat) (ht : t < 2) (hn0 : notD D q0) (hBq : zB E ≤ q0) (hPq : PH q0 = none) (L : List zPos) (hch : chn PH (.null) L) (sz : Nat) : zK E l y_Ps_init [.code y_Ps_init c_Ps_init 4 none] rm_Ps_init [.ref q0, .null, .ref (D.1 b), .int (nI t)] (HM D V P (hset PH q0 (4, 0, fs0))) sz (zRet none (HM D V P (hset PH q0 (pcl (.null) t (pq4 (bF V b)) (1 + tbf t (pq4 (bF V b)) L)))) sz) := by
  refine zK_of hE hl (by decide +kernel) [some (.ref q0), some (.null), some (.ref (D.1 b)), some (.int (nI t))] ⟨rfl, rfl, Nat.le_of_ble_eq_true rfl⟩ ?_
  intro G C q
  refine Z_run C it_Ps_init 1 (f2 := (1, [some (.ref q0), some (.null), some (.ref (D.1 b)), some (.int (nI t))], [.ref q0])) rfl ?_
  refine Z_oinit C it_Ps_init rfl ml_Ps_o wO_in wO_co rfl ⟨by decide, by decide⟩ ?_
  refine Z_run C it_Ps_init 2 (f2 := (6, [some (.ref q0), some (.null), some (.ref (D.1 b)), some (.int (nI t))], [.null, .ref q0])) rfl ?_
  refine Zp_put C it_Ps_init rfl (j := 0) hn0 hBq (by decide) fl_Ps_7 ⟨rfl, rfl⟩ (x := .null) rfl rfl ?_
  refine Z_run C it_Ps_init 2 (f2 := (11, [some (.ref q0), some (.null), some (.ref (D.1 b)), some (.int (nI t))], [.int (nI t), .ref q0])) rfl ?_
  refine Zp_put C it_Ps_init rfl (j := 1) hn0 hBq (by decide) fl_Ps_13 ⟨rfl, rfl⟩ (x := .int (nI t)) rfl rfl ?_
  refine Z_run C it_Ps_init 3 (f2 := (17, [some (.ref q0), some (.null), some (.ref (D.1 b)), some (.int (nI t))], [.int (nI 0), .ref (D.1 b), .ref q0])) rfl ?_
  refine Zr_callV C it_Ps_init hD rfl p_Bd_quarter ml_Ps_17 b (isB_i hb) (hb.1 _ _ _) rfl [.int (nI 0)] (ct_Bd_quarter C.ev C.l hD _ _ _ b hb hF 0 (by omega) _) rfl rfl ⟨by decide, by decide, by decide, by decide⟩ (Nat.le_of_ble_eq_true rfl) rfl ?_
  show Z E G (HM D V P (hset PH q0 (4, 0, (updV (updV fs0 0 (.null)) 1 (.int (nI t)))))) sz 0 0 (20, [some (.ref q0), some (.null), some (.ref (D.1 b)), some (.int (nI t))], [.long (lN (qtr (bF V b) 0 9)), .ref q0])
  refine Zp_put C it_Ps_init rfl (j := 2) hn0 hBq (by decide) fl_Ps_23 ⟨rfl, rfl⟩ (x := .long (lN (qtr (bF V b) 0 9))) rfl rfl ?_
  refine Z_run C it_Ps_init 3 (f2 := (26, [some (.ref q0), some (.null), some (.ref (D.1 b)), some (.int (nI t))], [.int (nI 1), .ref (D.1 b), .ref q0])) rfl ?_
  refine Zr_callV C it_Ps_init hD rfl p_Bd_quarter ml_Ps_17 b (isB_i hb) (hb.1 _ _ _) rfl [.int (nI 1)] (ct_Bd_quarter C.ev C.l hD _ _ _ b hb hF 1 (by omega) _) rfl rfl ⟨by decide, by decide, by decide, by decide⟩ (Nat.le_of_ble_eq_true rfl) rfl ?_
  show Z E G (HM D V P (hset PH q0 (4, 0, (updV (updV (updV fs0 0 (.null)) 1 (.int (nI t))) 2 (.long (lN (qtr (bF V b) 0 9))))))) sz 0 0 (29, [some (.ref q0), some (.null), some (.ref (D.1 b)), some (.int (nI t))], [.long (lN (qtr (bF V b) 1 9)), .ref q0])
  refine Zp_put C it_Ps_init rfl (j := 3) hn0 hBq (by decide) fl_Ps_27 ⟨rfl, rfl⟩ (x := .long (lN (qtr (bF V b) 1 9))) rfl rfl ?_
  refine Z_run C it_Ps_init 3 (f2 := (35, [some (.ref q0), some (.null), some (.ref (D.1 b)), some (.int (nI t))], [.int (nI 2), .ref (D.1 b), .ref q0])) rfl ?_
  refine Zr_callV C it_Ps_init hD rfl p_Bd_quarter ml_Ps_17 b (isB_i hb) (hb.1 _ _ _) rfl [.int (nI 2)] (ct_Bd_quarter C.ev C.l hD _ _ _ b hb hF 2 (by omega) _) rfl rfl ⟨by decide, by decide, by decide, by decide⟩ (Nat.le_of_ble_eq_true rfl) rfl ?_
  show Z E G (HM D V P (hset PH q0 (4, 0, (updV (updV (updV (updV fs0 0 (.null)) 1 (.int (nI t))) 2 (.long (lN (qtr (bF V b) 0 9)))) 3 (.long (lN (qtr (bF V b) 1 9))))))) sz 0 0 (38, [some (.ref q0), some (.null), some (.ref (D.1 b)), some (.int (nI t))], [.long (lN (qtr (bF V b) 2 9)), .ref q0])
  refine Zp_put C it_Ps_init rfl (j := 4) hn0 hBq (by decide) fl_Ps_30 ⟨rfl, rfl⟩ (x := .long (lN (qtr (bF V b) 2 9))) rfl rfl ?_
  refine Z_run C it_Ps_init 3 (f2 := (44, [some (.ref q0), some (.null), some (.ref (D.1 b)), some (.int (nI t))], [.int (nI 3), .ref (D.1 b), .ref q0])) rfl ?_
  refine Zr_callV C it_Ps_init hD rfl p_Bd_quarter ml_Ps_17 b (isB_i hb) (hb.1 _ _ _) rfl [.int (nI 3)] (ct_Bd_quarter C.ev C.l hD _ _ _ b hb hF 3 (by omega) _) rfl rfl ⟨by decide, by decide, by decide, by decide⟩ (Nat.le_of_ble_eq_true rfl) rfl ?_
  show Z E G (HM D V P (hset PH q0 (4, 0, (updV (updV (updV (updV (updV fs0 0 (.null)) 1 (.int (nI t))) 2 (.long (lN (qtr (bF V b) 0 9)))) 3 (.long (lN (qtr (bF V b) 1 9)))) 4 (.long (lN (qtr (bF V b) 2 9))))))) sz 0 0 (47, [some (.ref q0), some (.null), some (.ref (D.1 b)), some (.int (nI t))], [.long (lN (qtr (bF V b) 3 9)), .ref q0])
  refine Zp_put C it_Ps_init rfl (j := 5) hn0 hBq (by decide) fl_Ps_33 ⟨rfl, rfl⟩ (x := .long (lN (qtr (bF V b) 3 9))) rfl rfl ?_
  refine Z_run C it_Ps_init 3 (f2 := (53, [some (.ref q0), some (.null), some (.ref (D.1 b)), some (.int (nI t))], [.ref q0, .int (nI 1), .ref q0])) rfl ?_
  refine Zr_callVh C it_Ps_init rfl p_Ps_timesBefore ml_Ps_36 [] (ct_Ps_timesBefore_n C.ev C.l hD V P PH hP q0 t (pq4 (bF V b)) _ hn0 hPq ⟨rfl, rfl, rfl, rfl, rfl, ht, fun i hi => qtr_63 hF (by omega) (by omega)⟩ rfl L hch _) rfl rfl (by rw [HM_p hn0, hset_s]) rfl ⟨by decide, by decide, by decide, by decide⟩ (Nat.le_of_ble_eq_true rfl) rfl ?_
  show Z E G (HM D V P (hset PH q0 (4, 0, (updV (updV (updV (updV (updV (updV fs0 0 (.null)) 1 (.int (nI t))) 2 (.long (lN (qtr (bF V b) 0 9)))) 3 (.long (lN (qtr (bF V b) 1 9)))) 4 (.long (lN (qtr (bF V b) 2 9)))) 5 (.long (lN (qtr (bF V b) 3 9))))))) sz 0 0 (56, [some (.ref q0), some (.null), some (.ref (D.1 b)), some (.int (nI t))], [.int (nI (tbf t (pq4 (bF V b)) L)), .int (nI 1), .ref q0])
  refine Z_run C it_Ps_init 1 (f2 := (57, [some (.ref q0), some (.null), some (.ref (D.1 b)), some (.int (nI t))], [.int (nI 1 + nI (tbf t (pq4 (bF V b)) L)), .ref q0])) rfl ?_
  rw [nI_add 1 (tbf t (pq4 (bF V b)) L)]
  refine Zp_put C it_Ps_init rfl (j := 6) hn0 hBq (by decide) fl_Ps_40 ⟨rfl, rfl⟩ (x := .int (nI (1 + tbf t (pq4 (bF V b)) L))) rfl rfl ?_
  have pcl_e : (4, 0, (updV (updV (updV (updV (updV (updV (updV fs0 0 (.null)) 1 (.int (nI t))) 2 (.long (lN (qtr (bF V b) 0 9)))) 3 (.long (lN (qtr (bF V b) 1 9)))) 4 (.long (lN (qtr (bF V b) 2 9)))) 5 (.long (lN (qtr (bF V b) 3 9)))) 6 (.int (nI (1 + tbf t (pq4 (bF V b)) L))))) = pcl (.null) t (pq4 (bF V b)) (1 + tbf t (pq4 (bF V b)) L) := by
    unfold pcl
    congr 2
    funext k9
    match k9 with
    | 0 => rfl
    | 1 => rfl
    | 2 => rfl
    | 3 => rfl
    | 4 => rfl
    | 5 => rfl
    | 6 => rfl
    | k9 + 7 => simp [updV, fs0]
  exact Z_vret C q it_Ps_init rfl (zRet_vH (by rw [pcl_e])) (by decide) (by decide)
set_option maxRecDepth 20000 in
theorem ct_Ps_init_r {E : zE} (hE : zEv E) {l : Launch} (hl : l.stackTraces = false) {D : zD} (hD : zDok E D) (V : Nat → Nat → Int32) (P : Nat → Nat → Value) (PH : aH) (b : Nat) (hb : isB b) (hF : okF (bF V b)) (hP : okP D PH) (q0 t : Nat) (ht : t < 2) (hn0 : notD D q0) (hBq : zB E ≤ q0) (hPq : PH q0 = none) (q9 : Nat) (L : List zPos) (hch : chn PH (.ref q9) L) (sz : Nat) : zK E l y_Ps_init [.code y_Ps_init c_Ps_init 4 none] rm_Ps_init [.ref q0, .ref q9, .ref (D.1 b), .int (nI t)] (HM D V P (hset PH q0 (4, 0, fs0))) sz (zRet none (HM D V P (hset PH q0 (pcl (.ref q9) t (pq4 (bF V b)) (1 + tbf t (pq4 (bF V b)) L)))) sz) := by
  refine zK_of hE hl (by decide +kernel) [some (.ref q0), some (.ref q9), some (.ref (D.1 b)), some (.int (nI t))] ⟨rfl, rfl, Nat.le_of_ble_eq_true rfl⟩ ?_
  intro G C q
  refine Z_run C it_Ps_init 1 (f2 := (1, [some (.ref q0), some (.ref q9), some (.ref (D.1 b)), some (.int (nI t))], [.ref q0])) rfl ?_
  refine Z_oinit C it_Ps_init rfl ml_Ps_o wO_in wO_co rfl ⟨by decide, by decide⟩ ?_
  refine Z_run C it_Ps_init 2 (f2 := (6, [some (.ref q0), some (.ref q9), some (.ref (D.1 b)), some (.int (nI t))], [.ref q9, .ref q0])) rfl ?_
  refine Zp_put C it_Ps_init rfl (j := 0) hn0 hBq (by decide) fl_Ps_7 ⟨rfl, rfl⟩ (x := .ref q9) rfl rfl ?_
  refine Z_run C it_Ps_init 2 (f2 := (11, [some (.ref q0), some (.ref q9), some (.ref (D.1 b)), some (.int (nI t))], [.int (nI t), .ref q0])) rfl ?_
  refine Zp_put C it_Ps_init rfl (j := 1) hn0 hBq (by decide) fl_Ps_13 ⟨rfl, rfl⟩ (x := .int (nI t)) rfl rfl ?_
  refine Z_run C it_Ps_init 3 (f2 := (17, [some (.ref q0), some (.ref q9), some (.ref (D.1 b)), some (.int (nI t))], [.int (nI 0), .ref (D.1 b), .ref q0])) rfl ?_
  refine Zr_callV C it_Ps_init hD rfl p_Bd_quarter ml_Ps_17 b (isB_i hb) (hb.1 _ _ _) rfl [.int (nI 0)] (ct_Bd_quarter C.ev C.l hD _ _ _ b hb hF 0 (by omega) _) rfl rfl ⟨by decide, by decide, by decide, by decide⟩ (Nat.le_of_ble_eq_true rfl) rfl ?_
  show Z E G (HM D V P (hset PH q0 (4, 0, (updV (updV fs0 0 (.ref q9)) 1 (.int (nI t)))))) sz 0 0 (20, [some (.ref q0), some (.ref q9), some (.ref (D.1 b)), some (.int (nI t))], [.long (lN (qtr (bF V b) 0 9)), .ref q0])
  refine Zp_put C it_Ps_init rfl (j := 2) hn0 hBq (by decide) fl_Ps_23 ⟨rfl, rfl⟩ (x := .long (lN (qtr (bF V b) 0 9))) rfl rfl ?_
  refine Z_run C it_Ps_init 3 (f2 := (26, [some (.ref q0), some (.ref q9), some (.ref (D.1 b)), some (.int (nI t))], [.int (nI 1), .ref (D.1 b), .ref q0])) rfl ?_
  refine Zr_callV C it_Ps_init hD rfl p_Bd_quarter ml_Ps_17 b (isB_i hb) (hb.1 _ _ _) rfl [.int (nI 1)] (ct_Bd_quarter C.ev C.l hD _ _ _ b hb hF 1 (by omega) _) rfl rfl ⟨by decide, by decide, by decide, by decide⟩ (Nat.le_of_ble_eq_true rfl) rfl ?_
  show Z E G (HM D V P (hset PH q0 (4, 0, (updV (updV (updV fs0 0 (.ref q9)) 1 (.int (nI t))) 2 (.long (lN (qtr (bF V b) 0 9))))))) sz 0 0 (29, [some (.ref q0), some (.ref q9), some (.ref (D.1 b)), some (.int (nI t))], [.long (lN (qtr (bF V b) 1 9)), .ref q0])
  refine Zp_put C it_Ps_init rfl (j := 3) hn0 hBq (by decide) fl_Ps_27 ⟨rfl, rfl⟩ (x := .long (lN (qtr (bF V b) 1 9))) rfl rfl ?_
  refine Z_run C it_Ps_init 3 (f2 := (35, [some (.ref q0), some (.ref q9), some (.ref (D.1 b)), some (.int (nI t))], [.int (nI 2), .ref (D.1 b), .ref q0])) rfl ?_
  refine Zr_callV C it_Ps_init hD rfl p_Bd_quarter ml_Ps_17 b (isB_i hb) (hb.1 _ _ _) rfl [.int (nI 2)] (ct_Bd_quarter C.ev C.l hD _ _ _ b hb hF 2 (by omega) _) rfl rfl ⟨by decide, by decide, by decide, by decide⟩ (Nat.le_of_ble_eq_true rfl) rfl ?_
  show Z E G (HM D V P (hset PH q0 (4, 0, (updV (updV (updV (updV fs0 0 (.ref q9)) 1 (.int (nI t))) 2 (.long (lN (qtr (bF V b) 0 9)))) 3 (.long (lN (qtr (bF V b) 1 9))))))) sz 0 0 (38, [some (.ref q0), some (.ref q9), some (.ref (D.1 b)), some (.int (nI t))], [.long (lN (qtr (bF V b) 2 9)), .ref q0])
  refine Zp_put C it_Ps_init rfl (j := 4) hn0 hBq (by decide) fl_Ps_30 ⟨rfl, rfl⟩ (x := .long (lN (qtr (bF V b) 2 9))) rfl rfl ?_
  refine Z_run C it_Ps_init 3 (f2 := (44, [some (.ref q0), some (.ref q9), some (.ref (D.1 b)), some (.int (nI t))], [.int (nI 3), .ref (D.1 b), .ref q0])) rfl ?_
  refine Zr_callV C it_Ps_init hD rfl p_Bd_quarter ml_Ps_17 b (isB_i hb) (hb.1 _ _ _) rfl [.int (nI 3)] (ct_Bd_quarter C.ev C.l hD _ _ _ b hb hF 3 (by omega) _) rfl rfl ⟨by decide, by decide, by decide, by decide⟩ (Nat.le_of_ble_eq_true rfl) rfl ?_
  show Z E G (HM D V P (hset PH q0 (4, 0, (updV (updV (updV (updV (updV fs0 0 (.ref q9)) 1 (.int (nI t))) 2 (.long (lN (qtr (bF V b) 0 9)))) 3 (.long (lN (qtr (bF V b) 1 9)))) 4 (.long (lN (qtr (bF V b) 2 9))))))) sz 0 0 (47, [some (.ref q0), some (.ref q9), some (.ref (D.1 b)), some (.int (nI t))], [.long (lN (qtr (bF V b) 3 9)), .ref q0])
  refine Zp_put C it_Ps_init rfl (j := 5) hn0 hBq (by decide) fl_Ps_33 ⟨rfl, rfl⟩ (x := .long (lN (qtr (bF V b) 3 9))) rfl rfl ?_
  refine Z_run C it_Ps_init 3 (f2 := (53, [some (.ref q0), some (.ref q9), some (.ref (D.1 b)), some (.int (nI t))], [.ref q0, .int (nI 1), .ref q0])) rfl ?_
  refine Zr_callVh C it_Ps_init rfl p_Ps_timesBefore ml_Ps_36 [] (ct_Ps_timesBefore_r C.ev C.l hD V P PH hP q0 t (pq4 (bF V b)) _ hn0 hPq ⟨rfl, rfl, rfl, rfl, rfl, ht, fun i hi => qtr_63 hF (by omega) (by omega)⟩ q9 rfl L hch _) rfl rfl (by rw [HM_p hn0, hset_s]) rfl ⟨by decide, by decide, by decide, by decide⟩ (Nat.le_of_ble_eq_true rfl) rfl ?_
  show Z E G (HM D V P (hset PH q0 (4, 0, (updV (updV (updV (updV (updV (updV fs0 0 (.ref q9)) 1 (.int (nI t))) 2 (.long (lN (qtr (bF V b) 0 9)))) 3 (.long (lN (qtr (bF V b) 1 9)))) 4 (.long (lN (qtr (bF V b) 2 9)))) 5 (.long (lN (qtr (bF V b) 3 9))))))) sz 0 0 (56, [some (.ref q0), some (.ref q9), some (.ref (D.1 b)), some (.int (nI t))], [.int (nI (tbf t (pq4 (bF V b)) L)), .int (nI 1), .ref q0])
  refine Z_run C it_Ps_init 1 (f2 := (57, [some (.ref q0), some (.ref q9), some (.ref (D.1 b)), some (.int (nI t))], [.int (nI 1 + nI (tbf t (pq4 (bF V b)) L)), .ref q0])) rfl ?_
  rw [nI_add 1 (tbf t (pq4 (bF V b)) L)]
  refine Zp_put C it_Ps_init rfl (j := 6) hn0 hBq (by decide) fl_Ps_40 ⟨rfl, rfl⟩ (x := .int (nI (1 + tbf t (pq4 (bF V b)) L))) rfl rfl ?_
  have pcl_e : (4, 0, (updV (updV (updV (updV (updV (updV (updV fs0 0 (.ref q9)) 1 (.int (nI t))) 2 (.long (lN (qtr (bF V b) 0 9)))) 3 (.long (lN (qtr (bF V b) 1 9)))) 4 (.long (lN (qtr (bF V b) 2 9)))) 5 (.long (lN (qtr (bF V b) 3 9)))) 6 (.int (nI (1 + tbf t (pq4 (bF V b)) L))))) = pcl (.ref q9) t (pq4 (bF V b)) (1 + tbf t (pq4 (bF V b)) L) := by
    unfold pcl
    congr 2
    funext k9
    match k9 with
    | 0 => rfl
    | 1 => rfl
    | 2 => rfl
    | 3 => rfl
    | 4 => rfl
    | 5 => rfl
    | 6 => rfl
    | k9 + 7 => simp [updV, fs0]
  exact Z_vret C q it_Ps_init rfl (zRet_vH (by rw [pcl_e])) (by decide) (by decide)
