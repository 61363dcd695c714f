/-! ===== the model: exchanges ===== -/
/-- the cheapest piece among those that have b, of several the lowest -/
def chb (F : Nat → Nat) (b : Nat → Bool) : Nat → Option Nat
  | 0 => none
  | n + 1 => if b n then (match chb F b n with
    | none => some n
    | some k => if wr (F n) < wr (F k) then some n else some k) else chb F b n
theorem chb_lt {F : Nat → Nat} {b : Nat → Bool} : ∀ {n k : Nat}, chb F b n = some k → k < n ∧ b k = true := by
  intro n
  induction n with
  | zero => intro k h; cases h
  | succ n ih =>
    intro k h
    unfold chb at h
    split at h
    · next ht =>
      split at h
      · cases h; exact ⟨by omega, ht⟩
      · next k2 hk2 =>
        have := ih hk2
        split at h
        · cases h; exact ⟨by omega, ht⟩
        · cases h; exact ⟨by omega, this.2⟩
    · have := ih h
      exact ⟨by omega, this.2⟩
def cab (F : Nat → Nat) (s t k : Nat) : Bool := hld F k s && gop F (stp (F k)) k t 5
def cam (F : Nat → Nat) (s t : Nat) : Option Nat := chb F (cab F s t) 36
/-- what an exchange is worth in the model, d captures deep at most -/
def exM : Nat → (Nat → Nat) → Nat → Nat
  | 0, _, _ => 0
  | d + 1, F, q => match cam F (1 - sd (F q)) q with
    | none => 0
    | some k => wr (F q) - exM d (mvF F k q) q
/-- .. and d captures are enough -/
def exT : Nat → (Nat → Nat) → Nat → Prop
  | 0, _, _ => False
  | d + 1, F, q => match cam F (1 - sd (F q)) q with
    | none => True
    | some k => exT d (mvF F k q) q
theorem exM_le (d : Nat) (F : Nat → Nat) (q : Nat) : exM d F q ≤ 35 := by
  cases d with
  | zero => exact Nat.zero_le _
  | succ d =>
    unfold exM
    split
    · exact Nat.zero_le _
    · have := wr_le (F q)
      omega
def gfd (g : Nat → Nat) : Nat → Nat → Nat
  | 0, w => w
  | m + 1, w => gfd g m (g m - w)
theorem gfd_ext {g g2 : Nat → Nat} : ∀ {m w : Nat}, (∀ k, k < m → g k = g2 k) → gfd g m w = gfd g2 m w := by
  intro m
  induction m with
  | zero => intro w h; rfl
  | succ m ih =>
    intro w h
    unfold gfd
    rw [h m (by omega), ih (fun k hk => h k (by omega))]
theorem sd_lra : ∀ a, a < 128 → ∀ v, v < 128 → sd (lra a v) = sd a ∧ lra a v < 128 := by decide +kernel
theorem lra_ne {a v : Nat} (h : a ≠ 0) : lra a v ≠ 0 := by
  unfold lra
  intro h2
  exact h (Nat.eq_zero_of_le_zero (by rw [← h2]; exact Nat.left_le_or))
theorem sdo_t {p : Nat} (h : p ≠ 0) : oI (sdo p) = nI (sd p) := by
  unfold sdo
  rw [if_neg h]
  rfl
theorem nI_dec (a : Nat) : nI a + (-1) = nI a - nI 1 := by
  have h : (-1 : Int32) = - nI 1 := by decide
  rw [h, Int32.sub_eq_add_neg]
theorem nI_pm {m : Nat} (h : m < 2 ^ 31) : (nI m - nI 1 < 0 ↔ m = 0) := by
  by_cases h0 : m = 0
  · subst h0
    exact ⟨fun _ => rfl, fun _ => by decide⟩
  · rw [nI_sub (by omega)]
    exact ⟨fun z => absurd z (nI_nn (by omega)), fun z => absurd z h0⟩
/-- the try's squares and the gains alone have changed -/
def zEy (D : zD) (V : Nat → Nat → Int32) (P : Nat → Nat → Value) (PH : aH) (sz r : Nat) : zO := fun o h2 sz2 => o = .inl (some (.int (nI r))) ∧ sz2 = sz ∧ ∃ V2, h2 = HM D V2 P PH ∧ ∀ c, c ≠ 41 → c ≠ 42 → V2 c = V c
section ZEY
variable {E : zE} {G : zG} {cc : ByteArray} {nL : Nat} {own nm : String} {ret : Option FieldType} {R : Room} {sz k n : Nat} {t : List zI} {pc : Nat} {ls : zL} {st rest : List Value} {D : zD} {V : Nat → Nat → Int32} {P : Nat → Nat → Value} {PH : aH}
theorem Zr_eyV (C : zCx E G cc nL own nm ret R) (ht : zT cc t) (hD : zDok E D) {idx : Nat} {r : Nat × Int32 × Nat} (hl : t.lookup pc = some (.invokevirtual idx, r)) {y : MethodName} {c9 : ByteArray} {n9 a : Nat} {r9 : Option FieldType} {rm : Room} (hp : zPv y c9 n9 r9 a) (hlk : Cond.methodLink own idx y ∈ zWs) (i : Nat) (hi : i < 53) {ci nn N : Nat} {fs : Nat → Value} {T : u_T} (hc : mk D i (V i) (P i) = (ci, nn, fs)) (hci : zCl[ci]? = some (y.cls, T, N)) (As : List Value) {x : Nat} (hM : zM E (zGl G) y [.code y c9 n9 r9] rm (.ref (D.1 i) :: As) (HM D V P PH) sz (zEy D V P PH sz x)) (hst : st = As.reverse ++ .ref (D.1 i) :: rest) (ha : As.length = a) (hR : zRm rm R n9 k n) (hcat : (rest.map fun v => v.category).sum ≤ 8) (hls : ls.length = nL)
    (kk : ∀ V2 : Nat → Nat → Int32, (∀ c, c ≠ 41 → c ≠ 42 → V2 c = V c) → Z E G (HM D V2 P PH) sz (k + rm.cells) (n + rm.slots) (pc + 3, ls, .int (nI x) :: rest)) : Z E G (HM D V P PH) sz k n (pc, ls, st) :=
  Z_callV C ht hl hp hlk As hM hst ha (by rw [HM_at hD hi, hc]) hci hR hcat hls (fun v h3 sz3 hO => by
    obtain ⟨e1, rfl, V2, rfl, hV⟩ := hO
    cases e1
    exact kk V2 hV) (fun X h3 sz3 hO => by cases hO.1)
end ZEY
theorem hz_row {V : Nat → Nat → Int32} {F : Nat → Nat} (hz : ∀ k, k < 36 → V 38 k = nI (mo (F k))) : ∀ k, k < 36 → (vrow V 41 (rcp (V 41) (V 38) 0 0 36)) 41 k = nI (mo (F k)) := by
  intro k hk
  rw [vrow_s]
  have := rcp_l (r := V 41) (src := V 38) (o := 0) (p := 0) hk
  rw [Nat.zero_add, Nat.add_zero] at this
  rw [this]
  exact hz k hk
theorem hz_mv {V : Nat → Nat → Int32} {F : Nat → Nat} {k q : Nat} (hz : ∀ j, j < 36 → V 41 j = nI (mo (F j))) (hkq : k ≠ q) : ∀ j, j < 36 → (vset (vset V 41 q (nI (mo (lra (F k) (F q))))) 41 k (nI 0)) 41 j = nI (mo (mvF F k q j)) := by
  intro j hj
  rw [vset_s, vset_s]
  unfold upd mvF
  by_cases h1 : j = k
  · rw [if_pos h1, if_pos h1]
    rfl
  · rw [if_neg h1, if_neg h1]
    by_cases h2 : j = q
    · rw [if_pos h2, if_pos h2]
      rfl
    · rw [if_neg h2, if_neg h2]
      exact hz j hj
set_option maxRecDepth 20000 in
theorem lp_Mm_capturer {E : zE} {G : zG} {O : zO} (C : zCx E G c_Mm_capturer 6 y_Mm_capturer.cls y_Mm_capturer.name (some .int) rm_Mm_capturer) (q : zEndX E G O rm_Mm_capturer.cells rm_Mm_capturer.slots)  {D : zD} (hD : zDok E D) {V : Nat → Nat → Int32} {P : Nat → Nat → Value} {PH : aH} {F : Nat → Nat} (hF : okF F) (hz : ∀ k, k < 36 → V 41 k = nI (mo (F k))) {s : Nat} (hs : s < 2) {t : Nat} (ht : t < 36) {sz : Nat} (hO : O (.inl (some (.int (oI (cam F s t))))) (HM D V P PH) sz) : ∀ (j i : Nat), 36 - i < j → i ≤ 36 → Z E G (HM D V P PH) sz 0 0 (5, [some (.ref (D.1 37)), some (.int (nI s)), some (.int (nI t)), some (.int (oI (chb F (cab F s t) i))), some (.int (nI i)), none], []) := by
  intro j
  induction j with
  | zero =>
    intro i h1 h2
    omega
  | succ j ih =>
    intro i h1 h2
    refine Z_run C it_Mm_capturer 2 (f2 := (9, [some (.ref (D.1 37)), some (.int (nI s)), some (.int (nI t)), some (.int (oI (chb F (cab F s t) i))), some (.int (nI i)), none], [.int (nI 36), .int (nI i)])) rfl ?_
    refine Z_br C it_Mm_capturer rfl rfl (fun hc1 => ?_) (fun hc1 => ?_)
    · replace hc1 := (nI_leI (a := 36) (b := i) (by omega) (by omega)).mp hc1
      refine Z_run C it_Mm_capturer 1 (f2 := (100, [some (.ref (D.1 37)), some (.int (nI s)), some (.int (nI t)), some (.int (oI (chb F (cab F s t) i))), some (.int (nI i)), none], [.int (oI (chb F (cab F s t) i))])) rfl ?_
      exact Z_iret C q.e it_Mm_capturer rfl ((show i = 36 by omega) ▸ hO) (by decide) (by decide)
    · replace hc1 : ¬ _ := fun z9 => hc1 ((nI_leI (a := 36) (b := i) (by omega) (by omega)).mpr z9)
      refine Z_run C it_Mm_capturer 1 (f2 := (13, [some (.ref (D.1 37)), some (.int (nI s)), some (.int (nI t)), some (.int (oI (chb F (cab F s t) i))), some (.int (nI i)), none], [.ref (D.1 37)])) rfl ?_
      refine Zm_get C it_Mm_capturer hD rfl 37 wi_Mm (by decide) rfl rfl (j := 4) (by decide) fl_Mm_19 (v := .ref (D.1 41)) rfl ?_
      refine Z_run C it_Mm_capturer 1 (f2 := (18, [some (.ref (D.1 37)), some (.int (nI s)), some (.int (nI t)), some (.int (oI (chb F (cab F s t) i))), some (.int (nI i)), none], [.int (nI i), .ref (D.1 41)])) rfl ?_
      refine Zm_ald C it_Mm_capturer hD 41 10 rfl (by decide) rfl (by decide) (by decide) rfl (j := i) (by omega) (v := .int (nI (mo (F i)))) (congrArg Value.int (hz i (by omega))) ?_
      refine Zr_callS C it_Mm_capturer rfl p_Mm_sideOf ml_Mm_58 [.int (nI (mo (F i)))] (ct_Mm_sideOf C.ev C.l (F i) (by first | assumption | omega | exact hF _ (by omega)) (HM D V P PH) _) rfl rfl ⟨by decide, by decide, by decide, by decide⟩ (Nat.le_of_ble_eq_true rfl) rfl ?_
      show Z E G (HM D V P PH) sz 0 0 (22, [some (.ref (D.1 37)), some (.int (nI s)), some (.int (nI t)), some (.int (oI (chb F (cab F s t) i))), some (.int (nI i)), none], [.int (oI (sdo (F i)))])
      refine Z_run C it_Mm_capturer 1 (f2 := (23, [some (.ref (D.1 37)), some (.int (nI s)), some (.int (nI t)), some (.int (oI (chb F (cab F s t) i))), some (.int (nI i)), none], [.int (nI s), .int (oI (sdo (F i)))])) rfl ?_
      refine Z_br C it_Mm_capturer rfl rfl (fun hc2 => ?_) (fun hc2 => ?_)
      · have hA : hld F i s = false := (sdo_n (hF i (by omega)) hs).mp hc2
        refine Z_run C it_Mm_capturer 3 (f2 := (56, [some (.ref (D.1 37)), some (.int (nI s)), some (.int (nI t)), some (.int (oI (chb F (cab F s t) i))), some (.int (nI i)), some (.int (nI 0))], [.int (nI 0)])) rfl ?_
        refine Z_br C it_Mm_capturer rfl rfl (fun hc3 => ?_) (fun hc3 => absurd (by decide) hc3)
        refine Z_run C it_Mm_capturer 3 (f2 := (96, [some (.ref (D.1 37)), some (.int (nI s)), some (.int (nI t)), some (.int (oI (chb F (cab F s t) i))), some (.int (nI i + nI 1)), some (.int (nI 0))], [])) rfl ?_
        rw [nI_add i 1]
        refine Z_run C it_Mm_capturer 1 (f2 := (5, [some (.ref (D.1 37)), some (.int (nI s)), some (.int (nI t)), some (.int (oI (chb F (cab F s t) i))), some (.int (nI (i + 1))), some (.int (nI 0))], [])) rfl ?_
        have ec : chb F (cab F s t) (i + 1) = chb F (cab F s t) i := by simp [chb, cab, hA]
        have e3 : oI (chb F (cab F s t) i) = oI (chb F (cab F s t) (i + 1)) := by rw [ec]
        rw [e3]
        refine Z_sub (ls2 := [some (.ref (D.1 37)), some (.int (nI s)), some (.int (nI t)), some (.int (oI (chb F (cab F s t) (i + 1)))), some (.int (nI (i + 1))), none]) (by simp [zsubl]) ?_
        exact ih (i + 1) (by omega) (by omega)
      · have hA : hld F i s = true := (sdo_hld (hF i (by omega)) hs).mp (Classical.not_not.mp hc2)
        refine Z_run C it_Mm_capturer 2 (f2 := (28, [some (.ref (D.1 37)), some (.int (nI s)), some (.int (nI t)), some (.int (oI (chb F (cab F s t) i))), some (.int (nI i)), none], [.ref (D.1 37), .ref (D.1 37)])) rfl ?_
        refine Zm_get C it_Mm_capturer hD rfl 37 wi_Mm (by decide) rfl rfl (j := 4) (by decide) fl_Mm_19 (v := .ref (D.1 41)) rfl ?_
        refine Z_run C it_Mm_capturer 1 (f2 := (33, [some (.ref (D.1 37)), some (.int (nI s)), some (.int (nI t)), some (.int (oI (chb F (cab F s t) i))), some (.int (nI i)), none], [.int (nI i), .ref (D.1 41), .ref (D.1 37)])) rfl ?_
        refine Zm_ald C it_Mm_capturer hD 41 10 rfl (by decide) rfl (by decide) (by decide) rfl (j := i) (by omega) (v := .int (nI (mo (F i)))) (congrArg Value.int (hz i (by omega))) ?_
        refine Zr_callS C it_Mm_capturer rfl p_Mm_stepsOf ml_Mm_48 [.int (nI (mo (F i)))] (ct_Mm_stepsOf C.ev C.l (F i) (by first | assumption | omega | exact hF _ (by omega)) (by first | assumption | omega | exact hld_ne (by assumption)) (HM D V P PH) _) rfl rfl ⟨by decide, by decide, by decide, by decide⟩ (Nat.le_of_ble_eq_true rfl) rfl ?_
        show Z E G (HM D V P PH) sz 0 0 (37, [some (.ref (D.1 37)), some (.int (nI s)), some (.int (nI t)), some (.int (oI (chb F (cab F s t) i))), some (.int (nI i)), none], [.int (nI (stp (F i))), .ref (D.1 37)])
        refine Z_run C it_Mm_capturer 3 (f2 := (41, [some (.ref (D.1 37)), some (.int (nI s)), some (.int (nI t)), some (.int (oI (chb F (cab F s t) i))), some (.int (nI i)), none], [.int (nI 1), .int (nI t), .int (nI i), .int (nI (stp (F i))), .ref (D.1 37)])) rfl ?_
        refine Zr_callV C it_Mm_capturer hD rfl p_Mm_goes ml_Mm_75 37 (by decide) rfl rfl [.int (nI (stp (F i))), .int (nI i), .int (nI t), .int (nI 1)] (ct_Mm_goes_s C.ev C.l hD V P _ F hF hz (stp (F i)) (by first | exact stp_lt _ | omega) i (by first | assumption | omega) t (by first | assumption | omega) _) rfl rfl ⟨by decide, by decide, by decide, by decide⟩ (Nat.le_of_ble_eq_true rfl) rfl ?_
        show Z E G (HM D V P PH) sz 0 0 (44, [some (.ref (D.1 37)), some (.int (nI s)), some (.int (nI t)), some (.int (oI (chb F (cab F s t) i))), some (.int (nI i)), none], [.int (bI (gop F (stp (F i)) i t 5))])
        refine Z_br C it_Mm_capturer rfl rfl (fun hc4 => ?_) (fun hc4 => ?_)
        · have hB : gop F (stp (F i)) i t 5 = false := bI_0.mp hc4
          refine Z_run C it_Mm_capturer 3 (f2 := (56, [some (.ref (D.1 37)), some (.int (nI s)), some (.int (nI t)), some (.int (oI (chb F (cab F s t) i))), some (.int (nI i)), some (.int (nI 0))], [.int (nI 0)])) rfl ?_
          refine Z_br C it_Mm_capturer rfl rfl (fun hc5 => ?_) (fun hc5 => absurd (by decide) hc5)
          refine Z_run C it_Mm_capturer 3 (f2 := (96, [some (.ref (D.1 37)), some (.int (nI s)), some (.int (nI t)), some (.int (oI (chb F (cab F s t) i))), some (.int (nI i + nI 1)), some (.int (nI 0))], [])) rfl ?_
          rw [nI_add i 1]
          refine Z_run C it_Mm_capturer 1 (f2 := (5, [some (.ref (D.1 37)), some (.int (nI s)), some (.int (nI t)), some (.int (oI (chb F (cab F s t) i))), some (.int (nI (i + 1))), some (.int (nI 0))], [])) rfl ?_
          have ec : chb F (cab F s t) (i + 1) = chb F (cab F s t) i := by simp [chb, cab, hA, hB]
          have e3 : oI (chb F (cab F s t) i) = oI (chb F (cab F s t) (i + 1)) := by rw [ec]
          rw [e3]
          refine Z_sub (ls2 := [some (.ref (D.1 37)), some (.int (nI s)), some (.int (nI t)), some (.int (oI (chb F (cab F s t) (i + 1)))), some (.int (nI (i + 1))), none]) (by simp [zsubl]) ?_
          exact ih (i + 1) (by omega) (by omega)
        · have hB : gop F (stp (F i)) i t 5 = true := bI_1.mp hc4
          refine Z_run C it_Mm_capturer 4 (f2 := (56, [some (.ref (D.1 37)), some (.int (nI s)), some (.int (nI t)), some (.int (oI (chb F (cab F s t) i))), some (.int (nI i)), some (.int (nI 1))], [.int (nI 1)])) rfl ?_
          refine Z_br C it_Mm_capturer rfl rfl (fun hc6 => absurd hc6 (by decide)) (fun hc6 => ?_)
          refine Z_run C it_Mm_capturer 2 (f2 := (61, [some (.ref (D.1 37)), some (.int (nI s)), some (.int (nI t)), some (.int (oI (chb F (cab F s t) i))), some (.int (nI i)), some (.int (nI 1))], [.int ((-1)), .int (oI (chb F (cab F s t) i))])) rfl ?_
          refine Z_br C it_Mm_capturer rfl rfl (fun hc7 => ?_) (fun hc7 => ?_)
          · have hN : chb F (cab F s t) i = none := (oI_m1 (fun k9 h9 => by have := chb_lt h9; omega)).mp hc7
            refine Z_run C it_Mm_capturer 4 (f2 := (96, [some (.ref (D.1 37)), some (.int (nI s)), some (.int (nI t)), some (.int (nI i)), some (.int (nI i + nI 1)), some (.int (nI 1))], [])) rfl ?_
            rw [nI_add i 1]
            refine Z_run C it_Mm_capturer 1 (f2 := (5, [some (.ref (D.1 37)), some (.int (nI s)), some (.int (nI t)), some (.int (nI i)), some (.int (nI (i + 1))), some (.int (nI 1))], [])) rfl ?_
            have ec : chb F (cab F s t) (i + 1) = some i := by simp [chb, cab, hA, hB, hN]
            have e3 : nI i = oI (chb F (cab F s t) (i + 1)) := by rw [ec]; rfl
            rw [e3]
            refine Z_sub (ls2 := [some (.ref (D.1 37)), some (.int (nI s)), some (.int (nI t)), some (.int (oI (chb F (cab F s t) (i + 1)))), some (.int (nI (i + 1))), none]) (by simp [zsubl]) ?_
            exact ih (i + 1) (by omega) (by omega)
          · obtain ⟨k9, hN⟩ : ∃ k9, chb F (cab F s t) i = some k9 := Option.ne_none_iff_exists'.mp (fun z9 => hc7 ((oI_m1 (fun k9 h9 => by have := chb_lt h9; omega)).mpr z9))
            have hk36 := (chb_lt hN).1
            have hwi := wr_le (F i)
            have hwk := wr_le (F k9)
            refine Z_run C it_Mm_capturer 1 (f2 := (65, [some (.ref (D.1 37)), some (.int (nI s)), some (.int (nI t)), some (.int (oI (chb F (cab F s t) i))), some (.int (nI i)), some (.int (nI 1))], [.ref (D.1 37)])) rfl ?_
            refine Zm_get C it_Mm_capturer hD rfl 37 wi_Mm (by decide) rfl rfl (j := 4) (by decide) fl_Mm_19 (v := .ref (D.1 41)) rfl ?_
            refine Z_run C it_Mm_capturer 1 (f2 := (70, [some (.ref (D.1 37)), some (.int (nI s)), some (.int (nI t)), some (.int (oI (chb F (cab F s t) i))), some (.int (nI i)), some (.int (nI 1))], [.int (nI i), .ref (D.1 41)])) rfl ?_
            refine Zm_ald C it_Mm_capturer hD 41 10 rfl (by decide) rfl (by decide) (by decide) rfl (j := i) (by omega) (v := .int (nI (mo (F i)))) (congrArg Value.int (hz i (by omega))) ?_
            refine Zr_callS C it_Mm_capturer rfl p_Mm_worthOf ml_Mm_88 [.int (nI (mo (F i)))] (ct_Mm_worthOf C.ev C.l (F i) (by first | assumption | omega | exact hF _ (by omega)) (HM D V P PH) _) rfl rfl ⟨by decide, by decide, by decide, by decide⟩ (Nat.le_of_ble_eq_true rfl) rfl ?_
            show Z E G (HM D V P PH) sz 0 0 (74, [some (.ref (D.1 37)), some (.int (nI s)), some (.int (nI t)), some (.int (oI (chb F (cab F s t) i))), some (.int (nI i)), some (.int (nI 1))], [.int (nI (wr (F i)))])
            refine Z_run C it_Mm_capturer 1 (f2 := (75, [some (.ref (D.1 37)), some (.int (nI s)), some (.int (nI t)), some (.int (oI (chb F (cab F s t) i))), some (.int (nI i)), some (.int (nI 1))], [.ref (D.1 37), .int (nI (wr (F i)))])) rfl ?_
            refine Zm_get C it_Mm_capturer hD rfl 37 wi_Mm (by decide) rfl rfl (j := 4) (by decide) fl_Mm_19 (v := .ref (D.1 41)) rfl ?_
            refine Z_run C it_Mm_capturer 1 (f2 := (79, [some (.ref (D.1 37)), some (.int (nI s)), some (.int (nI t)), some (.int (oI (chb F (cab F s t) i))), some (.int (nI i)), some (.int (nI 1))], [.int (oI (chb F (cab F s t) i)), .ref (D.1 41), .int (nI (wr (F i)))])) rfl ?_
            have e1 : oI (chb F (cab F s t) i) = nI k9 := by rw [hN]; rfl
            rw [e1]
            refine Zm_ald C it_Mm_capturer hD 41 10 rfl (by decide) rfl (by decide) (by decide) rfl (j := k9) (by omega) (v := .int (nI (mo (F k9)))) (congrArg Value.int (hz k9 (by omega))) ?_
            refine Zr_callS C it_Mm_capturer rfl p_Mm_worthOf ml_Mm_88 [.int (nI (mo (F k9)))] (ct_Mm_worthOf C.ev C.l (F k9) (by first | assumption | omega | exact hF _ (by omega)) (HM D V P PH) _) rfl rfl ⟨by decide, by decide, by decide, by decide⟩ (Nat.le_of_ble_eq_true rfl) rfl ?_
            show Z E G (HM D V P PH) sz 0 0 (83, [some (.ref (D.1 37)), some (.int (nI s)), some (.int (nI t)), some (.int (nI k9)), some (.int (nI i)), some (.int (nI 1))], [.int (nI (wr (F k9))), .int (nI (wr (F i)))])
            refine Z_br C it_Mm_capturer rfl rfl (fun hc8 => ?_) (fun hc8 => ?_)
            · have hW : ¬ wr (F i) < wr (F k9) := by have := (nI_leI (a := wr (F k9)) (b := wr (F i)) (by omega) (by omega)).mp hc8; omega
              refine Z_run C it_Mm_capturer 3 (f2 := (96, [some (.ref (D.1 37)), some (.int (nI s)), some (.int (nI t)), some (.int (nI k9)), some (.int (nI i + nI 1)), some (.int (nI 1))], [])) rfl ?_
              rw [nI_add i 1]
              refine Z_run C it_Mm_capturer 1 (f2 := (5, [some (.ref (D.1 37)), some (.int (nI s)), some (.int (nI t)), some (.int (nI k9)), some (.int (nI (i + 1))), some (.int (nI 1))], [])) rfl ?_
              have ec : chb F (cab F s t) (i + 1) = some k9 := by simp [chb, cab, hA, hB, hN, hW]
              have e3 : nI k9 = oI (chb F (cab F s t) (i + 1)) := by rw [ec]; rfl
              rw [e3]
              refine Z_sub (ls2 := [some (.ref (D.1 37)), some (.int (nI s)), some (.int (nI t)), some (.int (oI (chb F (cab F s t) (i + 1)))), some (.int (nI (i + 1))), none]) (by simp [zsubl]) ?_
              exact ih (i + 1) (by omega) (by omega)
            · have hW : wr (F i) < wr (F k9) := by have h8 : ¬ wr (F k9) ≤ wr (F i) := fun z9 => hc8 ((nI_leI (a := wr (F k9)) (b := wr (F i)) (by omega) (by omega)).mpr z9); omega
              refine Z_run C it_Mm_capturer 4 (f2 := (96, [some (.ref (D.1 37)), some (.int (nI s)), some (.int (nI t)), some (.int (nI i)), some (.int (nI i + nI 1)), some (.int (nI 1))], [])) rfl ?_
              rw [nI_add i 1]
              refine Z_run C it_Mm_capturer 1 (f2 := (5, [some (.ref (D.1 37)), some (.int (nI s)), some (.int (nI t)), some (.int (nI i)), some (.int (nI (i + 1))), some (.int (nI 1))], [])) rfl ?_
              have ec : chb F (cab F s t) (i + 1) = some i := by simp [chb, cab, hA, hB, hN, hW]
              have e3 : nI i = oI (chb F (cab F s t) (i + 1)) := by rw [ec]; rfl
              rw [e3]
              refine Z_sub (ls2 := [some (.ref (D.1 37)), some (.int (nI s)), some (.int (nI t)), some (.int (oI (chb F (cab F s t) (i + 1)))), some (.int (nI (i + 1))), none]) (by simp [zsubl]) ?_
              exact ih (i + 1) (by omega) (by omega)
set_option maxRecDepth 20000 in
theorem ct_Mm_capturer_s {E : zE} (hE : zEv E) {l : Launch} (hl : l.stackTraces = false) {D : zD} (hD : zDok E D) (V : Nat → Nat → Int32) (P : Nat → Nat → Value) (PH : aH) (F : Nat → Nat) (hF : okF F) (hz : ∀ k, k < 36 → V 41 k = nI (mo (F k))) (s : Nat) (hs : s < 2) (t : Nat) (ht : t < 36) (sz : Nat) : zM E l y_Mm_capturer [.code y_Mm_capturer c_Mm_capturer 6 (some .int)] rm_Mm_capturer [.ref (D.1 37), .int (nI s), .int (nI t)] (HM D V P PH) sz (zRet (some (.int (oI (cam F s t)))) (HM D V P PH) sz) := by
  refine zM_of hE hl (by decide +kernel) [some (.ref (D.1 37)), some (.int (nI s)), some (.int (nI t)), none, none, none] ⟨rfl, rfl, Nat.le_of_ble_eq_true rfl⟩ ?_
  intro G C q htb
  refine Z_run C it_Mm_capturer 4 (f2 := (5, [some (.ref (D.1 37)), some (.int (nI s)), some (.int (nI t)), some (.int ((-1))), some (.int (nI 0)), none], [])) rfl ?_
  exact lp_Mm_capturer C q hD hF hz hs ht ⟨rfl, rfl, rfl⟩ 37 0 (by omega) (by omega)
set_option maxRecDepth 20000 in
theorem lp_Mm_exch2 {E : zE} {G : zG} {O : zO} (C : zCx E G c_Mm_exchanged 6 y_Mm_exchanged.cls y_Mm_exchanged.name (some .int) rm_Mm_exchanged) (q : zEndX E G O rm_Mm_exchanged.cells rm_Mm_exchanged.slots)  {D : zD} (hD : zDok E D) {V0 V : Nat → Nat → Int32} {P : Nat → Nat → Value} {PH : aH} {sz r q0 s n : Nat} {g : Nat → Nat} (hn : n ≤ 20) (hg : ∀ k, k < n → V 42 k = nI (g k)) (hgl : ∀ k, k < n → g k ≤ 35) (hV : ∀ c, c ≠ 41 → c ≠ 42 → V c = V0 c) (hO : ∀ V2 : Nat → Nat → Int32, (∀ c, c ≠ 41 → c ≠ 42 → V2 c = V0 c) → O (.inl (some (.int (nI r)))) (HM D V2 P PH) sz) : ∀ (j m w9 : Nat), m < j → m ≤ n → w9 ≤ 35 → gfd g m w9 = r → Z E G (HM D V P PH) sz 0 0 (125, [some (.ref (D.1 37)), some (.int (nI q0)), some (.int (nI s)), some (.int (nI n)), some (.int (nI w9)), some (.int (nI m - nI 1))], []) := by
  intro j
  induction j with
  | zero => intro m w9 h1 h2 h3 hr; omega
  | succ j ih =>
    intro m w9 h1 h2 h3 hr
    refine Z_run C it_Mm_exchanged 1 (f2 := (127, [some (.ref (D.1 37)), some (.int (nI q0)), some (.int (nI s)), some (.int (nI n)), some (.int (nI w9)), some (.int (nI m - nI 1))], [.int (nI m - nI 1)])) rfl ?_
    refine Z_br C it_Mm_exchanged rfl rfl (fun hc1 => ?_) (fun hc1 => ?_)
    · have hm0 : m = 0 := (nI_pm (by omega)).mp hc1
      refine Z_run C it_Mm_exchanged 1 (f2 := (166, [some (.ref (D.1 37)), some (.int (nI q0)), some (.int (nI s)), some (.int (nI n)), some (.int (nI w9)), some (.int (nI m - nI 1))], [.int (nI w9)])) rfl ?_
      exact Z_iret C q.e it_Mm_exchanged rfl (by rw [hm0] at hr; rw [show w9 = r from hr]; exact hO V hV) (by decide) (by decide)
    · have hm0 : ¬ m = 0 := fun z9 => hc1 ((nI_pm (by omega)).mpr z9)
      have hgm := hgl (m - 1) (by omega)
      have e1 : nI m - nI 1 = nI (m - 1) := nI_sub (by omega)
      rw [e1]
      refine Z_run C it_Mm_exchanged 1 (f2 := (131, [some (.ref (D.1 37)), some (.int (nI q0)), some (.int (nI s)), some (.int (nI n)), some (.int (nI w9)), some (.int (nI (m - 1)))], [.ref (D.1 37)])) rfl ?_
      refine Zm_get C it_Mm_exchanged hD rfl 37 wi_Mm (by decide) rfl rfl (j := 5) (by decide) fl_Mm_22 (v := .ref (D.1 42)) rfl ?_
      refine Z_run C it_Mm_exchanged 1 (f2 := (136, [some (.ref (D.1 37)), some (.int (nI q0)), some (.int (nI s)), some (.int (nI n)), some (.int (nI w9)), some (.int (nI (m - 1)))], [.int (nI (m - 1)), .ref (D.1 42)])) rfl ?_
      refine Zm_ald C it_Mm_exchanged hD 42 10 rfl (by decide) rfl (by decide) (by decide) rfl (j := m - 1) (by omega) (v := .int (nI (g (m - 1)))) (congrArg Value.int (hg (m - 1) (by omega))) ?_
      refine Z_run C it_Mm_exchanged 1 (f2 := (139, [some (.ref (D.1 37)), some (.int (nI q0)), some (.int (nI s)), some (.int (nI n)), some (.int (nI w9)), some (.int (nI (m - 1)))], [.int (nI w9), .int (nI (g (m - 1)))])) rfl ?_
      refine Z_br C it_Mm_exchanged rfl rfl (fun hc2 => ?_) (fun hc2 => ?_)
      · have hgw : g (m - 1) ≤ w9 := (nI_leI (a := g (m - 1)) (b := w9) (by omega) (by omega)).mp hc2
        refine Z_run C it_Mm_exchanged 4 (f2 := (125, [some (.ref (D.1 37)), some (.int (nI q0)), some (.int (nI s)), some (.int (nI n)), some (.int (nI 0)), some (.int (nI (m - 1) + (-1)))], [])) rfl ?_
        have e4 : nI 0 = nI (g (m - 1) - w9) := by rw [show g (m - 1) - w9 = 0 by omega]
        rw [nI_dec]
        refine (congrArg (fun z9 => Z E G (HM D V P PH) sz 0 0 (125, [some (.ref (D.1 37)), some (.int (nI q0)), some (.int (nI s)), some (.int (nI n)), some (.int z9), some (.int (nI (m - 1) - nI 1))], [])) e4).mpr ?_
        exact ih (m - 1) (g (m - 1) - w9) (by omega) (by omega) (by omega) (by rw [show m = (m - 1) + 1 by omega] at hr; exact hr)
      · have hgw : ¬ g (m - 1) ≤ w9 := fun z9 => hc2 ((nI_leI (a := g (m - 1)) (b := w9) (by omega) (by omega)).mpr z9)
        refine Z_run C it_Mm_exchanged 1 (f2 := (143, [some (.ref (D.1 37)), some (.int (nI q0)), some (.int (nI s)), some (.int (nI n)), some (.int (nI w9)), some (.int (nI (m - 1)))], [.ref (D.1 37)])) rfl ?_
        refine Zm_get C it_Mm_exchanged hD rfl 37 wi_Mm (by decide) rfl rfl (j := 5) (by decide) fl_Mm_22 (v := .ref (D.1 42)) rfl ?_
        refine Z_run C it_Mm_exchanged 1 (f2 := (148, [some (.ref (D.1 37)), some (.int (nI q0)), some (.int (nI s)), some (.int (nI n)), some (.int (nI w9)), some (.int (nI (m - 1)))], [.int (nI (m - 1)), .ref (D.1 42)])) rfl ?_
        refine Zm_ald C it_Mm_exchanged hD 42 10 rfl (by decide) rfl (by decide) (by decide) rfl (j := m - 1) (by omega) (v := .int (nI (g (m - 1)))) (congrArg Value.int (hg (m - 1) (by omega))) ?_
        refine Z_run C it_Mm_exchanged 6 (f2 := (125, [some (.ref (D.1 37)), some (.int (nI q0)), some (.int (nI s)), some (.int (nI n)), some (.int (nI (g (m - 1)) - nI w9)), some (.int (nI (m - 1) + (-1)))], [])) rfl ?_
        have e4 : nI (g (m - 1)) - nI w9 = nI (g (m - 1) - w9) := by exact nI_sub (by omega)
        rw [nI_dec]
        refine (congrArg (fun z9 => Z E G (HM D V P PH) sz 0 0 (125, [some (.ref (D.1 37)), some (.int (nI q0)), some (.int (nI s)), some (.int (nI n)), some (.int z9), some (.int (nI (m - 1) - nI 1))], [])) e4).mpr ?_
        exact ih (m - 1) (g (m - 1) - w9) (by omega) (by omega) (by omega) (by rw [show m = (m - 1) + 1 by omega] at hr; exact hr)
set_option maxRecDepth 20000 in
set_option maxHeartbeats 1000000 in
theorem lp_Mm_exch1 {E : zE} {G : zG} {O : zO} (C : zCx E G c_Mm_exchanged 6 y_Mm_exchanged.cls y_Mm_exchanged.name (some .int) rm_Mm_exchanged) (q : zEndX E G O rm_Mm_exchanged.cells rm_Mm_exchanged.slots)  {D : zD} (hD : zDok E D) {V0 : Nat → Nat → Int32} {P : Nat → Nat → Value} {PH : aH} {sz r q0 : Nat} (hq0 : q0 < 36) (hO : ∀ V2 : Nat → Nat → Int32, (∀ c, c ≠ 41 → c ≠ 42 → V2 c = V0 c) → O (.inl (some (.int (nI r)))) (HM D V2 P PH) sz) : ∀ (d : Nat), d ≤ 16 → ∀ (F : Nat → Nat) (n s : Nat) (g : Nat → Nat) (V : Nat → Nat → Int32), okF F → (∀ k, k < 36 → V 41 k = nI (mo (F k))) → F q0 ≠ 0 → s < 2 → s = 1 - sd (F q0) → exT d F q0 → n + d ≤ 17 → (∀ k, k < n → V 42 k = nI (g k)) → (∀ k, k < n → g k ≤ 35) → (∀ c, c ≠ 41 → c ≠ 42 → V c = V0 c) → gfd g n (exM d F q0) = r → Z E G (HM D V P PH) sz 0 0 (48, [some (.ref (D.1 37)), some (.int (nI q0)), some (.int (nI s)), some (.int (nI n)), some (.int (oI (cam F s q0))), none], []) := by
  intro d
  induction d with
  | zero => intro hd F n s g V hF hz hq hs hs9 hT; exact absurd hT (fun z => z)
  | succ d ih9 =>
    intro hd F n s g V hF hz hq hs hs9 hT hnd hg hgl hV hr
    have hFq := hF q0 hq0
    have hsq := sd_le (F q0)
    refine Z_run C it_Mm_exchanged 2 (f2 := (51, [some (.ref (D.1 37)), some (.int (nI q0)), some (.int (nI s)), some (.int (nI n)), some (.int (oI (cam F s q0))), none], [.int ((-1)), .int (oI (cam F s q0))])) rfl ?_
    refine Z_br C it_Mm_exchanged rfl rfl (fun hc1 => ?_) (fun hc1 => ?_)
    · have hN : cam F s q0 = none := (oI_m1 (fun k9 h9 => by have := chb_lt h9; omega)).mp hc1
      have hr0 : gfd g n 0 = r := by unfold exM at hr; rw [← hs9, hN] at hr; exact hr
      refine Z_run C it_Mm_exchanged 4 (f2 := (122, [some (.ref (D.1 37)), some (.int (nI q0)), some (.int (nI s)), some (.int (nI n)), some (.int (nI 0)), none], [.int (nI 1), .int (nI n)])) rfl ?_
      refine Z_run C it_Mm_exchanged 2 (f2 := (125, [some (.ref (D.1 37)), some (.int (nI q0)), some (.int (nI s)), some (.int (nI n)), some (.int (nI 0)), some (.int (nI n - nI 1))], [])) rfl ?_
      exact lp_Mm_exch2 C q hD (by omega) hg hgl hV hO (n + 1) n 0 (by omega) (by omega) (by omega) hr0
    · obtain ⟨k9, hN⟩ : ∃ k9, cam F s q0 = some k9 := Option.ne_none_iff_exists'.mp (fun z9 => hc1 ((oI_m1 (fun k9 h9 => by have := chb_lt h9; omega)).mpr z9))
      have hkb := chb_lt hN
      have hk36 := hkb.1
      have hkh : hld F k9 s = true := by have := hkb.2; unfold cab at this; exact (Bool.and_eq_true _ _ ▸ this).1
      have hk0 := hld_ne hkh
      have hksd : sd (F k9) = s := by have := hkh; unfold hld at this; rw [Bool.and_eq_true, beq_iff_eq] at this; exact this.2
      have hkq : k9 ≠ q0 := fun z9 => by rw [z9] at hksd; omega
      have hFk := hF k9 hk36
      have e1 : oI (cam F s q0) = nI k9 := by rw [hN]; rfl
      rw [e1]
      refine Z_run C it_Mm_exchanged 1 (f2 := (55, [some (.ref (D.1 37)), some (.int (nI q0)), some (.int (nI s)), some (.int (nI n)), some (.int (nI k9)), none], [.ref (D.1 37)])) rfl ?_
      refine Zm_get C it_Mm_exchanged hD rfl 37 wi_Mm (by decide) rfl rfl (j := 5) (by decide) fl_Mm_22 (v := .ref (D.1 42)) rfl ?_
      refine Z_run C it_Mm_exchanged 2 (f2 := (60, [some (.ref (D.1 37)), some (.int (nI q0)), some (.int (nI s)), some (.int (nI n)), some (.int (nI k9)), none], [.ref (D.1 37), .int (nI n), .ref (D.1 42)])) rfl ?_
      refine Zm_get C it_Mm_exchanged hD rfl 37 wi_Mm (by decide) rfl rfl (j := 4) (by decide) fl_Mm_19 (v := .ref (D.1 41)) rfl ?_
      refine Z_run C it_Mm_exchanged 1 (f2 := (64, [some (.ref (D.1 37)), some (.int (nI q0)), some (.int (nI s)), some (.int (nI n)), some (.int (nI k9)), none], [.int (nI q0), .ref (D.1 41), .int (nI n), .ref (D.1 42)])) rfl ?_
      refine Zm_ald C it_Mm_exchanged hD 41 10 rfl (by decide) rfl (by decide) (by decide) rfl (j := q0) (by omega) (v := .int (nI (mo (F q0)))) (congrArg Value.int (hz q0 (by omega))) ?_
      refine Zr_callS C it_Mm_exchanged rfl p_Mm_worthOf ml_Mm_88 [.int (nI (mo (F q0)))] (ct_Mm_worthOf C.ev C.l (F q0) (by first | assumption | omega | exact hF _ (by omega)) (HM D V P PH) _) rfl rfl ⟨by decide, by decide, by decide, by decide⟩ (Nat.le_of_ble_eq_true rfl) rfl ?_
      show Z E G (HM D V P PH) sz 0 0 (68, [some (.ref (D.1 37)), some (.int (nI q0)), some (.int (nI s)), some (.int (nI n)), some (.int (nI k9)), none], [.int (nI (wr (F q0))), .int (nI n), .ref (D.1 42)])
      refine Zm_ast C it_Mm_exchanged hD 42 10 rfl (by first | decide | exact isB_k hb | omega) rfl (by decide) rfl (j := n) (by omega) trivial rfl ?_
      refine Z_run C it_Mm_exchanged 1 (f2 := (72, [some (.ref (D.1 37)), some (.int (nI q0)), some (.int (nI s)), some (.int (nI n + nI 1)), some (.int (nI k9)), none], [])) rfl ?_
      rw [nI_add n 1]
      refine Z_run C it_Mm_exchanged 1 (f2 := (73, [some (.ref (D.1 37)), some (.int (nI q0)), some (.int (nI s)), some (.int (nI (n + 1))), some (.int (nI k9)), none], [.ref (D.1 37)])) rfl ?_
      refine Zm_get C it_Mm_exchanged hD rfl 37 wi_Mm (by decide) rfl rfl (j := 4) (by decide) fl_Mm_19 (v := .ref (D.1 41)) rfl ?_
      refine Z_run C it_Mm_exchanged 2 (f2 := (78, [some (.ref (D.1 37)), some (.int (nI q0)), some (.int (nI s)), some (.int (nI (n + 1))), some (.int (nI k9)), none], [.ref (D.1 37), .int (nI q0), .ref (D.1 41)])) rfl ?_
      refine Zm_get C it_Mm_exchanged hD rfl 37 wi_Mm (by decide) rfl rfl (j := 4) (by decide) fl_Mm_19 (v := .ref (D.1 41)) rfl ?_
      refine Z_run C it_Mm_exchanged 1 (f2 := (83, [some (.ref (D.1 37)), some (.int (nI q0)), some (.int (nI s)), some (.int (nI (n + 1))), some (.int (nI k9)), none], [.int (nI k9), .ref (D.1 41), .int (nI q0), .ref (D.1 41)])) rfl ?_
      refine Zm_ald C it_Mm_exchanged hD 41 10 rfl (by decide) rfl (by decide) (by decide) rfl (j := k9) (by omega) (v := .int (nI (mo (F k9)))) (congrArg Value.int (hz k9 (by omega))) ?_
      refine Z_run C it_Mm_exchanged 1 (f2 := (85, [some (.ref (D.1 37)), some (.int (nI q0)), some (.int (nI s)), some (.int (nI (n + 1))), some (.int (nI k9)), none], [.ref (D.1 37), .int (nI (mo (F k9))), .int (nI q0), .ref (D.1 41)])) rfl ?_
      refine Zm_get C it_Mm_exchanged hD rfl 37 wi_Mm (by decide) rfl rfl (j := 4) (by decide) fl_Mm_19 (v := .ref (D.1 41)) rfl ?_
      refine Z_run C it_Mm_exchanged 1 (f2 := (89, [some (.ref (D.1 37)), some (.int (nI q0)), some (.int (nI s)), some (.int (nI (n + 1))), some (.int (nI k9)), none], [.int (nI q0), .ref (D.1 41), .int (nI (mo (F k9))), .int (nI q0), .ref (D.1 41)])) rfl ?_
      refine Zm_ald C it_Mm_exchanged hD 41 10 rfl (by decide) rfl (by decide) (by decide) rfl (j := q0) (by omega) (v := .int (nI (mo (F q0)))) (congrArg Value.int (hz q0 (by omega))) ?_
      refine Zr_callS C it_Mm_exchanged rfl p_Mm_learns ml_Mm_114 [.int (nI (mo (F k9))), .int (nI (mo (F q0)))] (ct_Mm_learns C.ev C.l (F k9) (by first | assumption | omega) (by first | assumption | omega) (F q0) (by first | assumption | omega) (HM D (vset V 42 n (nI (wr (F q0)))) P PH) _) rfl rfl ⟨by decide, by decide, by decide, by decide⟩ (Nat.le_of_ble_eq_true rfl) rfl ?_
      show Z E G (HM D (vset V 42 n (nI (wr (F q0)))) P PH) sz 0 0 (93, [some (.ref (D.1 37)), some (.int (nI q0)), some (.int (nI s)), some (.int (nI (n + 1))), some (.int (nI k9)), none], [.int (nI (mo (lra (F k9) (F q0)))), .int (nI q0), .ref (D.1 41)])
      refine Zm_ast C it_Mm_exchanged hD 41 10 rfl (by first | decide | exact isB_k hb | omega) rfl (by decide) rfl (j := q0) (by omega) trivial rfl ?_
      refine Z_run C it_Mm_exchanged 1 (f2 := (95, [some (.ref (D.1 37)), some (.int (nI q0)), some (.int (nI s)), some (.int (nI (n + 1))), some (.int (nI k9)), none], [.ref (D.1 37)])) rfl ?_
      refine Zm_get C it_Mm_exchanged hD rfl 37 wi_Mm (by decide) rfl rfl (j := 4) (by decide) fl_Mm_19 (v := .ref (D.1 41)) rfl ?_
      refine Z_run C it_Mm_exchanged 2 (f2 := (101, [some (.ref (D.1 37)), some (.int (nI q0)), some (.int (nI s)), some (.int (nI (n + 1))), some (.int (nI k9)), none], [.int (nI 0), .int (nI k9), .ref (D.1 41)])) rfl ?_
      refine Zm_ast C it_Mm_exchanged hD 41 10 rfl (by first | decide | exact isB_k hb | omega) rfl (by decide) rfl (j := k9) (by omega) trivial rfl ?_
      refine Z_run C it_Mm_exchanged 3 (f2 := (105, [some (.ref (D.1 37)), some (.int (nI q0)), some (.int (nI s)), some (.int (nI (n + 1))), some (.int (nI k9)), none], [.int (nI 1 - nI s)])) rfl ?_
      have e2 : nI 1 - nI s = nI (1 - s) := nI_sub (by omega)
      rw [e2]
      refine Z_run C it_Mm_exchanged 1 (f2 := (106, [some (.ref (D.1 37)), some (.int (nI q0)), some (.int (nI (1 - s))), some (.int (nI (n + 1))), some (.int (nI k9)), none], [])) rfl ?_
      have hz2 : ∀ j, j < 36 → (vset (vset (vset V 42 n (nI (wr (F q0)))) 41 q0 (nI (mo (lra (F k9) (F q0))))) 41 k9 (nI 0)) 41 j = nI (mo (mvF F k9 q0 j)) := hz_mv (V := vset V 42 n (nI (wr (F q0)))) hz hkq
      have hF2 : okF (mvF F k9 q0) := okF_mv hF hk36
      refine Z_run C it_Mm_exchanged 3 (f2 := (109, [some (.ref (D.1 37)), some (.int (nI q0)), some (.int (nI (1 - s))), some (.int (nI (n + 1))), some (.int (nI k9)), none], [.int (nI q0), .int (nI (1 - s)), .ref (D.1 37)])) rfl ?_
      refine Zr_callV C it_Mm_exchanged hD rfl p_Mm_capturer ml_Mm_146 37 (by decide) rfl rfl [.int (nI (1 - s)), .int (nI q0)] (ct_Mm_capturer_s C.ev C.l hD (vset (vset (vset V 42 n (nI (wr (F q0)))) 41 q0 (nI (mo (lra (F k9) (F q0))))) 41 k9 (nI 0)) P _ ((mvF F k9 q0)) hF2 hz2 (1 - s) (by omega) q0 (by omega) _) rfl rfl ⟨by decide, by decide, by decide, by decide⟩ (Nat.le_of_ble_eq_true rfl) rfl ?_
      show Z E G (HM D (vset (vset (vset V 42 n (nI (wr (F q0)))) 41 q0 (nI (mo (lra (F k9) (F q0))))) 41 k9 (nI 0)) P PH) sz 0 0 (112, [some (.ref (D.1 37)), some (.int (nI q0)), some (.int (nI (1 - s))), some (.int (nI (n + 1))), some (.int (nI k9)), none], [.int (oI (cam (mvF F k9 q0) (1 - s) q0))])
      refine Z_run C it_Mm_exchanged 2 (f2 := (48, [some (.ref (D.1 37)), some (.int (nI q0)), some (.int (nI (1 - s))), some (.int (nI (n + 1))), some (.int (oI (cam (mvF F k9 q0) (1 - s) q0))), none], [])) rfl ?_
      have hT2 : exT d (mvF F k9 q0) q0 := by have h9 := hT; unfold exT at h9; rw [← hs9, hN] at h9; exact h9
      have hsn : 1 - s = 1 - sd (mvF F k9 q0 q0) := by unfold mvF; rw [if_neg (Ne.symm hkq), if_pos rfl]; show 1 - s = 1 - sd (lra (F k9) (F q0)); rw [(sd_lra _ hFk _ hFq).1, hksd]
      refine Z_sub (ls2 := [some (.ref (D.1 37)), some (.int (nI q0)), some (.int (nI (1 - s))), some (.int (nI (n + 1))), some (.int (oI (cam (mvF F k9 q0) (1 - s) q0))), none]) (by simp [zsubl]) ?_
      refine ih9 (by omega) (mvF F k9 q0) (n + 1) (1 - s) (fun k => if k = n then wr (F q0) else g k) (vset (vset (vset V 42 n (nI (wr (F q0)))) 41 q0 (nI (mo (lra (F k9) (F q0))))) 41 k9 (nI 0)) hF2 hz2 (by unfold mvF; rw [if_neg (Ne.symm hkq), if_pos rfl]; exact lra_ne hk0) (by omega) hsn hT2 (by omega) (fun k hk => ?_) (fun k hk => ?_) (fun c h1 h2 => ?_) ?_
      · show upd (V 42) n (nI (wr (F q0))) k = _
        unfold upd
        split
        · rfl
        · exact hg k (by omega)
      · split
        · exact wr_le _
        · exact hgl k (by omega)
      · rw [vset_n h1, vset_n h1, vset_n h2]; exact hV c h1 h2
      · unfold exM at hr
        rw [← hs9, hN] at hr
        have hr2 : gfd g n (wr (F q0) - exM d (mvF F k9 q0) q0) = r := hr
        unfold gfd
        try dsimp only
        rw [if_pos rfl, ← hr2]
        exact gfd_ext (fun k hk => by rw [if_neg (by omega)])
set_option maxRecDepth 20000 in
theorem lp_Mm_exch0 {E : zE} {G : zG} {O : zO} (C : zCx E G c_Mm_exchanged 6 y_Mm_exchanged.cls y_Mm_exchanged.name (some .int) rm_Mm_exchanged) (q : zEndX E G O rm_Mm_exchanged.cells rm_Mm_exchanged.slots)  {D : zD} (hD : zDok E D) {V : Nat → Nat → Int32} {P : Nat → Nat → Value} {PH : aH} {q0 : Nat} {sz : Nat} (kk : Z E G (HM D (vrow V 41 (rcp (V 41) (V 38) 0 0 36)) P PH) sz 0 0 (26, [some (.ref (D.1 37)), some (.int (nI q0)), some (.int (nI 36)), none, none, none], [])) : ∀ (j i : Nat), 36 - i < j → i ≤ 36 → Z E G (HM D (vrow V 41 (rcp (V 41) (V 38) 0 0 i)) P PH) sz 0 0 (2, [some (.ref (D.1 37)), some (.int (nI q0)), some (.int (nI i)), none, none, none], []) := by
  intro j
  induction j with
  | zero =>
    intro i h1 h2
    omega
  | succ j ih =>
    intro i h1 h2
    refine Z_run C it_Mm_exchanged 2 (f2 := (5, [some (.ref (D.1 37)), some (.int (nI q0)), some (.int (nI i)), none, none, none], [.int (nI 36), .int (nI i)])) rfl ?_
    refine Z_br C it_Mm_exchanged rfl rfl (fun hc1 => ?_) (fun hc1 => ?_)
    · replace hc1 := (nI_leI (a := 36) (b := i) (by omega) (by omega)).mp hc1
      have h36 : i = 36 := by omega
      rw [h36]
      exact kk
    · replace hc1 : ¬ _ := fun z9 => hc1 ((nI_leI (a := 36) (b := i) (by omega) (by omega)).mpr z9)
      refine Z_run C it_Mm_exchanged 1 (f2 := (9, [some (.ref (D.1 37)), some (.int (nI q0)), some (.int (nI i)), none, none, none], [.ref (D.1 37)])) rfl ?_
      refine Zm_get C it_Mm_exchanged hD rfl 37 wi_Mm (by decide) rfl rfl (j := 4) (by decide) fl_Mm_19 (v := .ref (D.1 41)) rfl ?_
      refine Z_run C it_Mm_exchanged 2 (f2 := (14, [some (.ref (D.1 37)), some (.int (nI q0)), some (.int (nI i)), none, none, none], [.ref (D.1 37), .int (nI i), .ref (D.1 41)])) rfl ?_
      refine Zm_get C it_Mm_exchanged hD rfl 37 wi_Mm (by decide) rfl rfl (j := 0) (by decide) fl_Mm_7 (v := .ref (D.1 38)) rfl ?_
      refine Z_run C it_Mm_exchanged 1 (f2 := (18, [some (.ref (D.1 37)), some (.int (nI q0)), some (.int (nI i)), none, none, none], [.int (nI i), .ref (D.1 38), .int (nI i), .ref (D.1 41)])) rfl ?_
      refine Zm_ald C it_Mm_exchanged hD 38 10 rfl (by decide) rfl (by decide) (by decide) rfl (j := i) (by omega) (v := .int ((vrow V 41 (rcp (V 41) (V 38) 0 0 i)) 38 i)) rfl ?_
      refine Zm_ast C it_Mm_exchanged hD 41 10 rfl (by first | decide | exact isB_k hb | omega) rfl (by decide) rfl (j := i) (by omega) trivial rfl ?_
      rw [vset_row (x := (vrow V 41 (rcp (V 41) (V 38) 0 0 i)) 38 i) (r2 := rcp (V 41) (V 38) 0 0 (i + 1)) (rcp_s0 rfl)]
      refine Z_run C it_Mm_exchanged 1 (f2 := (23, [some (.ref (D.1 37)), some (.int (nI q0)), some (.int (nI i + nI 1)), none, none, none], [])) rfl ?_
      rw [nI_add i 1]
      refine Z_run C it_Mm_exchanged 1 (f2 := (2, [some (.ref (D.1 37)), some (.int (nI q0)), some (.int (nI (i + 1))), none, none, none], [])) rfl ?_
      exact ih (i + 1) (by omega) (by omega)
set_option maxRecDepth 20000 in
theorem ct_Mm_exchanged {E : zE} (hE : zEv E) {l : Launch} (hl : l.stackTraces = false) {D : zD} (hD : zDok E D) (V : Nat → Nat → Int32) (P : Nat → Nat → Value) (PH : aH) (F : Nat → Nat) (hF : okF F) (hz : ∀ k, k < 36 → V 38 k = nI (mo (F k))) (a : Nat) (ha : a < 36) (ha0 : F a ≠ 0) (hT : exT 16 F a) (sz : Nat) : zM E l y_Mm_exchanged [.code y_Mm_exchanged c_Mm_exchanged 6 (some .int)] rm_Mm_exchanged [.ref (D.1 37), .int (nI a)] (HM D V P PH) sz (zEy D V P PH sz (exM 16 F a)) := by
  refine zM_of hE hl (by decide +kernel) [some (.ref (D.1 37)), some (.int (nI a)), none, none, none, none] ⟨rfl, rfl, Nat.le_of_ble_eq_true rfl⟩ ?_
  intro G C q htb
  have hsd := sd_le (F a)
  have hFa := hF a ha
  refine Z_run C it_Mm_exchanged 2 (f2 := (2, [some (.ref (D.1 37)), some (.int (nI a)), some (.int (nI 0)), none, none, none], [])) rfl ?_
  have h0 : V = vrow V 41 (rcp (V 41) (V 38) 0 0 0) := (vrow_e rcp_0).symm
  refine (congrArg (fun z9 => Z E G (HM D z9 P PH) sz 0 0 (2, [some (.ref (D.1 37)), some (.int (nI a)), some (.int (nI 0)), none, none, none], [])) h0).mpr ?_
  refine lp_Mm_exch0 C q hD ?_ 37 0 (by omega) (by omega)
  have hzs := hz_row hz
  refine Z_run C it_Mm_exchanged 2 (f2 := (28, [some (.ref (D.1 37)), some (.int (nI a)), some (.int (nI 36)), none, none, none], [.ref (D.1 37), .int (nI 1)])) rfl ?_
  refine Zm_get C it_Mm_exchanged hD rfl 37 wi_Mm (by decide) rfl rfl (j := 4) (by decide) fl_Mm_19 (v := .ref (D.1 41)) rfl ?_
  refine Z_run C it_Mm_exchanged 1 (f2 := (32, [some (.ref (D.1 37)), some (.int (nI a)), some (.int (nI 36)), none, none, none], [.int (nI a), .ref (D.1 41), .int (nI 1)])) rfl ?_
  refine Zm_ald C it_Mm_exchanged hD 41 10 rfl (by decide) rfl (by decide) (by decide) rfl (j := a) (by omega) (v := .int (nI (mo (F a)))) (congrArg Value.int (hzs a (by omega))) ?_
  refine Zr_callS C it_Mm_exchanged rfl p_Mm_sideOf ml_Mm_58 [.int (nI (mo (F a)))] (ct_Mm_sideOf C.ev C.l (F a) (by first | assumption | omega | exact hF _ (by omega)) (HM D (vrow V 41 (rcp (V 41) (V 38) 0 0 36)) P PH) _) rfl rfl ⟨by decide, by decide, by decide, by decide⟩ (Nat.le_of_ble_eq_true rfl) rfl ?_
  show Z E G (HM D (vrow V 41 (rcp (V 41) (V 38) 0 0 36)) P PH) sz 0 0 (36, [some (.ref (D.1 37)), some (.int (nI a)), some (.int (nI 36)), none, none, none], [.int (oI (sdo (F a))), .int (nI 1)])
  have e1 : oI (sdo (F a)) = nI (sd (F a)) := sdo_t ha0
  rw [e1]
  refine Z_run C it_Mm_exchanged 1 (f2 := (37, [some (.ref (D.1 37)), some (.int (nI a)), some (.int (nI 36)), none, none, none], [.int (nI 1 - nI (sd (F a)))])) rfl ?_
  have e2 : nI 1 - nI (sd (F a)) = nI (1 - sd (F a)) := nI_sub (by omega)
  rw [e2]
  refine Z_run C it_Mm_exchanged 6 (f2 := (43, [some (.ref (D.1 37)), some (.int (nI a)), some (.int (nI (1 - sd (F a)))), some (.int (nI 0)), none, none], [.int (nI a), .int (nI (1 - sd (F a))), .ref (D.1 37)])) rfl ?_
  refine Zr_callV C it_Mm_exchanged hD rfl p_Mm_capturer ml_Mm_146 37 (by decide) rfl rfl [.int (nI (1 - sd (F a))), .int (nI a)] (ct_Mm_capturer_s C.ev C.l hD (vrow V 41 (rcp (V 41) (V 38) 0 0 36)) P _ F hF hzs (1 - sd (F a)) (by omega) a (by omega) _) rfl rfl ⟨by decide, by decide, by decide, by decide⟩ (Nat.le_of_ble_eq_true rfl) rfl ?_
  show Z E G (HM D (vrow V 41 (rcp (V 41) (V 38) 0 0 36)) P PH) sz 0 0 (46, [some (.ref (D.1 37)), some (.int (nI a)), some (.int (nI (1 - sd (F a)))), some (.int (nI 0)), none, none], [.int (oI (cam F (1 - sd (F a)) a))])
  refine Z_run C it_Mm_exchanged 1 (f2 := (48, [some (.ref (D.1 37)), some (.int (nI a)), some (.int (nI (1 - sd (F a)))), some (.int (nI 0)), some (.int (oI (cam F (1 - sd (F a)) a))), none], [])) rfl ?_
  refine lp_Mm_exch1 C q hD (V0 := V) ha (r := exM 16 F a) (fun V2 hV2 => ⟨rfl, rfl, V2, rfl, hV2⟩) 16 (by omega) F 0 (1 - sd (F a)) (fun _ => 0) (vrow V 41 (rcp (V 41) (V 38) 0 0 36)) hF hzs ha0 (by omega) rfl hT (by omega) (fun k hk => by omega) (fun k hk => by omega) (fun c h1 h2 => vrow_n h1) rfl
