/-! ===== the model: exchange, weakest, how often the board came up ===== -/
def wkq (F : Nat → Nat) (s : Nat) : Nat → Nat × Option Nat
  | 0 => (0, none)
  | n + 1 => if hld F n s then (if (wkq F s n).1 < exM 16 F n then (exM 16 F n, some n) else wkq F s n) else wkq F s n
theorem wkq_f {F : Nat → Nat} {s n : Nat} (h : hld F n s = false) : wkq F s (n + 1) = wkq F s n := by simp [wkq, h]
theorem wkq_n {F : Nat → Nat} {s n : Nat} (h : hld F n s = true) (h2 : exM 16 F n ≤ (wkq F s n).1) : wkq F s (n + 1) = wkq F s n := by simp [wkq, h, show ¬ (wkq F s n).1 < exM 16 F n by omega]
theorem wkq_t {F : Nat → Nat} {s n : Nat} (h : hld F n s = true) (h2 : ¬ exM 16 F n ≤ (wkq F s n).1) : wkq F s (n + 1) = (exM 16 F n, some n) := by simp [wkq, h, show (wkq F s n).1 < exM 16 F n by omega]
theorem wkq_le {F : Nat → Nat} {s n : Nat} : (wkq F s n).1 ≤ 35 := by
  induction n with
  | zero => exact Nat.zero_le _
  | succ n ih =>
    unfold wkq
    split
    · split
      · exact exM_le 16 F n
      · exact ih
    · exact ih
theorem wkq_lt {F : Nat → Nat} {s n k : Nat} (h : (wkq F s n).2 = some k) : k < n := by
  induction n with
  | zero => cases h
  | succ n ih =>
    unfold wkq at h
    split at h
    · split at h
      · cases h; omega
      · have := ih h; omega
    · have := ih h; omega
set_option maxRecDepth 20000 in
theorem ct_Mm_exchange {E : zE} (hE : zEv E) {l : Launch} (hl : l.stackTraces = false) {D : zD} (hD : zDok E D) (V : Nat → Nat → Int32) (P : Nat → Nat → Value) (PH : aH) (F : Nat → Nat) (hF : okF F) (hz : ∀ k, k < 36 → V 38 k = nI (mo (F k))) (a : Nat) (ha : a < 36) (ha0 : F a ≠ 0) (hT : exT 16 F a) (sz : Nat) : zM E l y_Mm_exchange [.code y_Mm_exchange c_Mm_exchange 2 (some .int)] rm_Mm_exchange [.ref (D.1 37), .int (nI a)] (HM D V P PH) sz (zEy D (vset V 37 8 (nI 0)) P PH sz (exM 16 F a)) := by
  refine zM_of hE hl (by decide +kernel) [some (.ref (D.1 37)), some (.int (nI a))] ⟨rfl, rfl, Nat.le_of_ble_eq_true rfl⟩ ?_
  intro G C q htb
  have hFa := hF a ha
  refine Z_run C it_Mm_exchange 2 (f2 := (2, [some (.ref (D.1 37)), some (.int (nI a))], [.int (nI a), .ref (D.1 37)])) rfl ?_
  refine Zr_callV C it_Mm_exchange hD rfl p_Mm_asksPiece ml_Mm_136 37 (by decide) rfl rfl [.int (nI a)] (ct_Mm_asksPiece C.ev C.l hD V P _ F hF hz a (by omega) (by assumption) _) rfl rfl ⟨by decide, by decide, by decide, by decide⟩ (Nat.le_of_ble_eq_true rfl) rfl ?_
  show Z E G (HM D (vset V 37 8 (nI 0)) P PH) sz 0 0 (5, [some (.ref (D.1 37)), some (.int (nI a))], [.int (nI 1)])
  refine Z_br C it_Mm_exchange rfl rfl (fun hc1 => absurd hc1 (by decide)) (fun hc1 => ?_)
  refine Z_run C it_Mm_exchange 2 (f2 := (10, [some (.ref (D.1 37)), some (.int (nI a))], [.int (nI a), .ref (D.1 37)])) rfl ?_
  refine Zr_eyV C it_Mm_exchange hD rfl p_Mm_exchanged ml_Mm_149 37 (by decide) rfl rfl [.int (nI a)] (ct_Mm_exchanged C.ev C.l hD (vset V 37 8 (nI 0)) P _ F hF hz a ha ha0 hT _) rfl rfl ⟨by decide, by decide, by decide, by decide⟩ (Nat.le_of_ble_eq_true rfl) rfl (fun V2 hV2 => ?_)
  show Z E G (HM D V2 P PH) sz 0 0 (13, [some (.ref (D.1 37)), some (.int (nI a))], [.int (nI (exM 16 F a))])
  refine Z_run C it_Mm_exchange 1 (f2 := (17, [some (.ref (D.1 37)), some (.int (nI a))], [.int (nI (exM 16 F a))])) rfl ?_
  exact Z_iret C q.e it_Mm_exchange rfl (⟨rfl, rfl, V2, rfl, hV2⟩) (by decide) (by decide)
set_option maxRecDepth 20000 in
theorem ct_Mm_exchange_x2 {E : zE} (hE : zEv E) {l : Launch} (hl : l.stackTraces = false) {D : zD} (hD : zDok E D) (V : Nat → Nat → Int32) (P : Nat → Nat → Value) (PH : aH) (F : Nat → Nat) (hF : okF F) (hz : ∀ k, k < 36 → V 38 k = nI (mo (F k))) (a : Nat) (ha : a < 36) (ha0 : F a = 0) (sz : Nat) : zM E l y_Mm_exchange [.code y_Mm_exchange c_Mm_exchange 2 (some .int)] rm_Mm_exchange [.ref (D.1 37), .int (nI a)] (HM D V P PH) sz (zRet (some (.int (nI 0))) (HM D (vset V 37 8 (nI 2)) P PH) sz) := by
  refine zM_of hE hl (by decide +kernel) [some (.ref (D.1 37)), some (.int (nI a))] ⟨rfl, rfl, Nat.le_of_ble_eq_true rfl⟩ ?_
  intro G C q htb
  refine Z_run C it_Mm_exchange 2 (f2 := (2, [some (.ref (D.1 37)), some (.int (nI a))], [.int (nI a), .ref (D.1 37)])) rfl ?_
  refine Zr_callV C it_Mm_exchange hD rfl p_Mm_asksPiece ml_Mm_136 37 (by decide) rfl rfl [.int (nI a)] (ct_Mm_asksPiece_x2 C.ev C.l hD V P _ F hF hz a (by omega) (by assumption) _) rfl rfl ⟨by decide, by decide, by decide, by decide⟩ (Nat.le_of_ble_eq_true rfl) rfl ?_
  show Z E G (HM D (vset V 37 8 (nI 2)) P PH) sz 0 0 (5, [some (.ref (D.1 37)), some (.int (nI a))], [.int (nI 0)])
  refine Z_br C it_Mm_exchange rfl rfl (fun hc1 => ?_) (fun hc1 => absurd (by decide) hc1)
  refine Z_run C it_Mm_exchange 1 (f2 := (17, [some (.ref (D.1 37)), some (.int (nI a))], [.int (nI 0)])) rfl ?_
  exact Z_iret C q.e it_Mm_exchange rfl (zRet_iH rfl (by first | rfl | (simp only [vset_2]))) (by decide) (by decide)
set_option maxRecDepth 20000 in
theorem ct_Mm_exchange_x1 {E : zE} (hE : zEv E) {l : Launch} (hl : l.stackTraces = false) {D : zD} (hD : zDok E D) (V : Nat → Nat → Int32) (P : Nat → Nat → Value) (PH : aH) (a : Nat) (h32 : a < 4294967296) (ha : 36 ≤ a) (sz : Nat) : zM E l y_Mm_exchange [.code y_Mm_exchange c_Mm_exchange 2 (some .int)] rm_Mm_exchange [.ref (D.1 37), .int (nI a)] (HM D V P PH) sz (zRet (some (.int (nI 0))) (HM D (vset V 37 8 (nI 1)) P PH) sz) := by
  refine zM_of hE hl (by decide +kernel) [some (.ref (D.1 37)), some (.int (nI a))] ⟨rfl, rfl, Nat.le_of_ble_eq_true rfl⟩ ?_
  intro G C q htb
  refine Z_run C it_Mm_exchange 2 (f2 := (2, [some (.ref (D.1 37)), some (.int (nI a))], [.int (nI a), .ref (D.1 37)])) rfl ?_
  refine Zr_callV C it_Mm_exchange hD rfl p_Mm_asksPiece ml_Mm_136 37 (by decide) rfl rfl [.int (nI a)] (ct_Mm_asksPiece_x1 C.ev C.l hD V P _ a (by omega) (by omega) _) rfl rfl ⟨by decide, by decide, by decide, by decide⟩ (Nat.le_of_ble_eq_true rfl) rfl ?_
  show Z E G (HM D (vset V 37 8 (nI 1)) P PH) sz 0 0 (5, [some (.ref (D.1 37)), some (.int (nI a))], [.int (nI 0)])
  refine Z_br C it_Mm_exchange rfl rfl (fun hc1 => ?_) (fun hc1 => absurd (by decide) hc1)
  refine Z_run C it_Mm_exchange 1 (f2 := (17, [some (.ref (D.1 37)), some (.int (nI a))], [.int (nI 0)])) rfl ?_
  exact Z_iret C q.e it_Mm_exchange rfl (zRet_iH rfl (by first | rfl | (simp only [vset_2]))) (by decide) (by decide)
set_option maxRecDepth 20000 in
theorem lp_Mm_weak {E : zE} {G : zG} {O : zO} (C : zCx E G c_Mm_weak 6 y_Mm_weak.cls y_Mm_weak.name (some .int) rm_Mm_weak) (q : zEndX E G O rm_Mm_weak.cells rm_Mm_weak.slots)  {D : zD} (hD : zDok E D) {V0 : Nat → Nat → Int32} {P : Nat → Nat → Value} {PH : aH} {F : Nat → Nat} (hF : okF F) {s : Nat} (hs : s < 2) (hT : ∀ k, k < 36 → F k ≠ 0 → exT 16 F k) {sz : Nat} (kk : ∀ V2 : Nat → Nat → Int32, (∀ c, c ≠ 41 → c ≠ 42 → V2 c = V0 c) → Z E G (HM D V2 P PH) sz 0 0 (72, [some (.ref (D.1 37)), some (.int (nI s)), some (.int (oI (wkq F s 36).2)), some (.int (nI (wkq F s 36).1)), some (.int (nI 36)), none], [])) : ∀ (j i : Nat) (V : Nat → Nat → Int32), (∀ c, c ≠ 41 → c ≠ 42 → V c = V0 c) → (∀ k, k < 36 → V 38 k = nI (mo (F k))) → 36 - i < j → i ≤ 36 → Z E G (HM D V P PH) sz 0 0 (7, [some (.ref (D.1 37)), some (.int (nI s)), some (.int (oI (wkq F s i).2)), some (.int (nI (wkq F s i).1)), some (.int (nI i)), none], []) := by
  intro j
  induction j with
  | zero => intro i V hV hz h1 h2; omega
  | succ j ih =>
    intro i V hV hz h1 h2
    have hw9 := wkq_le (F := F) (s := s) (n := i)
    refine Z_run C it_Mm_weak 2 (f2 := (11, [some (.ref (D.1 37)), some (.int (nI s)), some (.int (oI (wkq F s i).2)), some (.int (nI (wkq F s i).1)), some (.int (nI i)), none], [.int (nI 36), .int (nI i)])) rfl ?_
    refine Z_br C it_Mm_weak rfl rfl (fun hc1 => ?_) (fun hc1 => ?_)
    · replace hc1 := (nI_leI (a := 36) (b := i) (by omega) (by omega)).mp hc1
      have h36 : i = 36 := by omega
      subst h36
      exact kk V hV
    · replace hc1 : ¬ _ := fun z9 => hc1 ((nI_leI (a := 36) (b := i) (by omega) (by omega)).mpr z9)
      refine Z_run C it_Mm_weak 1 (f2 := (15, [some (.ref (D.1 37)), some (.int (nI s)), some (.int (oI (wkq F s i).2)), some (.int (nI (wkq F s i).1)), some (.int (nI i)), none], [.ref (D.1 37)])) rfl ?_
      refine Zm_get C it_Mm_weak hD rfl 37 wi_Mm (by decide) rfl rfl (j := 0) (by decide) fl_Mm_7 (v := .ref (D.1 38)) rfl ?_
      refine Z_run C it_Mm_weak 1 (f2 := (20, [some (.ref (D.1 37)), some (.int (nI s)), some (.int (oI (wkq F s i).2)), some (.int (nI (wkq F s i).1)), some (.int (nI i)), none], [.int (nI i), .ref (D.1 38)])) rfl ?_
      refine Zm_ald C it_Mm_weak hD 38 10 rfl (by decide) rfl (by decide) (by decide) rfl (j := i) (by omega) (v := .int (nI (mo (F i)))) (congrArg Value.int (hz i (by omega))) ?_
      refine Zr_callS C it_Mm_weak rfl p_Mm_sideOf ml_Mm_58 [.int (nI (mo (F i)))] (ct_Mm_sideOf C.ev C.l (F i) (by first | assumption | omega | exact hF _ (by omega)) (HM D V P PH) _) rfl rfl ⟨by decide, by decide, by decide, by decide⟩ (Nat.le_of_ble_eq_true rfl) rfl ?_
      show Z E G (HM D V P PH) sz 0 0 (24, [some (.ref (D.1 37)), some (.int (nI s)), some (.int (oI (wkq F s i).2)), some (.int (nI (wkq F s i).1)), some (.int (nI i)), none], [.int (oI (sdo (F i)))])
      refine Z_run C it_Mm_weak 1 (f2 := (25, [some (.ref (D.1 37)), some (.int (nI s)), some (.int (oI (wkq F s i).2)), some (.int (nI (wkq F s i).1)), some (.int (nI i)), none], [.int (nI s), .int (oI (sdo (F i)))])) rfl ?_
      refine Z_br C it_Mm_weak rfl rfl (fun hc2 => ?_) (fun hc2 => ?_)
      · have hA : hld F i s = false := (sdo_n (hF i (by omega)) hs).mp hc2
        refine Z_run C it_Mm_weak 4 (f2 := (43, [some (.ref (D.1 37)), some (.int (nI s)), some (.int (oI (wkq F s i).2)), some (.int (nI (wkq F s i).1)), some (.int (nI i)), some (.int (nI 0))], [.int (nI (wkq F s i).1), .int (nI 0)])) rfl ?_
        refine Z_br C it_Mm_weak rfl rfl (fun hc3 => ?_) (fun hc3 => ?_)
        · refine Z_run C it_Mm_weak 4 (f2 := (56, [some (.ref (D.1 37)), some (.int (nI s)), some (.int (oI (wkq F s i).2)), some (.int (nI (wkq F s i).1)), some (.int (nI i)), some (.int (nI 0))], [.int (nI (wkq F s i).1), .int (nI 0)])) rfl ?_
          refine Z_br C it_Mm_weak rfl rfl (fun hc4 => ?_) (fun hc4 => ?_)
          · refine Z_run C it_Mm_weak 3 (f2 := (69, [some (.ref (D.1 37)), some (.int (nI s)), some (.int (oI (wkq F s i).2)), some (.int (nI (wkq F s i).1)), some (.int (nI i + nI 1)), some (.int (nI 0))], [])) rfl ?_
            rw [nI_add i 1]
            refine Z_run C it_Mm_weak 1 (f2 := (7, [some (.ref (D.1 37)), some (.int (nI s)), some (.int (oI (wkq F s i).2)), some (.int (nI (wkq F s i).1)), some (.int (nI (i + 1))), some (.int (nI 0))], [])) rfl ?_
            have e9 : wkq F s (i + 1) = wkq F s i := wkq_f hA
            have hI := ih (i + 1) V hV hz (by omega) (by omega)
            rw [e9] at hI
            refine Z_sub (ls2 := [some (.ref (D.1 37)), some (.int (nI s)), some (.int (oI (wkq F s i).2)), some (.int (nI (wkq F s i).1)), some (.int (nI (i + 1))), none]) (by simp [zsubl]) ?_
            exact hI
          · exact absurd ((nI_leI (a := 0) (b := (wkq F s i).1) (by omega) (by omega)).mpr (Nat.zero_le _)) hc4
        · exact absurd ((nI_leI (a := 0) (b := (wkq F s i).1) (by omega) (by omega)).mpr (Nat.zero_le _)) hc3
      · have hA : hld F i s = true := (sdo_hld (hF i (by omega)) hs).mp (Classical.not_not.mp hc2)
        refine Z_run C it_Mm_weak 2 (f2 := (31, [some (.ref (D.1 37)), some (.int (nI s)), some (.int (oI (wkq F s i).2)), some (.int (nI (wkq F s i).1)), some (.int (nI i)), none], [.int (nI i), .ref (D.1 37)])) rfl ?_
        refine Zr_eyV C it_Mm_weak hD rfl p_Mm_exchanged ml_Mm_149 37 (by decide) rfl rfl [.int (nI i)] (ct_Mm_exchanged C.ev C.l hD V P _ F hF hz i (by omega) (hld_ne hA) (hT i (by omega) (hld_ne hA)) _) rfl rfl ⟨by decide, by decide, by decide, by decide⟩ (Nat.le_of_ble_eq_true rfl) rfl (fun V2 hV2 => ?_)
        show Z E G (HM D V2 P PH) sz 0 0 (34, [some (.ref (D.1 37)), some (.int (nI s)), some (.int (oI (wkq F s i).2)), some (.int (nI (wkq F s i).1)), some (.int (nI i)), none], [.int (nI (exM 16 F i))])
        have hx9 := exM_le 16 F i
        refine Z_run C it_Mm_weak 4 (f2 := (43, [some (.ref (D.1 37)), some (.int (nI s)), some (.int (oI (wkq F s i).2)), some (.int (nI (wkq F s i).1)), some (.int (nI i)), some (.int (nI (exM 16 F i)))], [.int (nI (wkq F s i).1), .int (nI (exM 16 F i))])) rfl ?_
        refine Z_br C it_Mm_weak rfl rfl (fun hc5 => ?_) (fun hc5 => ?_)
        · have hW : exM 16 F i ≤ (wkq F s i).1 := (nI_leI (a := exM 16 F i) (b := (wkq F s i).1) (by omega) (by omega)).mp hc5
          refine Z_run C it_Mm_weak 4 (f2 := (56, [some (.ref (D.1 37)), some (.int (nI s)), some (.int (oI (wkq F s i).2)), some (.int (nI (wkq F s i).1)), some (.int (nI i)), some (.int (nI (exM 16 F i)))], [.int (nI (wkq F s i).1), .int (nI (exM 16 F i))])) rfl ?_
          refine Z_br C it_Mm_weak rfl rfl (fun hc6 => ?_) (fun hc6 => ?_)
          · refine Z_run C it_Mm_weak 3 (f2 := (69, [some (.ref (D.1 37)), some (.int (nI s)), some (.int (oI (wkq F s i).2)), some (.int (nI (wkq F s i).1)), some (.int (nI i + nI 1)), some (.int (nI (exM 16 F i)))], [])) rfl ?_
            rw [nI_add i 1]
            refine Z_run C it_Mm_weak 1 (f2 := (7, [some (.ref (D.1 37)), some (.int (nI s)), some (.int (oI (wkq F s i).2)), some (.int (nI (wkq F s i).1)), some (.int (nI (i + 1))), some (.int (nI (exM 16 F i)))], [])) rfl ?_
            have e9 : wkq F s (i + 1) = wkq F s i := wkq_n hA hW
            have hI := ih (i + 1) V2 (fun c h1 h2 => by rw [hV2 c h1 h2, hV c h1 h2]) (fun k hk => by rw [hV2 38 (by decide) (by decide)]; exact hz k hk) (by omega) (by omega)
            rw [e9] at hI
            refine Z_sub (ls2 := [some (.ref (D.1 37)), some (.int (nI s)), some (.int (oI (wkq F s i).2)), some (.int (nI (wkq F s i).1)), some (.int (nI (i + 1))), none]) (by simp [zsubl]) ?_
            exact hI
          · exact absurd ((nI_leI (a := exM 16 F i) (b := (wkq F s i).1) (by omega) (by omega)).mpr hW) hc6
        · have hW : ¬ exM 16 F i ≤ (wkq F s i).1 := fun z9 => hc5 ((nI_leI (a := exM 16 F i) (b := (wkq F s i).1) (by omega) (by omega)).mpr z9)
          refine Z_run C it_Mm_weak 5 (f2 := (56, [some (.ref (D.1 37)), some (.int (nI s)), some (.int (nI i)), some (.int (nI (wkq F s i).1)), some (.int (nI i)), some (.int (nI (exM 16 F i)))], [.int (nI (wkq F s i).1), .int (nI (exM 16 F i))])) rfl ?_
          refine Z_br C it_Mm_weak rfl rfl (fun hc7 => ?_) (fun hc7 => ?_)
          · exact absurd ((nI_leI (a := exM 16 F i) (b := (wkq F s i).1) (by omega) (by omega)).mp hc7) hW
          · refine Z_run C it_Mm_weak 4 (f2 := (69, [some (.ref (D.1 37)), some (.int (nI s)), some (.int (nI i)), some (.int (nI (exM 16 F i))), some (.int (nI i + nI 1)), some (.int (nI (exM 16 F i)))], [])) rfl ?_
            rw [nI_add i 1]
            refine Z_run C it_Mm_weak 1 (f2 := (7, [some (.ref (D.1 37)), some (.int (nI s)), some (.int (nI i)), some (.int (nI (exM 16 F i))), some (.int (nI (i + 1))), some (.int (nI (exM 16 F i)))], [])) rfl ?_
            have e9 : wkq F s (i + 1) = (exM 16 F i, some i) := wkq_t hA hW
            have hI := ih (i + 1) V2 (fun c h1 h2 => by rw [hV2 c h1 h2, hV c h1 h2]) (fun k hk => by rw [hV2 38 (by decide) (by decide)]; exact hz k hk) (by omega) (by omega)
            rw [e9] at hI
            refine Z_sub (ls2 := [some (.ref (D.1 37)), some (.int (nI s)), some (.int (nI i)), some (.int (nI (exM 16 F i))), some (.int (nI (i + 1))), none]) (by simp [zsubl]) ?_
            exact hI
/-- a number or -1; the try's squares and the gains alone have changed -/
def zEo (D : zD) (V : Nat → Nat → Int32) (P : Nat → Nat → Value) (PH : aH) (sz : Nat) (r : Int32) : zO := fun o h2 sz2 => o = .inl (some (.int r)) ∧ sz2 = sz ∧ ∃ V2, h2 = HM D V2 P PH ∧ ∀ c, c ≠ 41 → c ≠ 42 → V2 c = V c
section ZEO
variable {E : zE} {G : zG} {cc : ByteArray} {nL : Nat} {own nm : String} {ret : Option FieldType} {R : Room} {sz k n : Nat} {t : List zI} {pc : Nat} {ls : zL} {st rest : List Value} {D : zD} {V : Nat → Nat → Int32} {P : Nat → Nat → Value} {PH : aH}
theorem Zr_eoV (C : zCx E G cc nL own nm ret R) (ht : zT cc t) (hD : zDok E D) {idx : Nat} {r : Nat × Int32 × Nat} (hl : t.lookup pc = some (.invokevirtual idx, r)) {y : MethodName} {c9 : ByteArray} {n9 a : Nat} {r9 : Option FieldType} {rm : Room} (hp : zPv y c9 n9 r9 a) (hlk : Cond.methodLink own idx y ∈ zWs) (i : Nat) (hi : i < 53) {ci nn N : Nat} {fs : Nat → Value} {T : u_T} (hc : mk D i (V i) (P i) = (ci, nn, fs)) (hci : zCl[ci]? = some (y.cls, T, N)) (As : List Value) {x : Int32} (hM : zM E (zGl G) y [.code y c9 n9 r9] rm (.ref (D.1 i) :: As) (HM D V P PH) sz (zEo D V P PH sz x)) (hst : st = As.reverse ++ .ref (D.1 i) :: rest) (ha : As.length = a) (hR : zRm rm R n9 k n) (hcat : (rest.map fun v => v.category).sum ≤ 8) (hls : ls.length = nL)
    (kk : ∀ V2 : Nat → Nat → Int32, (∀ c, c ≠ 41 → c ≠ 42 → V2 c = V c) → Z E G (HM D V2 P PH) sz (k + rm.cells) (n + rm.slots) (pc + 3, ls, .int x :: rest)) : Z E G (HM D V P PH) sz k n (pc, ls, st) :=
  Z_callV C ht hl hp hlk As hM hst ha (by rw [HM_at hD hi, hc]) hci hR hcat hls (fun v h3 sz3 hO => by
    obtain ⟨e1, rfl, V2, rfl, hV⟩ := hO
    cases e1
    exact kk V2 hV) (fun X h3 sz3 hO => by cases hO.1)
end ZEO
set_option maxRecDepth 20000 in
theorem ct_Mm_weak {E : zE} (hE : zEv E) {l : Launch} (hl : l.stackTraces = false) {D : zD} (hD : zDok E D) (V : Nat → Nat → Int32) (P : Nat → Nat → Value) (PH : aH) (F : Nat → Nat) (hF : okF F) (hz : ∀ k, k < 36 → V 38 k = nI (mo (F k))) (s : Nat) (hs : s < 2) (hT : ∀ k, k < 36 → F k ≠ 0 → exT 16 F k) (sz : Nat) : zM E l y_Mm_weak [.code y_Mm_weak c_Mm_weak 6 (some .int)] rm_Mm_weak [.ref (D.1 37), .int (nI s)] (HM D V P PH) sz (zEo D V P PH sz (oI (wkq F s 36).2)) := by
  refine zM_of hE hl (by decide +kernel) [some (.ref (D.1 37)), some (.int (nI s)), none, none, none, none] ⟨rfl, rfl, Nat.le_of_ble_eq_true rfl⟩ ?_
  intro G C q htb
  refine Z_run C it_Mm_weak 6 (f2 := (7, [some (.ref (D.1 37)), some (.int (nI s)), some (.int ((-1))), some (.int (nI 0)), some (.int (nI 0)), none], [])) rfl ?_
  refine lp_Mm_weak C q hD hF hs hT (fun V2 hV2 => ?_) 37 0 V (fun c h1 h2 => rfl) hz (by omega) (by omega)
  refine Z_run C it_Mm_weak 1 (f2 := (73, [some (.ref (D.1 37)), some (.int (nI s)), some (.int (oI (wkq F s 36).2)), some (.int (nI (wkq F s 36).1)), some (.int (nI 36)), none], [.int (oI (wkq F s 36).2)])) rfl ?_
  exact Z_iret C q.e it_Mm_weak rfl (⟨rfl, rfl, V2, rfl, hV2⟩) (by decide) (by decide)
theorem vset_al {V V2 : Nat → Nat → Int32} {x y : Int32} (h : ∀ c, c ≠ 41 → c ≠ 42 → V2 c = vset V 37 8 x c) : ∀ c, c ≠ 41 → c ≠ 42 → vset V2 37 8 y c = vset V 37 8 y c := by
  intro c h1 h2
  by_cases h3 : c = 37
  · subst h3
    rw [vset_s, vset_s, h 37 h1 h2, vset_s]
    funext k
    unfold upd
    split <;> rfl
  · rw [vset_n h3, vset_n h3, h c h1 h2, vset_n h3]
set_option maxRecDepth 20000 in
theorem ct_Mm_weakest {E : zE} (hE : zEv E) {l : Launch} (hl : l.stackTraces = false) {D : zD} (hD : zDok E D) (V : Nat → Nat → Int32) (P : Nat → Nat → Value) (PH : aH) (F : Nat → Nat) (hF : okF F) (hz : ∀ k, k < 36 → V 38 k = nI (mo (F k))) (s : Nat) (hs : s < 2) (hT : ∀ k, k < 36 → F k ≠ 0 → exT 16 F k) (k : Nat) (hw : (wkq F s 36).2 = some k) (sz : Nat) : zM E l y_Mm_weakest [.code y_Mm_weakest c_Mm_weakest 3 (some .int)] rm_Mm_weakest [.ref (D.1 37), .int (nI s)] (HM D V P PH) sz (zEo D (vset V 37 8 (nI 0)) P PH sz (nI k)) := by
  refine zM_of hE hl (by decide +kernel) [some (.ref (D.1 37)), some (.int (nI s)), none] ⟨rfl, rfl, Nat.le_of_ble_eq_true rfl⟩ ?_
  intro G C q htb
  refine Z_run C it_Mm_weakest 2 (f2 := (2, [some (.ref (D.1 37)), some (.int (nI s)), none], [.int (nI s), .ref (D.1 37)])) rfl ?_
  refine Zr_callS C it_Mm_weakest rfl p_Mm_isSide ml_Mm_91 [.int (nI s)] (ct_Mm_isSide_t C.ev C.l s (by omega) (HM D V P PH) _) rfl rfl ⟨by decide, by decide, by decide, by decide⟩ (Nat.le_of_ble_eq_true rfl) rfl ?_
  show Z E G (HM D V P PH) sz 0 0 (5, [some (.ref (D.1 37)), some (.int (nI s)), none], [.int (nI 1), .ref (D.1 37)])
  refine Zr_callV C it_Mm_weakest hD rfl p_Mm_asks ml_Mm_40 37 (by decide) rfl rfl [.int (nI 1)] (ct_Mm_asks_t C.ev C.l hD V P _ _) rfl rfl ⟨by decide, by decide, by decide, by decide⟩ (Nat.le_of_ble_eq_true rfl) rfl ?_
  show Z E G (HM D (vset V 37 8 (nI 0)) P PH) sz 0 0 (8, [some (.ref (D.1 37)), some (.int (nI s)), none], [.int (nI 1)])
  refine Z_run C it_Mm_weakest 2 (f2 := (10, [some (.ref (D.1 37)), some (.int (nI s)), none], [.ref (D.1 37)])) rfl ?_
  refine Zm_get C it_Mm_weakest hD rfl 37 wi_Mm (by decide) rfl rfl (j := 8) (by decide) fl_Mm_29 (v := .int (nI 0)) rfl ?_
  refine Z_br C it_Mm_weakest rfl rfl (fun hc1 => ?_) (fun hc1 => absurd (by decide) hc1)
  refine Z_run C it_Mm_weakest 2 (f2 := (22, [some (.ref (D.1 37)), some (.int (nI s)), none], [.int (nI s), .ref (D.1 37)])) rfl ?_
  refine Zr_eoV C it_Mm_weakest hD rfl p_Mm_weak ml_Mm_152 37 (by decide) rfl rfl [.int (nI s)] (ct_Mm_weak C.ev C.l hD (vset V 37 8 (nI 0)) P _ F hF hz s hs hT _) rfl rfl ⟨by decide, by decide, by decide, by decide⟩ (Nat.le_of_ble_eq_true rfl) rfl (fun V2 hV2 => ?_)
  show Z E G (HM D V2 P PH) sz 0 0 (25, [some (.ref (D.1 37)), some (.int (nI s)), none], [.int (oI (wkq F s 36).2)])
  have h8 : V2 37 8 = nI 0 := by rw [hV2 37 (by decide) (by decide)]; rfl
  have e1 : oI (wkq F s 36).2 = nI k := by rw [hw]; rfl
  rw [e1]
  refine Z_run C it_Mm_weakest 4 (f2 := (29, [some (.ref (D.1 37)), some (.int (nI s)), some (.int (nI k))], [.int ((-1)), .int (nI k), .ref (D.1 37)])) rfl ?_
  refine Z_br C it_Mm_weakest rfl rfl (fun hc2 => ?_) (fun hc2 => ?_)
  · exact absurd hc2 (nI_m1 (by have := wkq_lt hw; omega))
  · skip
    refine Z_run C it_Mm_weakest 3 (f2 := (38, [some (.ref (D.1 37)), some (.int (nI s)), some (.int (nI k))], [.int (nI 2), .int (nI 1), .ref (D.1 37)])) rfl ?_
    refine Zr_callV C it_Mm_weakest hD rfl p_Mm_asksThen ml_Mm_97 37 (by decide) rfl rfl [.int (nI 1), .int (nI 2)] (ct_Mm_asksThen_t C.ev C.l hD V2 P _ 2 h8 _) rfl rfl ⟨by decide, by decide, by decide, by decide⟩ (Nat.le_of_ble_eq_true rfl) rfl ?_
    show Z E G (HM D (vset V2 37 8 (nI 0)) P PH) sz 0 0 (41, [some (.ref (D.1 37)), some (.int (nI s)), some (.int (nI k))], [.int (nI 1)])
    refine Z_br C it_Mm_weakest rfl rfl (fun hc3 => absurd hc3 (by decide)) (fun hc3 => ?_)
    refine Z_run C it_Mm_weakest 2 (f2 := (49, [some (.ref (D.1 37)), some (.int (nI s)), some (.int (nI k))], [.int (nI k)])) rfl ?_
    exact Z_iret C q.e it_Mm_weakest rfl (⟨rfl, rfl, _, rfl, vset_al hV2⟩) (by decide) (by decide)
set_option maxRecDepth 20000 in
theorem ct_Mm_weakest_x2 {E : zE} (hE : zEv E) {l : Launch} (hl : l.stackTraces = false) {D : zD} (hD : zDok E D) (V : Nat → Nat → Int32) (P : Nat → Nat → Value) (PH : aH) (F : Nat → Nat) (hF : okF F) (hz : ∀ k, k < 36 → V 38 k = nI (mo (F k))) (s : Nat) (hs : s < 2) (hT : ∀ k, k < 36 → F k ≠ 0 → exT 16 F k) (hw : (wkq F s 36).2 = none) (sz : Nat) : zM E l y_Mm_weakest [.code y_Mm_weakest c_Mm_weakest 3 (some .int)] rm_Mm_weakest [.ref (D.1 37), .int (nI s)] (HM D V P PH) sz (zEo D (vset V 37 8 (nI 2)) P PH sz (nI 0)) := by
  refine zM_of hE hl (by decide +kernel) [some (.ref (D.1 37)), some (.int (nI s)), none] ⟨rfl, rfl, Nat.le_of_ble_eq_true rfl⟩ ?_
  intro G C q htb
  refine Z_run C it_Mm_weakest 2 (f2 := (2, [some (.ref (D.1 37)), some (.int (nI s)), none], [.int (nI s), .ref (D.1 37)])) rfl ?_
  refine Zr_callS C it_Mm_weakest rfl p_Mm_isSide ml_Mm_91 [.int (nI s)] (ct_Mm_isSide_t C.ev C.l s (by omega) (HM D V P PH) _) rfl rfl ⟨by decide, by decide, by decide, by decide⟩ (Nat.le_of_ble_eq_true rfl) rfl ?_
  show Z E G (HM D V P PH) sz 0 0 (5, [some (.ref (D.1 37)), some (.int (nI s)), none], [.int (nI 1), .ref (D.1 37)])
  refine Zr_callV C it_Mm_weakest hD rfl p_Mm_asks ml_Mm_40 37 (by decide) rfl rfl [.int (nI 1)] (ct_Mm_asks_t C.ev C.l hD V P _ _) rfl rfl ⟨by decide, by decide, by decide, by decide⟩ (Nat.le_of_ble_eq_true rfl) rfl ?_
  show Z E G (HM D (vset V 37 8 (nI 0)) P PH) sz 0 0 (8, [some (.ref (D.1 37)), some (.int (nI s)), none], [.int (nI 1)])
  refine Z_run C it_Mm_weakest 2 (f2 := (10, [some (.ref (D.1 37)), some (.int (nI s)), none], [.ref (D.1 37)])) rfl ?_
  refine Zm_get C it_Mm_weakest hD rfl 37 wi_Mm (by decide) rfl rfl (j := 8) (by decide) fl_Mm_29 (v := .int (nI 0)) rfl ?_
  refine Z_br C it_Mm_weakest rfl rfl (fun hc1 => ?_) (fun hc1 => absurd (by decide) hc1)
  refine Z_run C it_Mm_weakest 2 (f2 := (22, [some (.ref (D.1 37)), some (.int (nI s)), none], [.int (nI s), .ref (D.1 37)])) rfl ?_
  refine Zr_eoV C it_Mm_weakest hD rfl p_Mm_weak ml_Mm_152 37 (by decide) rfl rfl [.int (nI s)] (ct_Mm_weak C.ev C.l hD (vset V 37 8 (nI 0)) P _ F hF hz s hs hT _) rfl rfl ⟨by decide, by decide, by decide, by decide⟩ (Nat.le_of_ble_eq_true rfl) rfl (fun V2 hV2 => ?_)
  show Z E G (HM D V2 P PH) sz 0 0 (25, [some (.ref (D.1 37)), some (.int (nI s)), none], [.int (oI (wkq F s 36).2)])
  have h8 : V2 37 8 = nI 0 := by rw [hV2 37 (by decide) (by decide)]; rfl
  have e1 : oI (wkq F s 36).2 = (-1) := by rw [hw]; rfl
  rw [e1]
  refine Z_run C it_Mm_weakest 4 (f2 := (29, [some (.ref (D.1 37)), some (.int (nI s)), some (.int ((-1)))], [.int ((-1)), .int ((-1)), .ref (D.1 37)])) rfl ?_
  refine Z_br C it_Mm_weakest rfl rfl (fun hc2 => ?_) (fun hc2 => absurd (by decide) hc2)
  refine Z_run C it_Mm_weakest 2 (f2 := (38, [some (.ref (D.1 37)), some (.int (nI s)), some (.int ((-1)))], [.int (nI 2), .int (nI 0), .ref (D.1 37)])) rfl ?_
  refine Zr_callV C it_Mm_weakest hD rfl p_Mm_asksThen ml_Mm_97 37 (by decide) rfl rfl [.int (nI 0), .int (nI 2)] (ct_Mm_asksThen_f C.ev C.l hD V2 P _ 2 (by decide) (by decide) h8 _) rfl rfl ⟨by decide, by decide, by decide, by decide⟩ (Nat.le_of_ble_eq_true rfl) rfl ?_
  show Z E G (HM D (vset V2 37 8 (nI 2)) P PH) sz 0 0 (41, [some (.ref (D.1 37)), some (.int (nI s)), some (.int ((-1)))], [.int (nI 0)])
  refine Z_br C it_Mm_weakest rfl rfl (fun hc3 => ?_) (fun hc3 => absurd (by decide) hc3)
  refine Z_run C it_Mm_weakest 1 (f2 := (49, [some (.ref (D.1 37)), some (.int (nI s)), some (.int ((-1)))], [.int (nI 0)])) rfl ?_
  exact Z_iret C q.e it_Mm_weakest rfl (⟨rfl, rfl, _, rfl, vset_al hV2⟩) (by decide) (by decide)
set_option maxRecDepth 20000 in
theorem ct_Mm_weakest_x1 {E : zE} (hE : zEv E) {l : Launch} (hl : l.stackTraces = false) {D : zD} (hD : zDok E D) (V : Nat → Nat → Int32) (P : Nat → Nat → Value) (PH : aH) (a : Nat) (h32 : a < 4294967296) (ha : 2 ≤ a) (sz : Nat) : zM E l y_Mm_weakest [.code y_Mm_weakest c_Mm_weakest 3 (some .int)] rm_Mm_weakest [.ref (D.1 37), .int (nI a)] (HM D V P PH) sz (zRet (some (.int (nI 0))) (HM D (vset V 37 8 (nI 1)) P PH) sz) := by
  refine zM_of hE hl (by decide +kernel) [some (.ref (D.1 37)), some (.int (nI a)), none] ⟨rfl, rfl, Nat.le_of_ble_eq_true rfl⟩ ?_
  intro G C q htb
  refine Z_run C it_Mm_weakest 2 (f2 := (2, [some (.ref (D.1 37)), some (.int (nI a)), none], [.int (nI a), .ref (D.1 37)])) rfl ?_
  refine Zr_callS C it_Mm_weakest rfl p_Mm_isSide ml_Mm_91 [.int (nI a)] (ct_Mm_isSide_f C.ev C.l a (by omega) (by omega) (HM D V P PH) _) rfl rfl ⟨by decide, by decide, by decide, by decide⟩ (Nat.le_of_ble_eq_true rfl) rfl ?_
  show Z E G (HM D V P PH) sz 0 0 (5, [some (.ref (D.1 37)), some (.int (nI a)), none], [.int (nI 0), .ref (D.1 37)])
  refine Zr_callV C it_Mm_weakest hD rfl p_Mm_asks ml_Mm_40 37 (by decide) rfl rfl [.int (nI 0)] (ct_Mm_asks_f C.ev C.l hD V P _ _) rfl rfl ⟨by decide, by decide, by decide, by decide⟩ (Nat.le_of_ble_eq_true rfl) rfl ?_
  show Z E G (HM D (vset V 37 8 (nI 1)) P PH) sz 0 0 (8, [some (.ref (D.1 37)), some (.int (nI a)), none], [.int (nI 0)])
  refine Z_run C it_Mm_weakest 2 (f2 := (10, [some (.ref (D.1 37)), some (.int (nI a)), none], [.ref (D.1 37)])) rfl ?_
  refine Zm_get C it_Mm_weakest hD rfl 37 wi_Mm (by decide) rfl rfl (j := 8) (by decide) fl_Mm_29 (v := .int (nI 1)) rfl ?_
  refine Z_br C it_Mm_weakest rfl rfl (fun hc1 => absurd hc1 (by decide)) (fun hc1 => ?_)
  refine Z_run C it_Mm_weakest 6 (f2 := (29, [some (.ref (D.1 37)), some (.int (nI a)), some (.int (nI 0))], [.int ((-1)), .int (nI 0), .ref (D.1 37)])) rfl ?_
  refine Z_br C it_Mm_weakest rfl rfl (fun hc2 => absurd hc2 (by decide)) (fun hc2 => ?_)
  refine Z_run C it_Mm_weakest 3 (f2 := (38, [some (.ref (D.1 37)), some (.int (nI a)), some (.int (nI 0))], [.int (nI 2), .int (nI 1), .ref (D.1 37)])) rfl ?_
  refine Zr_callV C it_Mm_weakest hD rfl p_Mm_asksThen ml_Mm_97 37 (by decide) rfl rfl [.int (nI 1), .int (nI 2)] (ct_Mm_asksThen_k C.ev C.l hD (vset V 37 8 (nI 1)) P _ 1 (by decide) (by decide) (nI 1) 2 rfl _) rfl rfl ⟨by decide, by decide, by decide, by decide⟩ (Nat.le_of_ble_eq_true rfl) rfl ?_
  show Z E G (HM D (vset (vset V 37 8 (nI 1)) 37 8 (nI 1)) P PH) sz 0 0 (41, [some (.ref (D.1 37)), some (.int (nI a)), some (.int (nI 0))], [.int (nI 0)])
  refine Z_br C it_Mm_weakest rfl rfl (fun hc3 => ?_) (fun hc3 => absurd (by decide) hc3)
  refine Z_run C it_Mm_weakest 1 (f2 := (49, [some (.ref (D.1 37)), some (.int (nI a)), some (.int (nI 0))], [.int (nI 0)])) rfl ?_
  exact Z_iret C q.e it_Mm_weakest rfl (zRet_iH rfl (by first | rfl | (simp only [vset_2]))) (by decide) (by decide)
