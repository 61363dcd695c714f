/-! ===== the law's body: a move that is made ===== -/
theorem HR_37 {E : zE} {D : zD} (hD : zDok E D) {V : Nat → Nat → Int32} {P : Nat → Nat → Value} {PH : aH} {pr : Nat → Int32} (h : V 37 = pr) : HM D V P PH (D.1 37) = some (10, 36, fun k => .int (pr k)) := by
  rw [HM_at hD (show zin 37 by decide), ← h]
  rfl
theorem HR_38 {E : zE} {D : zD} (hD : zDok E D) {V : Nat → Nat → Int32} {P : Nat → Nat → Value} {PH : aH} {qr : Nat → Int32} (h : V 38 = qr) : HM D V P PH (D.1 38) = some (10, 36, fun k => .int (qr k)) := by
  rw [HM_at hD (show zin 38 by decide), ← h]
  rfl
theorem updV_s9 {f : Nat → Value} {k : Nat} {x : Value} : updV f k x k = x := by unfold updV; rw [if_pos rfl]
theorem updV_n9 {f : Nat → Value} {k j : Nat} {x : Value} (h : j ≠ k) : updV f k x j = f j := by unfold updV; rw [if_neg h]
set_option maxRecDepth 20000 in
theorem gb_660 {E : zE} {G : zG} {nm : String} (C : zCx E G code 19 R_Lw nm (some .boolean) room_1) {D : zD} (hD : zDok E D) (hL : D.2.2.1 ≤ 260) {V : Nat → Nat → Int32} {P : Nat → Nat → Value} {PH : aH} {sz : Nat} {F : Nat → Nat} {L : List zPos} {tn1 md1 : Nat} {ov : Bool} {ch : Option Nat} {Bd : Nat → Nat → Nat} {nb : Nat} {v1 v2 v3 v4 : Int32} (hnb : nb < 63) (hX : LX D V P PH sz F L tn1 md1 ov ch Bd (nb + 1) v1 v2 v3 v4) (hF : okF F) (hB : ∀ i, okF (Bd i)) (hBn : Bd nb = F) {k n : Nat} (hk : k ≤ 600000) (hn : n ≤ 7300000) {l6 : Int32} {e : Nat} : ∀ (y j w : Nat), j < y → j ≤ nb → Z E G (HM D V P PH) sz k n (737, [some (.ref (D.1 52)), some (.ref (D.1 0)), some (.ref (D.1 37)), some (.ref (D.1 38)), some (.ref (D.1 39)), some (.ref (D.1 40)), some (.ref (D.1 41)), some (.ref (D.1 42)), some (.ref (D.1 43)), some (.int (nI nb)), some (.int (nI e)), none, none, none, none, none, some (.int l6), some (.int (nI (w + tdn (fun i => e4 (Bd i) F) j))), none], []) → Z E G (HM D V P PH) sz k n (660, [some (.ref (D.1 52)), some (.ref (D.1 0)), some (.ref (D.1 37)), some (.ref (D.1 38)), some (.ref (D.1 39)), some (.ref (D.1 40)), some (.ref (D.1 41)), some (.ref (D.1 42)), some (.ref (D.1 43)), some (.int (nI nb)), some (.int (nI e)), none, none, none, none, none, some (.int l6), some (.int (nI w)), some (.int (nI j))], []) := by
  intro y
  induction y with
  | zero =>
    intro j w h1
    omega
  | succ y ih =>
    intro j w h1 h2 kk
    refine Z_run C it_Lg 1 (f2 := (662, [some (.ref (D.1 52)), some (.ref (D.1 0)), some (.ref (D.1 37)), some (.ref (D.1 38)), some (.ref (D.1 39)), some (.ref (D.1 40)), some (.ref (D.1 41)), some (.ref (D.1 42)), some (.ref (D.1 43)), some (.int (nI nb)), some (.int (nI e)), none, none, none, none, none, some (.int l6), some (.int (nI w)), some (.int (nI j))], [.int (nI j)])) rfl ?_
    refine Z_br C it_Lg rfl rfl (fun hc1 => ?_) (fun hc1 => ?_)
    · exact absurd hc1 (nI_nn (by omega))
    · skip
      refine Z_run C it_Lg 3 (f2 := (671, [some (.ref (D.1 52)), some (.ref (D.1 0)), some (.ref (D.1 37)), some (.ref (D.1 38)), some (.ref (D.1 39)), some (.ref (D.1 40)), some (.ref (D.1 41)), some (.ref (D.1 42)), some (.ref (D.1 43)), some (.int (nI nb)), some (.int (nI e)), none, none, none, none, none, some (.int l6), some (.int (nI w)), some (.int (nI j))], [.int (nI j), .ref (D.1 40), .int (nI w)])) rfl ?_
      refine Zm_ald C it_Lg hD 40 11 rfl (by decide) rfl (by decide) (by decide) rfl (j := j) (by omega) (v := .long (lN (pq4 (Bd j) 0))) (hX.2.2.2.2 j (by omega) 0 (by decide)) ?_
      refine Z_run C it_Lg 2 (f2 := (676, [some (.ref (D.1 52)), some (.ref (D.1 0)), some (.ref (D.1 37)), some (.ref (D.1 38)), some (.ref (D.1 39)), some (.ref (D.1 40)), some (.ref (D.1 41)), some (.ref (D.1 42)), some (.ref (D.1 43)), some (.int (nI nb)), some (.int (nI e)), none, none, none, none, none, some (.int l6), some (.int (nI w)), some (.int (nI j))], [.int (nI nb), .ref (D.1 40), .long (lN (pq4 (Bd j) 0)), .int (nI w)])) rfl ?_
      refine Zm_ald C it_Lg hD 40 11 rfl (by decide) rfl (by decide) (by decide) rfl (j := nb) (by omega) (v := .long (lN (pq4 F 0))) (by rw [← hBn]; exact hX.2.2.2.2 nb (by omega) 0 (by decide)) ?_
      refine Z_run C it_Lg 1 (f2 := (678, [some (.ref (D.1 52)), some (.ref (D.1 0)), some (.ref (D.1 37)), some (.ref (D.1 38)), some (.ref (D.1 39)), some (.ref (D.1 40)), some (.ref (D.1 41)), some (.ref (D.1 42)), some (.ref (D.1 43)), some (.int (nI nb)), some (.int (nI e)), none, none, none, none, none, some (.int l6), some (.int (nI w)), some (.int (nI j))], [.int (lg_cmp (lN (pq4 (Bd j) 0)) (lN (pq4 F 0))), .int (nI w)])) rfl ?_
      refine Z_br C it_Lg rfl rfl (fun hc2 => ?_) (fun hc2 => ?_)
      · have hq0 : (pq4 (Bd j) 0 == pq4 F 0) = false := by rw [← Bool.not_eq_true, beq_iff_eq]; exact fun z => hc2 ((lgc_0 (qtr_63 (hB j) (by decide) (by decide)) (qtr_63 hF (by decide) (by decide))).mpr z)
        refine Z_run C it_Lg 2 (f2 := (729, [some (.ref (D.1 52)), some (.ref (D.1 0)), some (.ref (D.1 37)), some (.ref (D.1 38)), some (.ref (D.1 39)), some (.ref (D.1 40)), some (.ref (D.1 41)), some (.ref (D.1 42)), some (.ref (D.1 43)), some (.int (nI nb)), some (.int (nI e)), none, none, none, none, none, some (.int l6), some (.int (nI w)), some (.int (nI j))], [.int (nI w + nI 0)])) rfl ?_
        rw [nI_add w 0]
        refine Z_run C it_Lg 3 (f2 := (660, [some (.ref (D.1 52)), some (.ref (D.1 0)), some (.ref (D.1 37)), some (.ref (D.1 38)), some (.ref (D.1 39)), some (.ref (D.1 40)), some (.ref (D.1 41)), some (.ref (D.1 42)), some (.ref (D.1 43)), some (.int (nI nb)), some (.int (nI e)), none, none, none, none, none, some (.int l6), some (.int (nI (w + 0))), some (.int (nI j + (-2)))], [])) rfl ?_
        have eb : e4 (Bd j) F = false := by unfold e4; first | (rw [hq0]; rfl) | (rw [hq0, hq1]; rfl) | (rw [hq0, hq1, hq2]; rfl) | (rw [hq0, hq1, hq2, hq3]; rfl)
        have ev : nI (w + 0) = nI (w + (if e4 (Bd j) F then 1 else 0)) := by rw [eb]; rfl
        rw [ev]
        by_cases hj2 : 2 ≤ j
        · have ek : nI j + (-2) = nI (j - 2) := by rw [← nI_sub hj2, Int32.sub_eq_add_neg]; rfl
          rw [ek]
          have et : tdn (fun i => e4 (Bd i) F) j = (if e4 (Bd j) F then 1 else 0) + tdn (fun i => e4 (Bd i) F) (j - 2) := by
            obtain ⟨m, rfl⟩ : ∃ m, j = m + 2 := ⟨j - 2, by omega⟩
            rfl
          rw [et, ← Nat.add_assoc] at kk
          exact ih (j - 2) _ (by omega) (by omega) kk
        · have et : tdn (fun i => e4 (Bd i) F) j = (if e4 (Bd j) F then 1 else 0) := by
            rcases (show j = 0 ∨ j = 1 by omega) with rfl | rfl <;> rfl
          rw [et] at kk
          have en : nI j + (-2) < 0 := by rcases (show j = 0 ∨ j = 1 by omega) with rfl | rfl <;> decide
          refine Z_run C it_Lg 1 (f2 := (662, [some (.ref (D.1 52)), some (.ref (D.1 0)), some (.ref (D.1 37)), some (.ref (D.1 38)), some (.ref (D.1 39)), some (.ref (D.1 40)), some (.ref (D.1 41)), some (.ref (D.1 42)), some (.ref (D.1 43)), some (.int (nI nb)), some (.int (nI e)), none, none, none, none, none, some (.int l6), some (.int (nI (w + (if e4 (Bd j) F then 1 else 0)))), some (.int (nI j + (-2)))], [.int (nI j + (-2))])) rfl ?_
          refine Z_br C it_Lg rfl rfl (fun hc3 => ?_) (fun hc3 => ?_)
          · skip
            refine Z_sub (ls2 := [some (.ref (D.1 52)), some (.ref (D.1 0)), some (.ref (D.1 37)), some (.ref (D.1 38)), some (.ref (D.1 39)), some (.ref (D.1 40)), some (.ref (D.1 41)), some (.ref (D.1 42)), some (.ref (D.1 43)), some (.int (nI nb)), some (.int (nI e)), none, none, none, none, none, some (.int l6), some (.int (nI (w + (if e4 (Bd j) F then 1 else 0)))), none]) ⟨rfl, rfl, rfl, rfl, rfl, rfl, rfl, rfl, rfl, rfl, rfl, rfl, rfl, trivial⟩ ?_
            exact kk
          · exact absurd en hc3
      · have hq0 : (pq4 (Bd j) 0 == pq4 F 0) = true := by rw [beq_iff_eq]; exact (lgc_0 (qtr_63 (hB j) (by decide) (by decide)) (qtr_63 hF (by decide) (by decide))).mp (Classical.not_not.mp hc2)
        refine Z_run C it_Lg 2 (f2 := (685, [some (.ref (D.1 52)), some (.ref (D.1 0)), some (.ref (D.1 37)), some (.ref (D.1 38)), some (.ref (D.1 39)), some (.ref (D.1 40)), some (.ref (D.1 41)), some (.ref (D.1 42)), some (.ref (D.1 43)), some (.int (nI nb)), some (.int (nI e)), none, none, none, none, none, some (.int l6), some (.int (nI w)), some (.int (nI j))], [.int (nI j), .ref (D.1 41), .int (nI w)])) rfl ?_
        refine Zm_ald C it_Lg hD 41 11 rfl (by decide) rfl (by decide) (by decide) rfl (j := j) (by omega) (v := .long (lN (pq4 (Bd j) 1))) (hX.2.2.2.2 j (by omega) 1 (by decide)) ?_
        refine Z_run C it_Lg 2 (f2 := (690, [some (.ref (D.1 52)), some (.ref (D.1 0)), some (.ref (D.1 37)), some (.ref (D.1 38)), some (.ref (D.1 39)), some (.ref (D.1 40)), some (.ref (D.1 41)), some (.ref (D.1 42)), some (.ref (D.1 43)), some (.int (nI nb)), some (.int (nI e)), none, none, none, none, none, some (.int l6), some (.int (nI w)), some (.int (nI j))], [.int (nI nb), .ref (D.1 41), .long (lN (pq4 (Bd j) 1)), .int (nI w)])) rfl ?_
        refine Zm_ald C it_Lg hD 41 11 rfl (by decide) rfl (by decide) (by decide) rfl (j := nb) (by omega) (v := .long (lN (pq4 F 1))) (by rw [← hBn]; exact hX.2.2.2.2 nb (by omega) 1 (by decide)) ?_
        refine Z_run C it_Lg 1 (f2 := (692, [some (.ref (D.1 52)), some (.ref (D.1 0)), some (.ref (D.1 37)), some (.ref (D.1 38)), some (.ref (D.1 39)), some (.ref (D.1 40)), some (.ref (D.1 41)), some (.ref (D.1 42)), some (.ref (D.1 43)), some (.int (nI nb)), some (.int (nI e)), none, none, none, none, none, some (.int l6), some (.int (nI w)), some (.int (nI j))], [.int (lg_cmp (lN (pq4 (Bd j) 1)) (lN (pq4 F 1))), .int (nI w)])) rfl ?_
        refine Z_br C it_Lg rfl rfl (fun hc4 => ?_) (fun hc4 => ?_)
        · have hq1 : (pq4 (Bd j) 1 == pq4 F 1) = false := by rw [← Bool.not_eq_true, beq_iff_eq]; exact fun z => hc4 ((lgc_0 (qtr_63 (hB j) (by decide) (by decide)) (qtr_63 hF (by decide) (by decide))).mpr z)
          refine Z_run C it_Lg 2 (f2 := (729, [some (.ref (D.1 52)), some (.ref (D.1 0)), some (.ref (D.1 37)), some (.ref (D.1 38)), some (.ref (D.1 39)), some (.ref (D.1 40)), some (.ref (D.1 41)), some (.ref (D.1 42)), some (.ref (D.1 43)), some (.int (nI nb)), some (.int (nI e)), none, none, none, none, none, some (.int l6), some (.int (nI w)), some (.int (nI j))], [.int (nI w + nI 0)])) rfl ?_
          rw [nI_add w 0]
          refine Z_run C it_Lg 3 (f2 := (660, [some (.ref (D.1 52)), some (.ref (D.1 0)), some (.ref (D.1 37)), some (.ref (D.1 38)), some (.ref (D.1 39)), some (.ref (D.1 40)), some (.ref (D.1 41)), some (.ref (D.1 42)), some (.ref (D.1 43)), some (.int (nI nb)), some (.int (nI e)), none, none, none, none, none, some (.int l6), some (.int (nI (w + 0))), some (.int (nI j + (-2)))], [])) rfl ?_
          have eb : e4 (Bd j) F = false := by unfold e4; first | (rw [hq0]; rfl) | (rw [hq0, hq1]; rfl) | (rw [hq0, hq1, hq2]; rfl) | (rw [hq0, hq1, hq2, hq3]; rfl)
          have ev : nI (w + 0) = nI (w + (if e4 (Bd j) F then 1 else 0)) := by rw [eb]; rfl
          rw [ev]
          by_cases hj2 : 2 ≤ j
          · have ek : nI j + (-2) = nI (j - 2) := by rw [← nI_sub hj2, Int32.sub_eq_add_neg]; rfl
            rw [ek]
            have et : tdn (fun i => e4 (Bd i) F) j = (if e4 (Bd j) F then 1 else 0) + tdn (fun i => e4 (Bd i) F) (j - 2) := by
              obtain ⟨m, rfl⟩ : ∃ m, j = m + 2 := ⟨j - 2, by omega⟩
              rfl
            rw [et, ← Nat.add_assoc] at kk
            exact ih (j - 2) _ (by omega) (by omega) kk
          · have et : tdn (fun i => e4 (Bd i) F) j = (if e4 (Bd j) F then 1 else 0) := by
              rcases (show j = 0 ∨ j = 1 by omega) with rfl | rfl <;> rfl
            rw [et] at kk
            have en : nI j + (-2) < 0 := by rcases (show j = 0 ∨ j = 1 by omega) with rfl | rfl <;> decide
            refine Z_run C it_Lg 1 (f2 := (662, [some (.ref (D.1 52)), some (.ref (D.1 0)), some (.ref (D.1 37)), some (.ref (D.1 38)), some (.ref (D.1 39)), some (.ref (D.1 40)), some (.ref (D.1 41)), some (.ref (D.1 42)), some (.ref (D.1 43)), some (.int (nI nb)), some (.int (nI e)), none, none, none, none, none, some (.int l6), some (.int (nI (w + (if e4 (Bd j) F then 1 else 0)))), some (.int (nI j + (-2)))], [.int (nI j + (-2))])) rfl ?_
            refine Z_br C it_Lg rfl rfl (fun hc5 => ?_) (fun hc5 => ?_)
            · skip
              refine Z_sub (ls2 := [some (.ref (D.1 52)), some (.ref (D.1 0)), some (.ref (D.1 37)), some (.ref (D.1 38)), some (.ref (D.1 39)), some (.ref (D.1 40)), some (.ref (D.1 41)), some (.ref (D.1 42)), some (.ref (D.1 43)), some (.int (nI nb)), some (.int (nI e)), none, none, none, none, none, some (.int l6), some (.int (nI (w + (if e4 (Bd j) F then 1 else 0)))), none]) ⟨rfl, rfl, rfl, rfl, rfl, rfl, rfl, rfl, rfl, rfl, rfl, rfl, rfl, trivial⟩ ?_
              exact kk
            · exact absurd en hc5
        · have hq1 : (pq4 (Bd j) 1 == pq4 F 1) = true := by rw [beq_iff_eq]; exact (lgc_0 (qtr_63 (hB j) (by decide) (by decide)) (qtr_63 hF (by decide) (by decide))).mp (Classical.not_not.mp hc4)
          refine Z_run C it_Lg 2 (f2 := (699, [some (.ref (D.1 52)), some (.ref (D.1 0)), some (.ref (D.1 37)), some (.ref (D.1 38)), some (.ref (D.1 39)), some (.ref (D.1 40)), some (.ref (D.1 41)), some (.ref (D.1 42)), some (.ref (D.1 43)), some (.int (nI nb)), some (.int (nI e)), none, none, none, none, none, some (.int l6), some (.int (nI w)), some (.int (nI j))], [.int (nI j), .ref (D.1 42), .int (nI w)])) rfl ?_
          refine Zm_ald C it_Lg hD 42 11 rfl (by decide) rfl (by decide) (by decide) rfl (j := j) (by omega) (v := .long (lN (pq4 (Bd j) 2))) (hX.2.2.2.2 j (by omega) 2 (by decide)) ?_
          refine Z_run C it_Lg 2 (f2 := (704, [some (.ref (D.1 52)), some (.ref (D.1 0)), some (.ref (D.1 37)), some (.ref (D.1 38)), some (.ref (D.1 39)), some (.ref (D.1 40)), some (.ref (D.1 41)), some (.ref (D.1 42)), some (.ref (D.1 43)), some (.int (nI nb)), some (.int (nI e)), none, none, none, none, none, some (.int l6), some (.int (nI w)), some (.int (nI j))], [.int (nI nb), .ref (D.1 42), .long (lN (pq4 (Bd j) 2)), .int (nI w)])) rfl ?_
          refine Zm_ald C it_Lg hD 42 11 rfl (by decide) rfl (by decide) (by decide) rfl (j := nb) (by omega) (v := .long (lN (pq4 F 2))) (by rw [← hBn]; exact hX.2.2.2.2 nb (by omega) 2 (by decide)) ?_
          refine Z_run C it_Lg 1 (f2 := (706, [some (.ref (D.1 52)), some (.ref (D.1 0)), some (.ref (D.1 37)), some (.ref (D.1 38)), some (.ref (D.1 39)), some (.ref (D.1 40)), some (.ref (D.1 41)), some (.ref (D.1 42)), some (.ref (D.1 43)), some (.int (nI nb)), some (.int (nI e)), none, none, none, none, none, some (.int l6), some (.int (nI w)), some (.int (nI j))], [.int (lg_cmp (lN (pq4 (Bd j) 2)) (lN (pq4 F 2))), .int (nI w)])) rfl ?_
          refine Z_br C it_Lg rfl rfl (fun hc6 => ?_) (fun hc6 => ?_)
          · have hq2 : (pq4 (Bd j) 2 == pq4 F 2) = false := by rw [← Bool.not_eq_true, beq_iff_eq]; exact fun z => hc6 ((lgc_0 (qtr_63 (hB j) (by decide) (by decide)) (qtr_63 hF (by decide) (by decide))).mpr z)
            refine Z_run C it_Lg 2 (f2 := (729, [some (.ref (D.1 52)), some (.ref (D.1 0)), some (.ref (D.1 37)), some (.ref (D.1 38)), some (.ref (D.1 39)), some (.ref (D.1 40)), some (.ref (D.1 41)), some (.ref (D.1 42)), some (.ref (D.1 43)), some (.int (nI nb)), some (.int (nI e)), none, none, none, none, none, some (.int l6), some (.int (nI w)), some (.int (nI j))], [.int (nI w + nI 0)])) rfl ?_
            rw [nI_add w 0]
            refine Z_run C it_Lg 3 (f2 := (660, [some (.ref (D.1 52)), some (.ref (D.1 0)), some (.ref (D.1 37)), some (.ref (D.1 38)), some (.ref (D.1 39)), some (.ref (D.1 40)), some (.ref (D.1 41)), some (.ref (D.1 42)), some (.ref (D.1 43)), some (.int (nI nb)), some (.int (nI e)), none, none, none, none, none, some (.int l6), some (.int (nI (w + 0))), some (.int (nI j + (-2)))], [])) rfl ?_
            have eb : e4 (Bd j) F = false := by unfold e4; first | (rw [hq0]; rfl) | (rw [hq0, hq1]; rfl) | (rw [hq0, hq1, hq2]; rfl) | (rw [hq0, hq1, hq2, hq3]; rfl)
            have ev : nI (w + 0) = nI (w + (if e4 (Bd j) F then 1 else 0)) := by rw [eb]; rfl
            rw [ev]
            by_cases hj2 : 2 ≤ j
            · have ek : nI j + (-2) = nI (j - 2) := by rw [← nI_sub hj2, Int32.sub_eq_add_neg]; rfl
              rw [ek]
              have et : tdn (fun i => e4 (Bd i) F) j = (if e4 (Bd j) F then 1 else 0) + tdn (fun i => e4 (Bd i) F) (j - 2) := by
                obtain ⟨m, rfl⟩ : ∃ m, j = m + 2 := ⟨j - 2, by omega⟩
                rfl
              rw [et, ← Nat.add_assoc] at kk
              exact ih (j - 2) _ (by omega) (by omega) kk
            · have et : tdn (fun i => e4 (Bd i) F) j = (if e4 (Bd j) F then 1 else 0) := by
                rcases (show j = 0 ∨ j = 1 by omega) with rfl | rfl <;> rfl
              rw [et] at kk
              have en : nI j + (-2) < 0 := by rcases (show j = 0 ∨ j = 1 by omega) with rfl | rfl <;> decide
              refine Z_run C it_Lg 1 (f2 := (662, [some (.ref (D.1 52)), some (.ref (D.1 0)), some (.ref (D.1 37)), some (.ref (D.1 38)), some (.ref (D.1 39)), some (.ref (D.1 40)), some (.ref (D.1 41)), some (.ref (D.1 42)), some (.ref (D.1 43)), some (.int (nI nb)), some (.int (nI e)), none, none, none, none, none, some (.int l6), some (.int (nI (w + (if e4 (Bd j) F then 1 else 0)))), some (.int (nI j + (-2)))], [.int (nI j + (-2))])) rfl ?_
              refine Z_br C it_Lg rfl rfl (fun hc7 => ?_) (fun hc7 => ?_)
              · skip
                refine Z_sub (ls2 := [some (.ref (D.1 52)), some (.ref (D.1 0)), some (.ref (D.1 37)), some (.ref (D.1 38)), some (.ref (D.1 39)), some (.ref (D.1 40)), some (.ref (D.1 41)), some (.ref (D.1 42)), some (.ref (D.1 43)), some (.int (nI nb)), some (.int (nI e)), none, none, none, none, none, some (.int l6), some (.int (nI (w + (if e4 (Bd j) F then 1 else 0)))), none]) ⟨rfl, rfl, rfl, rfl, rfl, rfl, rfl, rfl, rfl, rfl, rfl, rfl, rfl, trivial⟩ ?_
                exact kk
              · exact absurd en hc7
          · have hq2 : (pq4 (Bd j) 2 == pq4 F 2) = true := by rw [beq_iff_eq]; exact (lgc_0 (qtr_63 (hB j) (by decide) (by decide)) (qtr_63 hF (by decide) (by decide))).mp (Classical.not_not.mp hc6)
            refine Z_run C it_Lg 2 (f2 := (713, [some (.ref (D.1 52)), some (.ref (D.1 0)), some (.ref (D.1 37)), some (.ref (D.1 38)), some (.ref (D.1 39)), some (.ref (D.1 40)), some (.ref (D.1 41)), some (.ref (D.1 42)), some (.ref (D.1 43)), some (.int (nI nb)), some (.int (nI e)), none, none, none, none, none, some (.int l6), some (.int (nI w)), some (.int (nI j))], [.int (nI j), .ref (D.1 43), .int (nI w)])) rfl ?_
            refine Zm_ald C it_Lg hD 43 11 rfl (by decide) rfl (by decide) (by decide) rfl (j := j) (by omega) (v := .long (lN (pq4 (Bd j) 3))) (hX.2.2.2.2 j (by omega) 3 (by decide)) ?_
            refine Z_run C it_Lg 2 (f2 := (718, [some (.ref (D.1 52)), some (.ref (D.1 0)), some (.ref (D.1 37)), some (.ref (D.1 38)), some (.ref (D.1 39)), some (.ref (D.1 40)), some (.ref (D.1 41)), some (.ref (D.1 42)), some (.ref (D.1 43)), some (.int (nI nb)), some (.int (nI e)), none, none, none, none, none, some (.int l6), some (.int (nI w)), some (.int (nI j))], [.int (nI nb), .ref (D.1 43), .long (lN (pq4 (Bd j) 3)), .int (nI w)])) rfl ?_
            refine Zm_ald C it_Lg hD 43 11 rfl (by decide) rfl (by decide) (by decide) rfl (j := nb) (by omega) (v := .long (lN (pq4 F 3))) (by rw [← hBn]; exact hX.2.2.2.2 nb (by omega) 3 (by decide)) ?_
            refine Z_run C it_Lg 1 (f2 := (720, [some (.ref (D.1 52)), some (.ref (D.1 0)), some (.ref (D.1 37)), some (.ref (D.1 38)), some (.ref (D.1 39)), some (.ref (D.1 40)), some (.ref (D.1 41)), some (.ref (D.1 42)), some (.ref (D.1 43)), some (.int (nI nb)), some (.int (nI e)), none, none, none, none, none, some (.int l6), some (.int (nI w)), some (.int (nI j))], [.int (lg_cmp (lN (pq4 (Bd j) 3)) (lN (pq4 F 3))), .int (nI w)])) rfl ?_
            refine Z_br C it_Lg rfl rfl (fun hc8 => ?_) (fun hc8 => ?_)
            · have hq3 : (pq4 (Bd j) 3 == pq4 F 3) = false := by rw [← Bool.not_eq_true, beq_iff_eq]; exact fun z => hc8 ((lgc_0 (qtr_63 (hB j) (by decide) (by decide)) (qtr_63 hF (by decide) (by decide))).mpr z)
              refine Z_run C it_Lg 2 (f2 := (729, [some (.ref (D.1 52)), some (.ref (D.1 0)), some (.ref (D.1 37)), some (.ref (D.1 38)), some (.ref (D.1 39)), some (.ref (D.1 40)), some (.ref (D.1 41)), some (.ref (D.1 42)), some (.ref (D.1 43)), some (.int (nI nb)), some (.int (nI e)), none, none, none, none, none, some (.int l6), some (.int (nI w)), some (.int (nI j))], [.int (nI w + nI 0)])) rfl ?_
              rw [nI_add w 0]
              refine Z_run C it_Lg 3 (f2 := (660, [some (.ref (D.1 52)), some (.ref (D.1 0)), some (.ref (D.1 37)), some (.ref (D.1 38)), some (.ref (D.1 39)), some (.ref (D.1 40)), some (.ref (D.1 41)), some (.ref (D.1 42)), some (.ref (D.1 43)), some (.int (nI nb)), some (.int (nI e)), none, none, none, none, none, some (.int l6), some (.int (nI (w + 0))), some (.int (nI j + (-2)))], [])) rfl ?_
              have eb : e4 (Bd j) F = false := by unfold e4; first | (rw [hq0]; rfl) | (rw [hq0, hq1]; rfl) | (rw [hq0, hq1, hq2]; rfl) | (rw [hq0, hq1, hq2, hq3]; rfl)
              have ev : nI (w + 0) = nI (w + (if e4 (Bd j) F then 1 else 0)) := by rw [eb]; rfl
              rw [ev]
              by_cases hj2 : 2 ≤ j
              · have ek : nI j + (-2) = nI (j - 2) := by rw [← nI_sub hj2, Int32.sub_eq_add_neg]; rfl
                rw [ek]
                have et : tdn (fun i => e4 (Bd i) F) j = (if e4 (Bd j) F then 1 else 0) + tdn (fun i => e4 (Bd i) F) (j - 2) := by
                  obtain ⟨m, rfl⟩ : ∃ m, j = m + 2 := ⟨j - 2, by omega⟩
                  rfl
                rw [et, ← Nat.add_assoc] at kk
                exact ih (j - 2) _ (by omega) (by omega) kk
              · have et : tdn (fun i => e4 (Bd i) F) j = (if e4 (Bd j) F then 1 else 0) := by
                  rcases (show j = 0 ∨ j = 1 by omega) with rfl | rfl <;> rfl
                rw [et] at kk
                have en : nI j + (-2) < 0 := by rcases (show j = 0 ∨ j = 1 by omega) with rfl | rfl <;> decide
                refine Z_run C it_Lg 1 (f2 := (662, [some (.ref (D.1 52)), some (.ref (D.1 0)), some (.ref (D.1 37)), some (.ref (D.1 38)), some (.ref (D.1 39)), some (.ref (D.1 40)), some (.ref (D.1 41)), some (.ref (D.1 42)), some (.ref (D.1 43)), some (.int (nI nb)), some (.int (nI e)), none, none, none, none, none, some (.int l6), some (.int (nI (w + (if e4 (Bd j) F then 1 else 0)))), some (.int (nI j + (-2)))], [.int (nI j + (-2))])) rfl ?_
                refine Z_br C it_Lg rfl rfl (fun hc9 => ?_) (fun hc9 => ?_)
                · skip
                  refine Z_sub (ls2 := [some (.ref (D.1 52)), some (.ref (D.1 0)), some (.ref (D.1 37)), some (.ref (D.1 38)), some (.ref (D.1 39)), some (.ref (D.1 40)), some (.ref (D.1 41)), some (.ref (D.1 42)), some (.ref (D.1 43)), some (.int (nI nb)), some (.int (nI e)), none, none, none, none, none, some (.int l6), some (.int (nI (w + (if e4 (Bd j) F then 1 else 0)))), none]) ⟨rfl, rfl, rfl, rfl, rfl, rfl, rfl, rfl, rfl, rfl, rfl, rfl, rfl, trivial⟩ ?_
                  exact kk
                · exact absurd en hc9
            · have hq3 : (pq4 (Bd j) 3 == pq4 F 3) = true := by rw [beq_iff_eq]; exact (lgc_0 (qtr_63 (hB j) (by decide) (by decide)) (qtr_63 hF (by decide) (by decide))).mp (Classical.not_not.mp hc8)
              refine Z_run C it_Lg 3 (f2 := (729, [some (.ref (D.1 52)), some (.ref (D.1 0)), some (.ref (D.1 37)), some (.ref (D.1 38)), some (.ref (D.1 39)), some (.ref (D.1 40)), some (.ref (D.1 41)), some (.ref (D.1 42)), some (.ref (D.1 43)), some (.int (nI nb)), some (.int (nI e)), none, none, none, none, none, some (.int l6), some (.int (nI w)), some (.int (nI j))], [.int (nI w + nI 1)])) rfl ?_
              rw [nI_add w 1]
              refine Z_run C it_Lg 3 (f2 := (660, [some (.ref (D.1 52)), some (.ref (D.1 0)), some (.ref (D.1 37)), some (.ref (D.1 38)), some (.ref (D.1 39)), some (.ref (D.1 40)), some (.ref (D.1 41)), some (.ref (D.1 42)), some (.ref (D.1 43)), some (.int (nI nb)), some (.int (nI e)), none, none, none, none, none, some (.int l6), some (.int (nI (w + 1))), some (.int (nI j + (-2)))], [])) rfl ?_
              have eb : e4 (Bd j) F = true := by unfold e4; rw [hq0, hq1, hq2, hq3]; rfl
              have ev : nI (w + 1) = nI (w + (if e4 (Bd j) F then 1 else 0)) := by rw [eb]; rfl
              rw [ev]
              by_cases hj2 : 2 ≤ j
              · have ek : nI j + (-2) = nI (j - 2) := by rw [← nI_sub hj2, Int32.sub_eq_add_neg]; rfl
                rw [ek]
                have et : tdn (fun i => e4 (Bd i) F) j = (if e4 (Bd j) F then 1 else 0) + tdn (fun i => e4 (Bd i) F) (j - 2) := by
                  obtain ⟨m, rfl⟩ : ∃ m, j = m + 2 := ⟨j - 2, by omega⟩
                  rfl
                rw [et, ← Nat.add_assoc] at kk
                exact ih (j - 2) _ (by omega) (by omega) kk
              · have et : tdn (fun i => e4 (Bd i) F) j = (if e4 (Bd j) F then 1 else 0) := by
                  rcases (show j = 0 ∨ j = 1 by omega) with rfl | rfl <;> rfl
                rw [et] at kk
                have en : nI j + (-2) < 0 := by rcases (show j = 0 ∨ j = 1 by omega) with rfl | rfl <;> decide
                refine Z_run C it_Lg 1 (f2 := (662, [some (.ref (D.1 52)), some (.ref (D.1 0)), some (.ref (D.1 37)), some (.ref (D.1 38)), some (.ref (D.1 39)), some (.ref (D.1 40)), some (.ref (D.1 41)), some (.ref (D.1 42)), some (.ref (D.1 43)), some (.int (nI nb)), some (.int (nI e)), none, none, none, none, none, some (.int l6), some (.int (nI (w + (if e4 (Bd j) F then 1 else 0)))), some (.int (nI j + (-2)))], [.int (nI j + (-2))])) rfl ?_
                refine Z_br C it_Lg rfl rfl (fun hc10 => ?_) (fun hc10 => ?_)
                · skip
                  refine Z_sub (ls2 := [some (.ref (D.1 52)), some (.ref (D.1 0)), some (.ref (D.1 37)), some (.ref (D.1 38)), some (.ref (D.1 39)), some (.ref (D.1 40)), some (.ref (D.1 41)), some (.ref (D.1 42)), some (.ref (D.1 43)), some (.int (nI nb)), some (.int (nI e)), none, none, none, none, none, some (.int l6), some (.int (nI (w + (if e4 (Bd j) F then 1 else 0)))), none]) ⟨rfl, rfl, rfl, rfl, rfl, rfl, rfl, rfl, rfl, rfl, rfl, rfl, rfl, trivial⟩ ?_
                  exact kk
                · exact absurd en hc10
