/-! ===== BrackenGambit: the calls that change the game ===== -/
theorem pof_lt {s st : Nat} {ld : Bool} (hs : s < 2) (h : st < 32) : pof s st ld < 128 := by
  unfold pof
  cases ld <;> (simp; try omega)
def plF (F : Nat → Nat) (b p : Nat) : Nat → Nat := fun k => if k = b then p else F k
theorem bF_pl {V : Nat → Nat → Int32} {b p s : Nat} {x : Int32} (hp : p < 128) : bF (vset (vset V 3 b (nI p)) 4 s x) 2 = plF (bF V 2) b p := by
  funext k
  have e3 : (vset (vset V 3 b (nI p)) 4 s x) (2 + 1) k = upd (V 3) b (nI p) k := rfl
  unfold bF plF
  rw [e3]
  unfold upd
  split
  · exact pn_nI (by omega)
  · rfl
theorem okF_pl {F : Nat → Nat} {b p : Nat} (h : okF F) (hp : p < 128) : okF (plF F b p) := fun k hk => by
  unfold plF
  split
  · exact hp
  · exact h k hk
theorem bF_W {V W : Nat → Nat → Int32} (h : ∀ c, c < 6 ∨ 33 ≤ c → W c = V c) : bF W 2 = bF V 2 := by
  funext k
  unfold bF
  rw [h (2 + 1) (by omega)]
section ZNP
variable {E : zE} {G : zG} {cc : ByteArray} {nL : Nat} {own nm : String} {ret : Option FieldType} {R : Room} {sz k n : Nat} {t : List zI} {pc : Nat} {ls : zL} {st rest : List Value} {D : zD} {V V2 : Nat → Nat → Int32} {P P2 : Nat → Nat → Value} {PH PH2 : aH}
theorem Zr_newP (C : zCx E G cc nL own nm ret R) (ht : zT cc t) (hD : zDok E D) {idx : Nat} {r : Nat × Int32 × Nat} (hl : t.lookup pc = some (.invokevirtual idx, r)) {y : MethodName} {c9 : ByteArray} {n9 a : Nat} {r9 : Option FieldType} {rm : Room} (hp : zPv y c9 n9 r9 a) (hlk : Cond.methodLink own idx y ∈ zWs) (i : Nat) (hi : zin i) {ci nn N : Nat} {fs : Nat → Value} {T : u_T} (hc : mk D i (V i) (P i) = (ci, nn, fs)) (hci : zCl[ci]? = some (y.cls, T, N)) (As : List Value) {cv : aC} {v : Value} (hM : zM E (zGl G) y [.code y c9 n9 r9] rm (.ref (D.1 i) :: As) (HM D V P PH) sz (zNewP D V2 P2 PH2 cv v sz)) (hst : st = As.reverse ++ .ref (D.1 i) :: rest) (ha : As.length = a) (hR : zRm rm R n9 k n) (hcat : (rest.map fun v => v.category).sum ≤ 8) (hls : ls.length = nL)
    (kk : ∀ q0 : Nat, sz ≤ q0 → notD D q0 → PH2 q0 = none → Z E G (HM D V2 (pset P2 1 7 (.ref q0)) (hset PH2 q0 cv)) (q0 + 1) (k + rm.cells) (n + rm.slots) (pc + 3, ls, v :: rest)) : Z E G (HM D V P PH) sz k n (pc, ls, st) :=
  Z_callV C ht hl hp hlk As hM hst ha (by rw [HM_at hD hi, hc]) hci hR hcat hls (fun w h3 sz3 hO => by
    obtain ⟨q0, h1, h2, h3, e1, rfl, rfl⟩ := hO
    cases e1
    exact kk q0 h1 h2 h3) (fun X h3 sz3 hO => by obtain ⟨q0, h1, h2, h3, e1, -⟩ := hO; cases e1)
end ZNP
set_option maxRecDepth 20000 in
theorem ct_Xx_put {E : zE} (hE : zEv E) {l : Launch} (hl : l.stackTraces = false) {D : zD} (hD : zDok E D) (V : Nat → Nat → Int32) (P : Nat → Nat → Value) (PH : aH) (hF : okF (bF V 2)) (L : List zPos) (hch : chn PH (P 1 7) L) (gs : Nat → Nat) (hgs : isH D P gs) (n : Nat) (hn : V 6 1 = nI n) (h5n : n ≤ 5) (h5 : V 1 5 = 0 ∨ V 1 5 = 1) (h7 : P 1 7 = .null ∨ ∃ q, P 1 7 = .ref q) (W : Nat → Nat → Int32) (Q : Nat → Nat → Value) (hW : rmV V gs n = W) (hQ : rmP D P gs n = Q) (hWr : ∀ c, c < 6 ∨ 33 ≤ c → W c = V c) (hQr : ∀ c, c < 6 ∨ 33 ≤ c → Q c = P c) (a : Nat) (ha : a < 2) (b : Nat) (hb : b < 36) (c : Nat) (hc : c < 32) (hc0 : 1 ≤ c) (ld : Bool) (hac : acc_ L (bF V 2) a b ld = true) (sz : Nat) : zM E l y_Xx_put [.code y_Xx_put c_Xx_put 5 (some .int)] rm_Xx_put [.ref (D.1 0), .int (nI a), .int (nI b), .int (nI c), .int (bI ld)] (HM D V P PH) sz (zRet (some (.int (nI (popc (sqs (plF (bF V 2) b (pof a c ld)) a))))) (HM D (vset (vset W 3 b (nI (pof a c ld))) 4 (sd (pof a c ld)) (W 4 (sd (pof a c ld)) + nI (wr (pof a c ld)))) Q PH) sz) := by
  refine zM_of hE hl (by decide +kernel) [some (.ref (D.1 0)), some (.int (nI a)), some (.int (nI b)), some (.int (nI c)), some (.int (bI ld))] ⟨rfl, rfl, Nat.le_of_ble_eq_true rfl⟩ ?_
  intro G C q htb
  have hpf : pof a c ld < 128 := pof_lt ha hc
  refine Z_run C it_Xx_put 1 (f2 := (1, [some (.ref (D.1 0)), some (.int (nI a)), some (.int (nI b)), some (.int (nI c)), some (.int (bI ld))], [.int (nI a)])) rfl ?_
  refine Zr_callS C it_Xx_put rfl p_Xx_needSide ml_Xx_132 [.int (nI a)] (ct_Xx_needSide C.ev C.l a (by omega) (HM D V P PH) _) rfl rfl ⟨by decide, by decide, by decide, by decide⟩ (Nat.le_of_ble_eq_true rfl) rfl ?_
  show Z E G (HM D V P PH) sz 1 6 (4, [some (.ref (D.1 0)), some (.int (nI a)), some (.int (nI b)), some (.int (nI c)), some (.int (bI ld))], [])
  refine Z_run C it_Xx_put 1 (f2 := (5, [some (.ref (D.1 0)), some (.int (nI a)), some (.int (nI b)), some (.int (nI c)), some (.int (bI ld))], [.int (nI b)])) rfl ?_
  refine Zr_callS C it_Xx_put rfl p_Xx_needSquare ml_Xx_41 [.int (nI b)] (ct_Xx_needSquare C.ev C.l b (by omega) (HM D V P PH) _) rfl rfl ⟨by decide, by decide, by decide, by decide⟩ (Nat.le_of_ble_eq_true rfl) rfl ?_
  show Z E G (HM D V P PH) sz 2 12 (8, [some (.ref (D.1 0)), some (.int (nI a)), some (.int (nI b)), some (.int (nI c)), some (.int (bI ld))], [])
  refine Z_run C it_Xx_put 2 (f2 := (10, [some (.ref (D.1 0)), some (.int (nI a)), some (.int (nI b)), some (.int (nI c)), some (.int (bI ld))], [.int (nI 1), .int (nI c)])) rfl ?_
  refine Z_br C it_Xx_put rfl rfl (fun hc1 => ?_) (fun hc1 => ?_)
  · exact absurd ((nI_ltI (a := c) (b := 1) (by omega) (by omega)).mp hc1) (by omega)
  · skip
    refine Z_run C it_Xx_put 2 (f2 := (16, [some (.ref (D.1 0)), some (.int (nI a)), some (.int (nI b)), some (.int (nI c)), some (.int (bI ld))], [.int (nI 31), .int (nI c)])) rfl ?_
    refine Z_br C it_Xx_put rfl rfl (fun hc2 => ?_) (fun hc2 => ?_)
    · skip
      refine Z_run C it_Xx_put 1 (f2 := (30, [some (.ref (D.1 0)), some (.int (nI a)), some (.int (nI b)), some (.int (nI c)), some (.int (bI ld))], [.ref (D.1 0)])) rfl ?_
      refine Zm_get C it_Xx_put hD rfl 0 wi_Xx (by decide) rfl rfl (j := 0) (by decide) fl_Xx_10 (v := .ref (D.1 1)) rfl ?_
      refine Z_run C it_Xx_put 3 (f2 := (37, [some (.ref (D.1 0)), some (.int (nI a)), some (.int (nI b)), some (.int (nI c)), some (.int (bI ld))], [.int (bI ld), .int (nI b), .int (nI a), .ref (D.1 1)])) rfl ?_
      refine Zr_callV C it_Xx_put hD rfl p_Gm_accepts ml_Xx_228 1 (by decide) rfl rfl [.int (nI a), .int (nI b), .int (bI ld)] (ct_Gm_accepts C.ev C.l hD _ _ _ hF L hch a (by omega) b (by omega) ld _) rfl rfl ⟨by decide, by decide, by decide, by decide⟩ (Nat.le_of_ble_eq_true rfl) rfl ?_
      show Z E G (HM D V P PH) sz 2 12 (40, [some (.ref (D.1 0)), some (.int (nI a)), some (.int (nI b)), some (.int (nI c)), some (.int (bI ld))], [.int (bI (acc_ L (bF V 2) a b ld))])
      refine Z_br C it_Xx_put rfl rfl (fun hc3 => ?_) (fun hc3 => ?_)
      · skip
        refine Z_run C it_Xx_put 1 (f2 := (54, [some (.ref (D.1 0)), some (.int (nI a)), some (.int (nI b)), some (.int (nI c)), some (.int (bI ld))], [.ref (D.1 0)])) rfl ?_
        refine Zm_get C it_Xx_put hD rfl 0 wi_Xx (by decide) rfl rfl (j := 1) (by decide) fl_Xx_19 (v := .ref (D.1 6)) rfl ?_
        refine Z_run C it_Xx_put 1 (f2 := (58, [some (.ref (D.1 0)), some (.int (nI a)), some (.int (nI b)), some (.int (nI c)), some (.int (bI ld))], [.ref (D.1 0), .ref (D.1 6)])) rfl ?_
        refine Zm_get C it_Xx_put hD rfl 0 wi_Xx (by decide) rfl rfl (j := 0) (by decide) fl_Xx_10 (v := .ref (D.1 1)) rfl ?_
        refine Zr_callV C it_Xx_put hD rfl p_Hs_remember ml_Xx_63 6 (by decide) rfl rfl [.ref (D.1 1)] (ct_Hs_remember C.ev C.l hD _ _ _ gs hgs n hn h5n h5 h7 _) rfl rfl ⟨by decide, by decide, by decide, by decide⟩ (Nat.le_of_ble_eq_true rfl) rfl ?_
        show Z E G (HM D (rmV V gs n) (rmP D P gs n) PH) sz 2 12 (64, [some (.ref (D.1 0)), some (.int (nI a)), some (.int (nI b)), some (.int (nI c)), some (.int (bI ld))], [])
        rw [hW, hQ]
        have hFW : okF (bF W 2) := by rw [bF_W hWr]; exact hF
        show Z E G (HM D W Q PH) sz 2 12 (64, [some (.ref (D.1 0)), some (.int (nI a)), some (.int (nI b)), some (.int (nI c)), some (.int (bI ld))], [])
        refine Z_run C it_Xx_put 1 (f2 := (65, [some (.ref (D.1 0)), some (.int (nI a)), some (.int (nI b)), some (.int (nI c)), some (.int (bI ld))], [.ref (D.1 0)])) rfl ?_
        refine Zm_get C it_Xx_put hD rfl 0 wi_Xx (by decide) rfl rfl (j := 0) (by decide) fl_Xx_10 (v := .ref (D.1 1)) rfl ?_
        refine Z_run C it_Xx_put 4 (f2 := (73, [some (.ref (D.1 0)), some (.int (nI a)), some (.int (nI b)), some (.int (nI c)), some (.int (bI ld))], [.int (bI ld), .int (nI c), .int (nI a), .int (nI b), .ref (D.1 1)])) rfl ?_
        refine Zr_callS C it_Xx_put rfl p_Pc_of ml_Xx_234 [.int (nI a), .int (nI c), .int (bI ld)] (ct_Pc_of C.ev C.l a (by first | assumption | omega) c (by first | assumption | omega) ld _ _) rfl rfl ⟨by decide, by decide, by decide, by decide⟩ (Nat.le_of_ble_eq_true rfl) rfl ?_
        show Z E G (HM D W Q PH) sz 2 12 (76, [some (.ref (D.1 0)), some (.int (nI a)), some (.int (nI b)), some (.int (nI c)), some (.int (bI ld))], [.int (nI (pof a c ld)), .int (nI b), .ref (D.1 1)])
        refine Zr_callV C it_Xx_put hD rfl p_Gm_addPiece ml_Xx_238 1 (by decide) rfl rfl [.int (nI b), .int (nI (pof a c ld))] (ct_Gm_addPiece C.ev C.l hD _ _ _ b (by omega) (pof a c ld) (by first | assumption | omega) _) rfl rfl ⟨by decide, by decide, by decide, by decide⟩ (Nat.le_of_ble_eq_true rfl) rfl ?_
        show Z E G (HM D (vset (vset W 3 b (nI (pof a c ld))) 4 (sd (pof a c ld)) (W 4 (sd (pof a c ld)) + nI (wr (pof a c ld)))) Q PH) sz 2 12 (79, [some (.ref (D.1 0)), some (.int (nI a)), some (.int (nI b)), some (.int (nI c)), some (.int (bI ld))], [])
        refine Z_run C it_Xx_put 1 (f2 := (80, [some (.ref (D.1 0)), some (.int (nI a)), some (.int (nI b)), some (.int (nI c)), some (.int (bI ld))], [.ref (D.1 0)])) rfl ?_
        refine Zm_get C it_Xx_put hD rfl 0 wi_Xx (by decide) rfl rfl (j := 0) (by decide) fl_Xx_10 (v := .ref (D.1 1)) rfl ?_
        have hF3 : okF (bF (vset (vset W 3 b (nI (pof a c ld))) 4 (sd (pof a c ld)) (W 4 (sd (pof a c ld)) + nI (wr (pof a c ld)))) 2) := by rw [bF_pl hpf]; exact okF_pl hFW hpf
        refine Zm_get C it_Xx_put hD rfl 1 wi_Gm (by decide) rfl rfl (j := 0) (by decide) fl_Xx_49 (v := .ref (D.1 2)) rfl ?_
        refine Z_run C it_Xx_put 1 (f2 := (87, [some (.ref (D.1 0)), some (.int (nI a)), some (.int (nI b)), some (.int (nI c)), some (.int (bI ld))], [.int (nI a), .ref (D.1 2)])) rfl ?_
        refine Zr_callV C it_Xx_put hD rfl p_Bd_countOf ml_Xx_135 2 (by decide) rfl rfl [.int (nI a)] (ct_Bd_countOf C.ev C.l hD (vset (vset W 3 b (nI (pof a c ld))) 4 (sd (pof a c ld)) (W 4 (sd (pof a c ld)) + nI (wr (pof a c ld)))) _ _ 2 isB_2 hF3 a (by first | assumption | omega) _) rfl rfl ⟨by decide, by decide, by decide, by decide⟩ (Nat.le_of_ble_eq_true rfl) rfl ?_
        show Z E G (HM D (vset (vset W 3 b (nI (pof a c ld))) 4 (sd (pof a c ld)) (W 4 (sd (pof a c ld)) + nI (wr (pof a c ld)))) Q PH) sz 2 12 (90, [some (.ref (D.1 0)), some (.int (nI a)), some (.int (nI b)), some (.int (nI c)), some (.int (bI ld))], [.int (nI (popc (sqs (bF (vset (vset W 3 b (nI (pof a c ld))) 4 (sd (pof a c ld)) (W 4 (sd (pof a c ld)) + nI (wr (pof a c ld)))) 2) a)))])
        exact Z_iret C q.e it_Xx_put rfl (zRet_iH (by rw [bF_pl hpf, bF_W hWr]) rfl) (by decide) (by decide)
      · exact absurd (Classical.not_not.mp hc3) (by rw [hac]; decide)
    · exact absurd ((nI_leI (a := c) (b := 31) (by omega) (by omega)).mpr (by omega)) hc2
