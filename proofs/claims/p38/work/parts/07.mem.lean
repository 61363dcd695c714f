/-! ===== the flat memory: 51 cells (the places 44 and 45 are free) of known shape at the addresses ad 0 .. ad 52; V i k is the whole number at place k of cell i, P i k another value there; PH holds the positions ===== -/
/-- ad: where a cell lies; ix: which cell lies there; the script's length and its ints -/
abbrev zD : Type := (Nat → Nat) × (Nat → Nat) × Nat × (Nat → Int32)
def zKW : Nat → Int32
  | 0 => 1
  | 1 => 1
  | 2 => 3
  | 3 => 5
  | _ => 3
def zUP : Nat → Int32
  | 0 => 1 | 1 => -1 | 2 => 0 | 3 => 0 | 4 => 1 | 5 => 1 | 6 => -1 | 7 => -1
  | 8 => 2 | 9 => 2 | 10 => 1 | 11 => 1 | 12 => -1 | 13 => -1 | 14 => -2 | _ => -2
def zRT : Nat → Int32
  | 0 => 0 | 1 => 0 | 2 => 1 | 3 => -1 | 4 => 1 | 5 => -1 | 6 => 1 | 7 => -1
  | 8 => 1 | 9 => -1 | 10 => 2 | 11 => -2 | 12 => 2 | 13 => -2 | 14 => 1 | _ => -1
def zFD : Nat → Int32
  | 0 => 0 | 1 => 4 | 2 => 8 | 3 => 0 | _ => 4
def zLD : Nat → Int32
  | 0 => 3 | 1 => 7 | 2 => 15 | 3 => 3 | _ => 7
def zFA : Nat → Int32
  | 0 => 1 | 1 => 1 | 2 => 1 | 3 => 5 | _ => 5
def mkG (D : zD) (i : Nat) (v : Nat → Int32) (r : Nat → Value) : aC := (1, 0, fun k => match k with
  | 0 => .ref (D.1 (i + 1))
  | 1 => .ref (D.1 (i + 3))
  | 2 => .ref (D.1 (i + 4))
  | 7 => r 7
  | k => .int (v k))
def mkI (n : Nat) (v : Nat → Int32) : aC := (10, n, fun k => .int (v k))
def mkB (D : zD) (i : Nat) : aC := (0, 0, fun _ => .ref (D.1 (i + 1)))
def mk (D : zD) (i : Nat) (v : Nat → Int32) (r : Nat → Value) : aC := match i with
  | 0 => (5, 0, fun k => match k with
    | 0 => .ref (D.1 1)
    | 1 => .ref (D.1 6)
    | 2 => .ref (D.1 33)
    | _ => .ref (D.1 35))
  | 1 => mkG D 1 v r
  | 2 => mkB D 2
  | 3 => mkI 36 v
  | 4 => mkI 2 v
  | 5 => mkI 2 v
  | 6 => (2, 0, fun k => match k with
    | 0 => .ref (D.1 7)
    | k => .int (v k))
  | 7 => (14, 5, r)
  | 8 => mkG D 8 v r
  | 9 => mkB D 9
  | 10 => mkI 36 v
  | 11 => mkI 2 v
  | 12 => mkI 2 v
  | 13 => mkG D 13 v r
  | 14 => mkB D 14
  | 15 => mkI 36 v
  | 16 => mkI 2 v
  | 17 => mkI 2 v
  | 18 => mkG D 18 v r
  | 19 => mkB D 19
  | 20 => mkI 36 v
  | 21 => mkI 2 v
  | 22 => mkI 2 v
  | 23 => mkG D 23 v r
  | 24 => mkB D 24
  | 25 => mkI 36 v
  | 26 => mkI 2 v
  | 27 => mkI 2 v
  | 28 => mkG D 28 v r
  | 29 => mkB D 29
  | 30 => mkI 36 v
  | 31 => mkI 2 v
  | 32 => mkI 2 v
  | 33 => (3, 0, fun k => match k with
    | 0 => .ref (D.1 34)
    | k => .int (v k))
  | 34 => (13, 60, fun k => .int (v k))
  | 35 => mkB D 35
  | 36 => mkI 36 v
  | 37 => mkI 36 v
  | 38 => mkI 36 v
  | 39 => mkI 11 v
  | 40 => (11, 64, r)
  | 41 => (11, 64, r)
  | 42 => (11, 64, r)
  | 43 => (11, 64, r)
  | 46 => (15, 5, fun k => .int (zKW k))
  | 47 => (15, 16, fun k => .int (zUP k))
  | 48 => (15, 16, fun k => .int (zRT k))
  | 49 => (15, 5, fun k => .int (zFD k))
  | 50 => (15, 5, fun k => .int (zLD k))
  | 51 => (15, 5, fun k => .int (zFA k))
  | _ => (15, D.2.2.1, fun k => .int (D.2.2.2 k))
/-- the places of cell i that hold whole numbers that may be written -/
def mkW (i k : Nat) : Bool := match i with
  | 0 => false
  | 1 => k != 0 && k != 1 && k != 2 && k != 7
  | 2 => false
  | 6 => k != 0
  | 7 => false
  | 8 => k != 0 && k != 1 && k != 2 && k != 7
  | 9 => false
  | 13 => k != 0 && k != 1 && k != 2 && k != 7
  | 14 => false
  | 18 => k != 0 && k != 1 && k != 2 && k != 7
  | 19 => false
  | 23 => k != 0 && k != 1 && k != 2 && k != 7
  | 24 => false
  | 28 => k != 0 && k != 1 && k != 2 && k != 7
  | 29 => false
  | 33 => k != 0
  | 35 => false
  | 40 => false
  | 41 => false
  | 42 => false
  | 43 => false
  | i => decide (i < 44)
/-- the places that hold other values that may be written -/
def mkR (i k : Nat) : Bool := match i with
  | 1 => k == 7
  | 7 => true
  | 8 => k == 7
  | 13 => k == 7
  | 18 => k == 7
  | 23 => k == 7
  | 28 => k == 7
  | 40 => true
  | 41 => true
  | 42 => true
  | 43 => true
  | _ => false
def vset (V : Nat → Nat → Int32) (i k : Nat) (x : Int32) : Nat → Nat → Int32 := fun j => if j = i then upd (V i) k x else V j
def pset (P : Nat → Nat → Value) (i k : Nat) (x : Value) : Nat → Nat → Value := fun j => if j = i then updV (P i) k x else P j
theorem vset_s {V : Nat → Nat → Int32} {i k : Nat} {x : Int32} : vset V i k x i = upd (V i) k x := by simp [vset]
theorem vset_n {V : Nat → Nat → Int32} {i j k : Nat} {x : Int32} (h : j ≠ i) : vset V i k x j = V j := by simp [vset, h]
theorem pset_s {P : Nat → Nat → Value} {i k : Nat} {x : Value} : pset P i k x i = updV (P i) k x := by simp [pset]
theorem pset_n {P : Nat → Nat → Value} {i j k : Nat} {x : Value} (h : j ≠ i) : pset P i k x j = P j := by simp [pset, h]
/-- a place of the memory -/
abbrev zin (i : Nat) : Prop := i < 53 ∧ i ≠ 44 ∧ i ≠ 45
def zDok (E : zE) (D : zD) : Prop := (∀ i : Nat, zin i → D.2.1 (D.1 i) = i) ∧ (∀ i : Nat, i < 44 → zB E ≤ D.1 i) ∧
  zSt E R_Pc "KIND_WORTH" "[I" (.ref (D.1 46)) ∧ zSt E R_Bd "UP" "[I" (.ref (D.1 47)) ∧ zSt E R_Bd "RIGHT" "[I" (.ref (D.1 48)) ∧
  zSt E R_Bd "FIRST_DIRECTION" "[I" (.ref (D.1 49)) ∧ zSt E R_Bd "LAST_DIRECTION" "[I" (.ref (D.1 50)) ∧ zSt E R_Bd "FARTHEST" "[I" (.ref (D.1 51))
def HM (D : zD) (V : Nat → Nat → Int32) (P : Nat → Nat → Value) (PH : aH) : aH := fun a => if zin (D.2.1 a) ∧ D.1 (D.2.1 a) = a then some (mk D (D.2.1 a) (V (D.2.1 a)) (P (D.2.1 a))) else PH a
theorem HM_at {E : zE} {D : zD} {V : Nat → Nat → Int32} {P : Nat → Nat → Value} {PH : aH} (hD : zDok E D) {i : Nat} (hi : zin i) : HM D V P PH (D.1 i) = some (mk D i (V i) (P i)) := by
  unfold HM
  rw [hD.1 i hi, if_pos ⟨hi, rfl⟩]
theorem HM_set {E : zE} {D : zD} {V V2 : Nat → Nat → Int32} {P P2 : Nat → Nat → Value} {PH : aH} (hD : zDok E D) {i : Nat} (hi : zin i) {c : aC} (hc : mk D i (V2 i) (P2 i) = c) (hV : ∀ j, j ≠ i → V2 j = V j) (hP : ∀ j, j ≠ i → P2 j = P j) : hset (HM D V P PH) (D.1 i) c = HM D V2 P2 PH := by
  funext a
  by_cases e : a = D.1 i
  · subst e
    rw [hset_s, HM_at hD hi, hc]
  · rw [hset_n e]
    unfold HM
    by_cases g : zin (D.2.1 a) ∧ D.1 (D.2.1 a) = a
    · rw [if_pos g, if_pos g]
      have hne : D.2.1 a ≠ i := fun z => e (by rw [← g.2, z])
      rw [hV _ hne, hP _ hne]
    · rw [if_neg g, if_neg g]
theorem updV_int {v : Nat → Int32} {k : Nat} {x : Int32} : updV (fun j => Value.int (v j)) k (.int x) = fun j => Value.int (upd v k x j) := by
  funext j
  by_cases h : j = k <;> simp [updV, upd, h]
theorem mk_w {D : zD} {i k : Nat} {v : Nat → Int32} {r : Nat → Value} {x : Int32} (h : mkW i k = true) : mk D i (upd v k x) r = ((mk D i v r).1, (mk D i v r).2.1, updV (mk D i v r).2.2 k (.int x)) := by
  have A : ∀ n, mkI n (upd v k x) = ((mkI n v).1, (mkI n v).2.1, updV (mkI n v).2.2 k (.int x)) := fun n => by
    unfold mkI
    dsimp only
    rw [updV_int]
  have B : ∀ i, (k ≠ 0 ∧ k ≠ 1 ∧ k ≠ 2 ∧ k ≠ 7) → mkG D i (upd v k x) r = ((mkG D i v r).1, (mkG D i v r).2.1, updV (mkG D i v r).2.2 k (.int x)) := fun i hk => by
    unfold mkG
    dsimp only
    congr 2
    funext j
    by_cases hj : j = k
    · subst hj
      obtain ⟨h0, h1, h2, h7⟩ := hk
      split <;> simp_all [updV, upd]
    · split <;> simp_all [updV, upd]
  have hW := h
  unfold mkW at hW
  unfold mk
  split <;> simp only [Bool.and_eq_true, bne_iff_ne, ne_eq, reduceCtorEq, Bool.false_eq_true] at hW <;> first | exact A _ | exact B _ ⟨hW.1.1.1, hW.1.1.2, hW.1.2, hW.2⟩ | skip
  · congr 2
    funext j
    by_cases hj : j = k
    · subst hj
      split <;> simp_all [updV, upd]
    · split <;> simp_all [updV, upd]
  · congr 2
    funext j
    by_cases hj : j = k
    · subst hj
      split <;> simp_all [updV, upd]
    · split <;> simp_all [updV, upd]
  · rw [updV_int]
  all_goals (exfalso; revert hW; simp_all <;> omega)
theorem mk_r {D : zD} {i k : Nat} {v : Nat → Int32} {r : Nat → Value} {x : Value} (h : mkR i k = true) : mk D i v (updV r k x) = ((mk D i v r).1, (mk D i v r).2.1, updV (mk D i v r).2.2 k x) := by
  have B : ∀ i, k = 7 → mkG D i v (updV r k x) = ((mkG D i v r).1, (mkG D i v r).2.1, updV (mkG D i v r).2.2 k x) := fun i hk => by
    subst hk
    unfold mkG
    dsimp only
    congr 2
    funext j
    by_cases hj : j = 7
    · subst hj
      simp [updV]
    · split <;> simp_all [updV]
  have hR := h
  unfold mkR at hR
  split at hR <;> first | exact B _ (by simpa using hR) | rfl | exact absurd hR (by simp)
section ZMR
variable {E : zE} {G : zG} {cc : ByteArray} {nL : Nat} {own nm : String} {ret : Option FieldType} {R : Room} {sz k n : Nat} {t : List zI} {pc : Nat} {ls : zL} {st rest : List Value} {D : zD} {V : Nat → Nat → Int32} {P : Nat → Nat → Value} {PH : aH}
theorem Zm_get (C : zCx E G cc nL own nm ret R) (ht : zT cc t) (hD : zDok E D) {idx : Nat} {r : Nat × Int32 × Nat} (hl : t.lookup pc = some (.getfield idx, r)) (i : Nat) {ci nn N j : Nat} {fs : Nat → Value} {Cn : String} {T : u_T} (hwi : ∀ w ∈ u_ws Cn T N, w ∈ zWs) (hi : zin i) (hc : mk D i (V i) (P i) = (ci, nn, fs)) (hci : zCl[ci]? = some (Cn, T, N)) (hj : j < N) (hlink : Cond.fieldLink own idx (T j).1 (T j).2.1 (T j).2.2.1 ∈ zWs) {v : Value} (hv : fs j = v) (kk : Z E G (HM D V P PH) sz k n (pc + 3, ls, v :: rest)) : Z E G (HM D V P PH) sz k n (pc, ls, .ref (D.1 i) :: rest) :=
  Z_getf C ht hl hwi (by rw [HM_at hD hi, hc]) hci hj hlink hv kk
theorem Zm_ald (C : zCx E G cc nL own nm ret R) (ht : zT cc t) (hD : zDok E D) (i tg : Nat) {r : Nat × Int32 × Nat} (hl : t.lookup pc = some (zld tg, r)) {nn j : Nat} {x : Int32} {fs : Nat → Value} (hi : zin i) (hc : mk D i (V i) (P i) = (tg, nn, fs)) (h7 : 10 ≤ tg ∧ tg < 16) (hnn : nn < 2 ^ 31) (hx : x = nI j) (hj : j < nn) {v : Value} (hv : fs j = v) (kk : Z E G (HM D V P PH) sz k n (pc + 1, ls, v :: rest)) : Z E G (HM D V P PH) sz k n (pc, ls, .int x :: .ref (D.1 i) :: rest) :=
  Z_ald C ht hl (by rw [HM_at hD hi, hc]) h7 hx hj hnn hv kk
theorem Zm_put (C : zCx E G cc nL own nm ret R) (ht : zT cc t) (hD : zDok E D) {idx : Nat} {r : Nat × Int32 × Nat} (hl : t.lookup pc = some (.putfield idx, r)) (i : Nat) {ci nn N j : Nat} {fs : Nat → Value} {Cn : String} {T : u_T} (hwi : ∀ w ∈ u_ws Cn T N, w ∈ zWs) (ty : Nat → FieldType) (hty : ∀ k, k < N → parseFieldDescriptor (T k).2.2.1 = some (ty k)) (hnm : ∀ a, a < N → ∀ b, b < N → a ≠ b → (T a).2.1 ≠ (T b).2.1) (hi : i < 44) (hc : mk D i (V i) (P i) = (ci, nn, fs)) (hci : zCl[ci]? = some (Cn, T, N)) (hj : j < N) (hlink : Cond.fieldLink own idx (T j).1 (T j).2.1 (T j).2.2.1 ∈ zWs) (hfin : (T j).2.2.2 = false) (hw : mkW i j = true) {x : Int32} (hn : narrow (ty j) (.int x) = .int x) (hfit : fits (ty j) (.int x) = true) (kk : Z E G (HM D (vset V i j x) P PH) sz k n (pc + 3, ls, rest)) : Z E G (HM D V P PH) sz k n (pc, ls, .int x :: .ref (D.1 i) :: rest) := by
  refine Z_putf C ht hl hwi ty hty hnm (by rw [HM_at hD (by omega), hc]) hci hj hlink (Or.inl hfin) hn hfit (hD.2.1 i hi) ?_
  rw [HM_set (V2 := vset V i j x) (P2 := P) hD (by omega) (by rw [vset_s, mk_w hw, hc]) (fun b hb => vset_n hb) (fun _ _ => rfl)]
  exact kk
theorem Zm_putr (C : zCx E G cc nL own nm ret R) (ht : zT cc t) (hD : zDok E D) {idx : Nat} {r : Nat × Int32 × Nat} (hl : t.lookup pc = some (.putfield idx, r)) (i : Nat) {ci nn N j : Nat} {fs : Nat → Value} {Cn : String} {T : u_T} (hwi : ∀ w ∈ u_ws Cn T N, w ∈ zWs) (ty : Nat → FieldType) (hty : ∀ k, k < N → parseFieldDescriptor (T k).2.2.1 = some (ty k)) (hnm : ∀ a, a < N → ∀ b, b < N → a ≠ b → (T a).2.1 ≠ (T b).2.1) (hi : i < 44) (hc : mk D i (V i) (P i) = (ci, nn, fs)) (hci : zCl[ci]? = some (Cn, T, N)) (hj : j < N) (hlink : Cond.fieldLink own idx (T j).1 (T j).2.1 (T j).2.2.1 ∈ zWs) (hfin : (T j).2.2.2 = false) (hw : mkR i j = true) {x : Value} (hn : narrow (ty j) x = x) (hfit : fits (ty j) x = true) (kk : Z E G (HM D V (pset P i j x) PH) sz k n (pc + 3, ls, rest)) : Z E G (HM D V P PH) sz k n (pc, ls, x :: .ref (D.1 i) :: rest) := by
  refine Z_putf C ht hl hwi ty hty hnm (by rw [HM_at hD (by omega), hc]) hci hj hlink (Or.inl hfin) hn hfit (hD.2.1 i hi) ?_
  rw [HM_set (V2 := V) (P2 := pset P i j x) hD (by omega) (by rw [pset_s, mk_r hw, hc]) (fun _ _ => rfl) (fun b hb => pset_n hb)]
  exact kk
theorem Zm_ast (C : zCx E G cc nL own nm ret R) (ht : zT cc t) (hD : zDok E D) (i tg : Nat) {r : Nat × Int32 × Nat} (hl : t.lookup pc = some (zst tg, r)) {nn j : Nat} {x y : Int32} {fs : Nat → Value} (hi : i < 44) (hc : mk D i (V i) (P i) = (tg, nn, fs)) (hnn : nn < 2 ^ 31) (hx : x = nI j) (hj : j < nn) (hv : zfit tg (.int y)) (hw : mkW i j = true) (kk : Z E G (HM D (vset V i j y) P PH) sz k n (pc + 1, ls, rest)) : Z E G (HM D V P PH) sz k n (pc, ls, .int y :: .int x :: .ref (D.1 i) :: rest) := by
  refine Z_ast C ht hl (by rw [HM_at hD (by omega), hc]) hx hj hnn hv (hD.2.1 i hi) ?_
  rw [HM_set (V2 := vset V i j y) (P2 := P) hD (by omega) (by rw [vset_s, mk_w hw, hc]) (fun b hb => vset_n hb) (fun _ _ => rfl)]
  exact kk
theorem Zm_astr (C : zCx E G cc nL own nm ret R) (ht : zT cc t) (hD : zDok E D) (i tg : Nat) {r : Nat × Int32 × Nat} (hl : t.lookup pc = some (zst tg, r)) {nn j : Nat} {x : Int32} {y : Value} {fs : Nat → Value} (hi : i < 44) (hc : mk D i (V i) (P i) = (tg, nn, fs)) (hnn : nn < 2 ^ 31) (hx : x = nI j) (hj : j < nn) (hv : zfit tg y) (hw : mkR i j = true) (kk : Z E G (HM D V (pset P i j y) PH) sz k n (pc + 1, ls, rest)) : Z E G (HM D V P PH) sz k n (pc, ls, y :: .int x :: .ref (D.1 i) :: rest) := by
  refine Z_ast C ht hl (by rw [HM_at hD (by omega), hc]) hx hj hnn hv (hD.2.1 i hi) ?_
  rw [HM_set (V2 := V) (P2 := pset P i j y) hD (by omega) (by rw [pset_s, mk_r hw, hc]) (fun _ _ => rfl) (fun b hb => pset_n hb)]
  exact kk
end ZMR
/-- a whole number as a natural one -/
def pn (x : Int32) : Nat := x.toBitVec.toNat
theorem nI_pn (x : Int32) : nI (pn x) = x := by
  have h : (nI (pn x)).toBitVec = x.toBitVec := by simp [nI, pn, Int32.ofNat]
  exact Int32.toBitVec_inj.mp h
theorem pn_nI {a : Nat} (h : a < 2 ^ 32) : pn (nI a) = a := pk_tn h
