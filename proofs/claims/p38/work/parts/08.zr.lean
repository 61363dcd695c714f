/-! ===== rows for the walks that a program lays ===== -/
def zRet (v : Option Value) (h : aH) (sz : Nat) : zO := fun o h2 sz2 => o = .inl v ∧ h2 = h ∧ sz2 = sz
/-- an answer, or an exception of a class: nothing changes but v's world -/
def zThr (X : String) (h : aH) (sz : Nat) : zO := fun o h2 sz2 => o = .inr X ∧ h2 = h ∧ sz2 = sz
theorem zRet_i {h : aH} {sz : Nat} {v w : Int32} (e : v = w) : zRet (some (.int w)) h sz (.inl (some (.int v))) h sz := ⟨by rw [e], rfl, rfl⟩
theorem zRet_l {h : aH} {sz : Nat} {v w : Int64} (e : v = w) : zRet (some (.long w)) h sz (.inl (some (.long v))) h sz := ⟨by rw [e], rfl, rfl⟩
theorem zRet_v {h : aH} {sz : Nat} : zRet none h sz (.inl none) h sz := ⟨rfl, rfl, rfl⟩
theorem zRet_iH {h h2 : aH} {sz : Nat} {v w : Int32} (e : v = w) (e2 : h = h2) : zRet (some (.int w)) h2 sz (.inl (some (.int v))) h sz := ⟨by rw [e], e2, rfl⟩
theorem zRet_vH {h h2 : aH} {sz : Nat} (e2 : h = h2) : zRet none h2 sz (.inl none) h sz := ⟨rfl, e2, rfl⟩
def bI (b : Bool) : Int32 := if b then 1 else 0
theorem bI_0 {b : Bool} : bI b = 0 ↔ b = false := by cases b <;> decide
theorem bI_1 {b : Bool} : ¬ bI b = 0 ↔ b = true := by cases b <;> decide
theorem bI_v {b : Bool} : bI b = 0 ∨ bI b = 1 := by cases b <;> decide
theorem bI_t {b : Bool} (h : b = true) : (1 : Int32) = bI b := by rw [h]; rfl
theorem bI_f {b : Bool} (h : b = false) : (0 : Int32) = bI b := by rw [h]; rfl
theorem nI_e0 {a : Nat} (h : a < 2 ^ 31) : nI a = 0 ↔ a = 0 := by
  rw [← nI_0]
  exact nI_eq h (by decide)
theorem nI_div {a d : Nat} (ha : a < 2 ^ 31) (h0 : 0 < d) (hd : d < 2 ^ 31) : nI a / nI d = nI (a / d) := pk_div ha h0 hd
theorem nI_mod {a d : Nat} (ha : a < 2 ^ 31) (h0 : 0 < d) (hd : d < 2 ^ 31) : nI a % nI d = nI (a % d) := by
  rw [← irem_eq_mod]
  exact pk_rem ha h0 hd
theorem nI_sub {a b : Nat} (h : b ≤ a) : nI a - nI b = nI (a - b) := pk_sub h
theorem nI_mul (a b : Nat) : nI a * nI b = nI (a * b) := pk_mul a b
section ZRR
variable {E : zE} {G : zG} {cc : ByteArray} {nL : Nat} {own nm : String} {ret : Option FieldType} {R : Room} {h : aH} {sz k n : Nat} {t : List zI} {pc : Nat} {ls : zL} {st rest : List Value} {D : zD} {V : Nat → Nat → Int32} {P : Nat → Nat → Value} {PH : aH}
theorem Zr_callV (C : zCx E G cc nL own nm ret R) (ht : zT cc t) (hD : zDok E D) {idx : Nat} {r : Nat × Int32 × Nat} (hl : t.lookup pc = some (.invokevirtual idx, r)) {y : MethodName} {c9 : ByteArray} {n9 a : Nat} {r9 : Option FieldType} {rm : Room} (hp : zPv y c9 n9 r9 a) (hlk : Cond.methodLink own idx y ∈ zWs) (i : Nat) (hi : zin i) {ci nn N : Nat} {fs : Nat → Value} {T : u_T} (hc : mk D i (V i) (P i) = (ci, nn, fs)) (hci : zCl[ci]? = some (y.cls, T, N)) (As : List Value) {v : Option Value} {h2 : aH} {sz2 : Nat} (hM : zM E (zGl G) y [.code y c9 n9 r9] rm (.ref (D.1 i) :: As) (HM D V P PH) sz (zRet v h2 sz2)) (hst : st = As.reverse ++ .ref (D.1 i) :: rest) (ha : As.length = a) (hR : zRm rm R n9 k n) (hcat : (rest.map fun v => v.category).sum ≤ 8) (hls : ls.length = nL)
    (kk : Z E G h2 sz2 (k + rm.cells) (n + rm.slots) (pc + 3, ls, v.toList ++ rest)) : Z E G (HM D V P PH) sz k n (pc, ls, st) :=
  Z_callV C ht hl hp hlk As hM hst ha (by rw [HM_at hD hi, hc]) hci hR hcat hls (fun w h3 sz3 hO => by obtain ⟨e1, rfl, rfl⟩ := hO; cases e1; exact kk) (fun X h3 sz3 hO => by cases hO.1)
theorem Zr_callS (C : zCx E G cc nL own nm ret R) (ht : zT cc t) {idx : Nat} {r : Nat × Int32 × Nat} (hl : t.lookup pc = some (.invokestatic idx, r)) {y : MethodName} {c9 : ByteArray} {n9 a : Nat} {r9 : Option FieldType} {rm : Room} (hp : zPs y c9 n9 r9 a) (hlk : Cond.methodLink own idx y ∈ zWs) (As : List Value) {v : Option Value} {h2 : aH} {sz2 : Nat} (hM : zM E (zGl G) y [.code y c9 n9 r9] rm As h sz (zRet v h2 sz2)) (hst : st = As.reverse ++ rest) (ha : As.length = a) (hR : zRm rm R n9 k n) (hcat : (rest.map fun v => v.category).sum ≤ 8) (hls : ls.length = nL)
    (kk : Z E G h2 sz2 (k + rm.cells) (n + rm.slots) (pc + 3, ls, v.toList ++ rest)) : Z E G h sz k n (pc, ls, st) :=
  Z_callS C ht hl hp hlk As hM hst ha hR hcat hls (fun w h3 sz3 hO => by obtain ⟨e1, rfl, rfl⟩ := hO; cases e1; exact kk) (fun X h3 sz3 hO => by cases hO.1)
end ZRR
