/-! ===== Long.bitCount below 2^36; Board: lines, reach, guards ===== -/
def popc (m : Nat) : Nat := cnt m.testBit 36
theorem and_256 {a c m n : Nat} (ha : a < 256) (hm : m < 256) : (a + 256 * c) &&& (m + 256 * n) = (a &&& m) + 256 * (c &&& n) := by
  have h8 : (256 : Nat) = 2 ^ 8 := rfl
  have h1 : ((a + 256 * c) &&& (m + 256 * n)) % 256 = a &&& m := by
    rw [h8, Nat.and_mod_two_pow, ← h8]
    rw [show (a + 256 * c) % 256 = a by omega, show (m + 256 * n) % 256 = m by omega]
  have h2 : ((a + 256 * c) &&& (m + 256 * n)) / 256 = c &&& n := by
    rw [h8, Nat.and_div_two_pow, ← h8]
    rw [show (a + 256 * c) / 256 = c by omega, show (m + 256 * n) / 256 = n by omega]
  omega
theorem and_bytes {a0 a1 a2 a3 a4 m : Nat} (h0 : a0 < 256) (h1 : a1 < 256) (h2 : a2 < 256) (h3 : a3 < 256) (hm : m < 256) (r : Nat) : (a0 + 256 * (a1 + 256 * (a2 + 256 * (a3 + 256 * a4)))) &&& (m + 256 * (m + 256 * (m + 256 * (m + 256 * (m + 256 * r))))) = (a0 &&& m) + 256 * ((a1 &&& m) + 256 * ((a2 &&& m) + 256 * ((a3 &&& m) + 256 * (a4 &&& (m + 256 * r))))) := by
  rw [and_256 h0 hm, and_256 h1 hm, and_256 h2 hm, and_256 h3 hm]
def p8 (b : Nat) : Nat := b % 2 + b / 2 % 2 + b / 4 % 2 + b / 8 % 2 + b / 16 % 2 + b / 32 % 2 + b / 64 % 2 + b / 128 % 2
def t8 (b : Nat) : Nat := b - (b / 2 &&& 85)
def u8 (b : Nat) : Nat := (t8 b &&& 51) + (t8 b / 4 &&& 51)
theorem bt1 : ∀ b, b < 256 → ∀ r, r < 2 → (b / 2 + 128 * r) &&& 85 = b / 2 &&& 85 := by decide +kernel
theorem bt1' : ∀ b, b < 256 → b / 2 &&& 85 ≤ b := by decide +kernel
theorem bt2 : ∀ b, b < 256 → ∀ r, r < 4 → (t8 b / 4 + 64 * r) &&& 51 = t8 b / 4 &&& 51 := by decide +kernel
theorem bt2' : ∀ b, b < 256 → t8 b < 256 ∧ u8 b ≤ 68 ∧ u8 b % 16 ≤ 4 := by decide +kernel
theorem bt3 : ∀ b, b < 256 → ∀ r, r < 5 → (u8 b + u8 b / 16 + 16 * r) &&& 15 = p8 b := by decide +kernel
theorem bt3' : ∀ b, b < 256 → p8 b ≤ 8 := by decide +kernel
def bw (x : Nat) : Nat × Nat × Nat × Nat × Nat := (x % 256, x / 256 % 256, x / 65536 % 256, x / 16777216 % 256, x / 4294967296)
def bc1 (x : Nat) : Nat := x - (x / 2 &&& 6148914691236517205)
def bc2 (x : Nat) : Nat := (x &&& 3689348814741910323) + (x / 4 &&& 3689348814741910323)
def bc3 (x : Nat) : Nat := (x + x / 16) &&& 1085102592571150095
theorem and_top {a m n : Nat} (ha : a < 256) (hm : m < 256) : a &&& (m + 256 * n) = a &&& m := by
  have h := and_256 (c := 0) (n := n) ha hm
  simpa using h
theorem bc_all {x : Nat} (hx : x < 2 ^ 36) : bc1 x < 2 ^ 36 ∧ x / 2 &&& 6148914691236517205 ≤ x ∧ bc2 (bc1 x) < 2 ^ 40 ∧ bc3 (bc2 (bc1 x)) = p8 (x % 256) + 256 * (p8 (x / 256 % 256) + 256 * (p8 (x / 65536 % 256) + 256 * (p8 (x / 16777216 % 256) + 256 * p8 (x / 4294967296)))) := by
  obtain ⟨b0, e0⟩ : ∃ b, b = x % 256 := ⟨_, rfl⟩
  obtain ⟨b1, e1⟩ : ∃ b, b = x / 256 % 256 := ⟨_, rfl⟩
  obtain ⟨b2, e2⟩ : ∃ b, b = x / 65536 % 256 := ⟨_, rfl⟩
  obtain ⟨b3, e3⟩ : ∃ b, b = x / 16777216 % 256 := ⟨_, rfl⟩
  obtain ⟨b4, e4⟩ : ∃ b, b = x / 4294967296 := ⟨_, rfl⟩
  rw [← e0, ← e1, ← e2, ← e3, ← e4]
  have g0 : b0 < 256 := by omega
  have g1 : b1 < 256 := by omega
  have g2 : b2 < 256 := by omega
  have g3 : b3 < 256 := by omega
  have g4 : b4 < 16 := by omega
  have hx0 : x = b0 + 256 * (b1 + 256 * (b2 + 256 * (b3 + 256 * b4))) := by omega
  clear e0 e1 e2 e3 e4
  have a1 : x / 2 = (b0 / 2 + 128 * (b1 % 2)) + 256 * ((b1 / 2 + 128 * (b2 % 2)) + 256 * ((b2 / 2 + 128 * (b3 % 2)) + 256 * ((b3 / 2 + 128 * (b4 % 2)) + 256 * (b4 / 2)))) := by omega
  have m1 : (6148914691236517205 : Nat) = 85 + 256 * (85 + 256 * (85 + 256 * (85 + 256 * (85 + 256 * 5592405)))) := by decide
  have s1 : x / 2 &&& 6148914691236517205 = (b0 / 2 &&& 85) + 256 * ((b1 / 2 &&& 85) + 256 * ((b2 / 2 &&& 85) + 256 * ((b3 / 2 &&& 85) + 256 * (b4 / 2 &&& 85)))) := by
    rw [a1, m1, and_bytes (by omega) (by omega) (by omega) (by omega) (by omega), bt1 b0 g0 _ (by omega), bt1 b1 g1 _ (by omega), bt1 b2 g2 _ (by omega), bt1 b3 g3 _ (by omega), and_top (by omega) (by omega)]
  have k0 := bt1' b0 g0
  have k1 := bt1' b1 g1
  have k2 := bt1' b2 g2
  have k3 := bt1' b3 g3
  have k4 := bt1' b4 (by omega)
  have t1 : bc1 x = t8 b0 + 256 * (t8 b1 + 256 * (t8 b2 + 256 * (t8 b3 + 256 * t8 b4))) := by
    unfold bc1 t8
    rw [s1]
    omega
  obtain ⟨i0, j0, l0⟩ := bt2' b0 g0
  obtain ⟨i1, j1, l1⟩ := bt2' b1 g1
  obtain ⟨i2, j2, l2⟩ := bt2' b2 g2
  obtain ⟨i3, j3, l3⟩ := bt2' b3 g3
  obtain ⟨i4, j4, l4⟩ := bt2' b4 (by omega)
  have t4 : t8 b4 ≤ b4 := Nat.sub_le _ _
  have a2 : bc1 x / 4 = (t8 b0 / 4 + 64 * (t8 b1 % 4)) + 256 * ((t8 b1 / 4 + 64 * (t8 b2 % 4)) + 256 * ((t8 b2 / 4 + 64 * (t8 b3 % 4)) + 256 * ((t8 b3 / 4 + 64 * (t8 b4 % 4)) + 256 * (t8 b4 / 4)))) := by omega
  have m2 : (3689348814741910323 : Nat) = 51 + 256 * (51 + 256 * (51 + 256 * (51 + 256 * (51 + 256 * 3355443)))) := by decide
  have s2a : bc1 x / 4 &&& 3689348814741910323 = (t8 b0 / 4 &&& 51) + 256 * ((t8 b1 / 4 &&& 51) + 256 * ((t8 b2 / 4 &&& 51) + 256 * ((t8 b3 / 4 &&& 51) + 256 * (t8 b4 / 4 &&& 51)))) := by
    rw [a2, m2, and_bytes (by omega) (by omega) (by omega) (by omega) (by omega), bt2 b0 g0 _ (by omega), bt2 b1 g1 _ (by omega), bt2 b2 g2 _ (by omega), bt2 b3 g3 _ (by omega), and_top (by omega) (by omega)]
  have s2b : bc1 x &&& 3689348814741910323 = (t8 b0 &&& 51) + 256 * ((t8 b1 &&& 51) + 256 * ((t8 b2 &&& 51) + 256 * ((t8 b3 &&& 51) + 256 * (t8 b4 &&& 51)))) := by
    rw [t1, m2, and_bytes i0 i1 i2 i3 (by omega), and_top i4 (by omega)]
  have s2 : bc2 (bc1 x) = u8 b0 + 256 * (u8 b1 + 256 * (u8 b2 + 256 * (u8 b3 + 256 * u8 b4))) := by
    unfold bc2 u8
    rw [s2a, s2b]
    omega
  have a3 : bc2 (bc1 x) + bc2 (bc1 x) / 16 = (u8 b0 + u8 b0 / 16 + 16 * (u8 b1 % 16)) + 256 * ((u8 b1 + u8 b1 / 16 + 16 * (u8 b2 % 16)) + 256 * ((u8 b2 + u8 b2 / 16 + 16 * (u8 b3 % 16)) + 256 * ((u8 b3 + u8 b3 / 16 + 16 * (u8 b4 % 16)) + 256 * (u8 b4 + u8 b4 / 16)))) := by omega
  have m3 : (1085102592571150095 : Nat) = 15 + 256 * (15 + 256 * (15 + 256 * (15 + 256 * (15 + 256 * 986895)))) := by decide
  have s3 : bc3 (bc2 (bc1 x)) = p8 b0 + 256 * (p8 b1 + 256 * (p8 b2 + 256 * (p8 b3 + 256 * p8 b4))) := by
    unfold bc3
    have z4 := bt3 b4 (by omega) 0 (by omega)
    rw [Nat.mul_zero, Nat.add_zero] at z4
    rw [a3, m3, and_bytes (by omega) (by omega) (by omega) (by omega) (by omega), bt3 b0 g0 _ (by omega), bt3 b1 g1 _ (by omega), bt3 b2 g2 _ (by omega), bt3 b3 g3 _ (by omega), and_top (by omega) (by omega), z4]
  refine ⟨by omega, ?_, by omega, s3⟩
  rw [s1]
  omega
theorem p8m (y : Nat) : p8 (y % 256) = y % 2 + y / 2 % 2 + y / 4 % 2 + y / 8 % 2 + y / 16 % 2 + y / 32 % 2 + y / 64 % 2 + y / 128 % 2 := by
  unfold p8
  omega
theorem popc_p8 {x : Nat} (hx : x < 2 ^ 36) : popc x = p8 (x % 256) + p8 (x / 256 % 256) + p8 (x / 65536 % 256) + p8 (x / 16777216 % 256) + p8 (x / 4294967296) := by
  have h : ∀ k, (if x.testBit k then 1 else 0) = x / 2 ^ k % 2 := fun k => by
    rw [Nat.testBit_eq_decide_div_mod_eq]
    rcases (show x / 2 ^ k % 2 = 0 ∨ x / 2 ^ k % 2 = 1 by omega) with h | h <;> rw [h] <;> rfl
  have p16 : ∀ y, y < 16 → p8 y = y % 2 + y / 2 % 2 + y / 4 % 2 + y / 8 % 2 := by decide +kernel
  unfold popc cnt
  simp only [smp, h]
  rw [p8m x, p8m (x / 256), p8m (x / 65536), p8m (x / 16777216), p16 _ (by omega)]
  simp only [Nat.div_div_eq_div_mul, Nat.reduceMul, Nat.reducePow, Nat.zero_add, Nat.add_assoc, Nat.div_one]
theorem popc_le (x : Nat) : popc x ≤ 36 := by
  have := smp_le (f := fun k => if x.testBit k then 1 else 0) (c := 1) (n := 36) (fun k _ => by split <;> omega)
  unfold popc cnt
  omega
theorem lN_lit (n : Nat) : lN n = Int64.ofNat n := rfl
theorem lN_ush {n k p : Nat} (hn : n < 2 ^ 62) (hk : k < 64) (hp : 2 ^ k = p) : ((lN n).toUInt64 >>> ((nI k).toInt64.toUInt64 &&& Int64.toUInt64 63)).toInt64 = lN (n / p) := by
  rw [← hp]
  exact wb_shr (by omega) hk
theorem bcs1 {x : Nat} (hx : x < 2 ^ 36) : lN x - (((lN x).toUInt64 >>> ((nI 1).toInt64.toUInt64 &&& Int64.toUInt64 63)).toInt64 &&& (6148914691236517205)) = lN (bc1 x) := by
  rw [lN_ush (p := 2) (by omega) (by decide) rfl, show (6148914691236517205 : Int64) = lN 6148914691236517205 from rfl, wb_and (by omega) (by decide), lN_sub (bc_all hx).2.1]
  rfl
theorem bcs2 {x : Nat} (hx : x < 2 ^ 36) : (lN x &&& (3689348814741910323)) + (((lN x).toUInt64 >>> ((nI 2).toInt64.toUInt64 &&& Int64.toUInt64 63)).toInt64 &&& (3689348814741910323)) = lN (bc2 x) := by
  rw [lN_ush (p := 4) (by omega) (by decide) rfl, show (3689348814741910323 : Int64) = lN 3689348814741910323 from rfl, wb_and (by omega) (by decide), wb_and (by omega) (by decide), lN_add]
  rfl
theorem bcs3 {x : Nat} (hx : x < 2 ^ 40) : (lN x + ((lN x).toUInt64 >>> ((nI 4).toInt64.toUInt64 &&& Int64.toUInt64 63)).toInt64) &&& (1085102592571150095) = lN (bc3 x) := by
  rw [lN_ush (p := 16) (by omega) (by decide) rfl, lN_add, show (1085102592571150095 : Int64) = lN 1085102592571150095 from rfl, wb_and (by omega) (by decide)]
  rfl
theorem bcs4 {x k p : Nat} (hx : x < 2 ^ 62) (hk : k < 64) (hp : 2 ^ k = p) : lN x + ((lN x).toUInt64 >>> ((nI k).toInt64.toUInt64 &&& Int64.toUInt64 63)).toInt64 = lN (x + x / p) := by
  rw [lN_ush hx hk hp, lN_add]
theorem nI_and (a b : Nat) : nI a &&& nI b = nI (a &&& b) := by
  apply Int32.toBitVec_inj.mp
  show BitVec.ofNat 32 a &&& BitVec.ofNat 32 b = BitVec.ofNat 32 (a &&& b)
  apply BitVec.eq_of_getLsbD_eq
  intro i hi
  rw [BitVec.getLsbD_and, BitVec.getLsbD_ofNat, BitVec.getLsbD_ofNat, BitVec.getLsbD_ofNat, Nat.testBit_and]
  simp [hi]
def bc4 (x : Nat) : Nat := x + x / 256
def bc5 (x : Nat) : Nat := x + x / 65536
def bc6 (x : Nat) : Nat := x + x / 4294967296
theorem bc_end {x : Nat} (hx : x < 2 ^ 36) : bc6 (bc5 (bc4 (bc3 (bc2 (bc1 x))))) &&& 127 = popc x ∧ bc3 (bc2 (bc1 x)) < 2 ^ 36 := by
  have h := (bc_all hx).2.2.2
  have g0 := bt3' (x % 256) (by omega)
  have g1 := bt3' (x / 256 % 256) (by omega)
  have g2 := bt3' (x / 65536 % 256) (by omega)
  have g3 := bt3' (x / 16777216 % 256) (by omega)
  have g4 := bt3' (x / 4294967296) (by omega)
  rw [popc_p8 hx, h]
  generalize p8 (x % 256) = v0 at *
  generalize p8 (x / 256 % 256) = v1 at *
  generalize p8 (x / 65536 % 256) = v2 at *
  generalize p8 (x / 16777216 % 256) = v3 at *
  generalize p8 (x / 4294967296) = v4 at *
  refine ⟨?_, by omega⟩
  rw [show (127 : Nat) = 2 ^ 7 - 1 from rfl, Nat.and_two_pow_sub_one_eq_mod]
  unfold bc6 bc5 bc4
  have q1 : (v0 + 256 * (v1 + 256 * (v2 + 256 * (v3 + 256 * v4)))) / 256 = v1 + 256 * (v2 + 256 * (v3 + 256 * v4)) := by omega
  rw [q1]
  have q2 : v0 + 256 * (v1 + 256 * (v2 + 256 * (v3 + 256 * v4))) + (v1 + 256 * (v2 + 256 * (v3 + 256 * v4))) = (v0 + v1) + 256 * ((v1 + v2) + 256 * ((v2 + v3) + 256 * ((v3 + v4) + 256 * v4))) := by omega
  rw [q2]
  have q3 : ((v0 + v1) + 256 * ((v1 + v2) + 256 * ((v2 + v3) + 256 * ((v3 + v4) + 256 * v4)))) / 65536 = (v2 + v3) + 256 * ((v3 + v4) + 256 * v4) := by omega
  rw [q3]
  have q4 : (v0 + v1) + 256 * ((v1 + v2) + 256 * ((v2 + v3) + 256 * ((v3 + v4) + 256 * v4))) + ((v2 + v3) + 256 * ((v3 + v4) + 256 * v4)) = (v0 + v1 + v2 + v3) + 256 * ((v1 + v2 + v3 + v4) + 256 * ((v2 + v3 + v4) + 256 * ((v3 + v4) + 256 * v4))) := by omega
  rw [q4]
  have q5 : ((v0 + v1 + v2 + v3) + 256 * ((v1 + v2 + v3 + v4) + 256 * ((v2 + v3 + v4) + 256 * ((v3 + v4) + 256 * v4)))) / 4294967296 = v4 := by omega
  rw [q5]
  omega
set_option maxRecDepth 20000 in
theorem ct_Jl_bitCount {E : zE} (hE : zEv E) {l : Launch} (hl : l.stackTraces = false) (x : Nat) (hx : x < 2 ^ 36) (h : aH) (sz : Nat) : zM E l y_Jl_bitCount [.code y_Jl_bitCount c_Jl_bitCount 2 (some .int)] rm_Jl_bitCount [.long (lN x)] h sz (zRet (some (.int (nI (popc x)))) h sz) := by
  refine zM_of hE hl (by decide +kernel) [some (.long (lN x)), none] ⟨rfl, rfl, Nat.le_of_ble_eq_true rfl⟩ ?_
  intro G C q htb
  obtain ⟨hb1, -, hb2, -⟩ := bc_all hx
  obtain ⟨hb4, hb3⟩ := bc_end hx
  refine Z_run C it_Jl_bitCount 4 (f2 := (4, [some (.long (lN x)), none], [.long (((lN x).toUInt64 >>> ((nI 1).toInt64.toUInt64 &&& Int64.toUInt64 63)).toInt64), .long (lN x)])) rfl ?_
  refine Z_ldc2 C it_Jl_bitCount rfl cl_Jl_314 ?_
  refine Z_run C it_Jl_bitCount 3 (f2 := (10, [some (.long (lN x - (((lN x).toUInt64 >>> ((nI 1).toInt64.toUInt64 &&& Int64.toUInt64 63)).toInt64 &&& (6148914691236517205)))), none], [])) rfl ?_
  have e1 : lN x - (((lN x).toUInt64 >>> ((nI 1).toInt64.toUInt64 &&& Int64.toUInt64 63)).toInt64 &&& (6148914691236517205)) = lN (bc1 x) := bcs1 hx
  rw [e1]
  refine Z_run C it_Jl_bitCount 1 (f2 := (11, [some (.long (lN (bc1 x))), none], [.long (lN (bc1 x))])) rfl ?_
  refine Z_ldc2 C it_Jl_bitCount rfl cl_Jl_316 ?_
  refine Z_run C it_Jl_bitCount 4 (f2 := (18, [some (.long (lN (bc1 x))), none], [.long (((lN (bc1 x)).toUInt64 >>> ((nI 2).toInt64.toUInt64 &&& Int64.toUInt64 63)).toInt64), .long (lN (bc1 x) &&& (3689348814741910323))])) rfl ?_
  refine Z_ldc2 C it_Jl_bitCount rfl cl_Jl_316 ?_
  refine Z_run C it_Jl_bitCount 3 (f2 := (24, [some (.long ((lN (bc1 x) &&& (3689348814741910323)) + (((lN (bc1 x)).toUInt64 >>> ((nI 2).toInt64.toUInt64 &&& Int64.toUInt64 63)).toInt64 &&& (3689348814741910323)))), none], [])) rfl ?_
  have e2 : (lN (bc1 x) &&& (3689348814741910323)) + (((lN (bc1 x)).toUInt64 >>> ((nI 2).toInt64.toUInt64 &&& Int64.toUInt64 63)).toInt64 &&& (3689348814741910323)) = lN (bc2 (bc1 x)) := bcs2 hb1
  rw [e2]
  refine Z_run C it_Jl_bitCount 5 (f2 := (29, [some (.long (lN (bc2 (bc1 x)))), none], [.long (lN (bc2 (bc1 x)) + ((lN (bc2 (bc1 x))).toUInt64 >>> ((nI 4).toInt64.toUInt64 &&& Int64.toUInt64 63)).toInt64)])) rfl ?_
  refine Z_ldc2 C it_Jl_bitCount rfl cl_Jl_318 ?_
  refine Z_run C it_Jl_bitCount 2 (f2 := (34, [some (.long ((lN (bc2 (bc1 x)) + ((lN (bc2 (bc1 x))).toUInt64 >>> ((nI 4).toInt64.toUInt64 &&& Int64.toUInt64 63)).toInt64) &&& (1085102592571150095))), none], [])) rfl ?_
  have e3 : (lN (bc2 (bc1 x)) + ((lN (bc2 (bc1 x))).toUInt64 >>> ((nI 4).toInt64.toUInt64 &&& Int64.toUInt64 63)).toInt64) &&& (1085102592571150095) = lN (bc3 (bc2 (bc1 x))) := bcs3 hb2
  rw [e3]
  refine Z_run C it_Jl_bitCount 6 (f2 := (41, [some (.long (lN (bc3 (bc2 (bc1 x))) + ((lN (bc3 (bc2 (bc1 x)))).toUInt64 >>> ((nI 8).toInt64.toUInt64 &&& Int64.toUInt64 63)).toInt64)), none], [])) rfl ?_
  have e4 : lN (bc3 (bc2 (bc1 x))) + ((lN (bc3 (bc2 (bc1 x)))).toUInt64 >>> ((nI 8).toInt64.toUInt64 &&& Int64.toUInt64 63)).toInt64 = lN (bc4 (bc3 (bc2 (bc1 x)))) := bcs4 (p := 256) (by omega) (by decide) rfl
  rw [e4]
  refine Z_run C it_Jl_bitCount 6 (f2 := (48, [some (.long (lN (bc4 (bc3 (bc2 (bc1 x)))) + ((lN (bc4 (bc3 (bc2 (bc1 x))))).toUInt64 >>> ((nI 16).toInt64.toUInt64 &&& Int64.toUInt64 63)).toInt64)), none], [])) rfl ?_
  have e5 : lN (bc4 (bc3 (bc2 (bc1 x)))) + ((lN (bc4 (bc3 (bc2 (bc1 x))))).toUInt64 >>> ((nI 16).toInt64.toUInt64 &&& Int64.toUInt64 63)).toInt64 = lN (bc5 (bc4 (bc3 (bc2 (bc1 x))))) := bcs4 (p := 65536) (by unfold bc4; omega) (by decide) rfl
  rw [e5]
  refine Z_run C it_Jl_bitCount 6 (f2 := (55, [some (.long (lN (bc5 (bc4 (bc3 (bc2 (bc1 x))))) + ((lN (bc5 (bc4 (bc3 (bc2 (bc1 x)))))).toUInt64 >>> ((nI 32).toInt64.toUInt64 &&& Int64.toUInt64 63)).toInt64)), none], [])) rfl ?_
  have e6 : lN (bc5 (bc4 (bc3 (bc2 (bc1 x))))) + ((lN (bc5 (bc4 (bc3 (bc2 (bc1 x)))))).toUInt64 >>> ((nI 32).toInt64.toUInt64 &&& Int64.toUInt64 63)).toInt64 = lN (bc6 (bc5 (bc4 (bc3 (bc2 (bc1 x)))))) := bcs4 (p := 4294967296) (by unfold bc5 bc4; omega) (by decide) rfl
  rw [e6]
  refine Z_run C it_Jl_bitCount 4 (f2 := (60, [some (.long (lN (bc6 (bc5 (bc4 (bc3 (bc2 (bc1 x)))))))), none], [.int ((lN (bc6 (bc5 (bc4 (bc3 (bc2 (bc1 x))))))).toInt32 &&& nI 127)])) rfl ?_
  exact Z_iret C q.e it_Jl_bitCount rfl (zRet_i (by rw [lN_i, nI_and, hb4])) (by decide) (by decide)
/-- the next square in a direction: its row and column -/
def upZ (d : Nat) : Int := (zUP d).toInt
def rtZ (d : Nat) : Int := (zRT d).toInt
def nx1 (r : Nat) (z : Int) : Option Nat := if 0 ≤ (r : Int) + z ∧ (r : Int) + z < 6 then some ((r : Int) + z).toNat else none
def nx (d r c : Nat) : Option (Nat × Nat) := match nx1 r (upZ d), nx1 c (rtZ d) with
  | some r2, some c2 => some (r2, c2)
  | _, _ => none
theorem tb_up : ∀ r, r < 6 → ∀ d, d < 16 → ((nI r + zUP d < 0 ∨ nI 6 ≤ nI r + zUP d) ∧ nx1 r (upZ d) = none) ∨ (¬ nI r + zUP d < 0 ∧ ¬ nI 6 ≤ nI r + zUP d ∧ (nx1 r (upZ d)).isSome = true ∧ nI r + zUP d = nI ((nx1 r (upZ d)).getD 0) ∧ (nx1 r (upZ d)).getD 0 < 6) := by decide +kernel
theorem tb_rt : ∀ r, r < 6 → ∀ d, d < 16 → ((nI r + zRT d < 0 ∨ ¬ nI r + zRT d < nI 6) ∧ nx1 r (rtZ d) = none) ∨ (¬ nI r + zRT d < 0 ∧ nI r + zRT d < nI 6 ∧ (nx1 r (rtZ d)).isSome = true ∧ nI r + zRT d = nI ((nx1 r (rtZ d)).getD 0) ∧ (nx1 r (rtZ d)).getD 0 < 6) := by decide +kernel
theorem nx_o1 {r c d : Nat} (hr : r < 6) (hd : d < 16) (h : nI r + zUP d < 0 ∨ nI 6 ≤ nI r + zUP d) : nx d r c = none := by
  rcases tb_up r hr d hd with ⟨-, h1⟩ | ⟨h1, h2, -⟩
  · simp [nx, h1]
  · exact absurd h (by rintro (z | z); exact h1 z; exact h2 z)
theorem nx_o2 {r c d : Nat} (hc : c < 6) (hd : d < 16) (h : nI c + zRT d < 0 ∨ ¬ nI c + zRT d < nI 6) : nx d r c = none := by
  rcases tb_rt c hc d hd with ⟨-, h1⟩ | ⟨h1, h2, -⟩
  · unfold nx
    rw [h1]
    split
    · next h9 => cases h9
    · rfl
  · exact absurd h (by rintro (z | z); exact h1 z; exact z h2)
theorem nx_in {r c d : Nat} (hr : r < 6) (hc : c < 6) (hd : d < 16) (h1 : ¬ nI r + zUP d < 0) (h2 : ¬ nI 6 ≤ nI r + zUP d) (h3 : ¬ nI c + zRT d < 0) (h4 : nI c + zRT d < nI 6) : ∃ r2 c2 : Nat, nx d r c = some (r2, c2) ∧ nI r + zUP d = nI r2 ∧ nI c + zRT d = nI c2 ∧ r2 < 6 ∧ c2 < 6 := by
  rcases tb_up r hr d hd with ⟨g, -⟩ | ⟨-, -, g1, g2, g3⟩
  · exact absurd g (by rintro (z | z); exact h1 z; exact h2 z)
  · rcases tb_rt c hc d hd with ⟨g, -⟩ | ⟨-, -, k1, k2, k3⟩
    · exact absurd g (by rintro (z | z); exact h3 z; exact z h4)
    · obtain ⟨r2, e1⟩ := Option.isSome_iff_exists.mp g1
      obtain ⟨c2, e2⟩ := Option.isSome_iff_exists.mp k1
      rw [e1] at g2 g3
      rw [e2] at k2 k3
      exact ⟨r2, c2, by simp [nx, e1, e2], g2, k2, g3, k3⟩
/-- the squares in a direction, n paces, up to the first piece and with its square -/
def lmk (F : Nat → Nat) (d : Nat) : Nat → Nat → Nat → Nat
  | 0, _, _ => 0
  | n + 1, r, c => match nx d r c with
    | none => 0
    | some (r2, c2) => 2 ^ (6 * r2 + c2) ||| (if F (6 * r2 + c2) = 0 then lmk F d n r2 c2 else 0)
def lnm (F : Nat → Nat) (sq d f : Nat) : Nat := lmk F d f (sq / 6) (sq % 6)
def fdN (i : Nat) : Nat := match i with
  | 0 => 0
  | 1 => 4
  | 2 => 8
  | 3 => 0
  | _ => 4
def ldN (i : Nat) : Nat := match i with
  | 0 => 3
  | 1 => 7
  | 2 => 15
  | 3 => 3
  | _ => 7
def faN (i : Nat) : Nat := match i with
  | 0 => 1
  | 1 => 1
  | 2 => 1
  | 3 => 5
  | _ => 5
theorem fd_e {i : Nat} (h : i < 5) : zFD i = nI (fdN i) := by
  rcases (show i = 0 ∨ i = 1 ∨ i = 2 ∨ i = 3 ∨ i = 4 by omega) with rfl | rfl | rfl | rfl | rfl <;> rfl
theorem ld_e {i : Nat} (h : i < 5) : zLD i = nI (ldN i) := by
  rcases (show i = 0 ∨ i = 1 ∨ i = 2 ∨ i = 3 ∨ i = 4 by omega) with rfl | rfl | rfl | rfl | rfl <;> rfl
theorem fa_e {i : Nat} (h : i < 5) : zFA i = nI (faN i) := by
  rcases (show i = 0 ∨ i = 1 ∨ i = 2 ∨ i = 3 ∨ i = 4 by omega) with rfl | rfl | rfl | rfl | rfl <;> rfl
def ndN (i : Nat) : Nat := ldN i + 1 - fdN i
theorem nd_b : ∀ i, i < 5 → fdN i ≤ ldN i ∧ ldN i < 16 ∧ 1 ≤ faN i ∧ faN i ≤ 5 := by decide
/-- the squares to which a kind of steps leads from a square -/
def lok (F : Nat → Nat) (sq i : Nat) : Nat := orp (fun t => lnm F sq (fdN i + t) (faN i)) (ndN i)
def gfr (F : Nat → Nat) (sq : Nat) : Nat := orp (fun i => if kn (F sq) i then lok F sq i else 0) 5
def gfa (F : Nat → Nat) (sq s : Nat) : Nat := gfr F sq &&& (sqs F s ^^^ (2 ^ 36 - 1))
def mvs (F : Nat → Nat) (s n : Nat) : Nat := smp (fun k => if hld F k s then popc (gfa F k s) else 0) n
def gby (F : Nat → Nat) (s n : Nat) : Nat := orp (fun k => if hld F k s then gfr F k else 0) n
def cga (F : Nat → Nat) (s t n : Nat) : Nat := cnt (fun k => hld F k s && (gfr F k).testBit t) n
def gsf (F : Nat → Nat) (s t : Nat) : Nat := orp (fun i => lok F t i &&& knw F s i) 5
theorem lmk_lt (F : Nat → Nat) (d : Nat) : ∀ n r c, lmk F d n r c < 2 ^ 36 := by
  intro n
  induction n with
  | zero => intro r c; exact Nat.two_pow_pos 36
  | succ n ih =>
    intro r c
    unfold lmk
    split
    · exact Nat.two_pow_pos 36
    · next r2 c2 h =>
      have hb : r2 < 6 ∧ c2 < 6 := by
        unfold nx nx1 at h
        split at h
        · next h1 h2 =>
          cases h
          split at h1
          · next g => cases h1; split at h2
                      · next g2 => cases h2; omega
                      · cases h2
          · cases h1
        · cases h
      refine Nat.or_lt_two_pow (wb_lt2 (by omega)) ?_
      split
      · exact ih r2 c2
      · exact Nat.two_pow_pos 36
theorem lnm_lt (F : Nat → Nat) (sq d f : Nat) : lnm F sq d f < 2 ^ 36 := lmk_lt _ _ _ _ _
theorem lok_lt (F : Nat → Nat) (sq i : Nat) : lok F sq i < 2 ^ 36 := orp_lt (fun _ _ => lnm_lt _ _ _ _)
theorem gfr_lt (F : Nat → Nat) (sq : Nat) : gfr F sq < 2 ^ 36 := orp_lt (fun _ _ => by split; exact lok_lt _ _ _; exact Nat.two_pow_pos 36)
theorem gfa_lt (F : Nat → Nat) (sq s : Nat) : gfa F sq s < 2 ^ 36 := Nat.lt_of_le_of_lt Nat.and_le_left (gfr_lt F sq)
theorem gby_lt (F : Nat → Nat) (s n : Nat) : gby F s n < 2 ^ 36 := orp_lt (fun _ _ => by split; exact gfr_lt _ _; exact Nat.two_pow_pos 36)
theorem gsf_lt (F : Nat → Nat) (s t : Nat) : gsf F s t < 2 ^ 36 := orp_lt (fun _ _ => Nat.lt_of_le_of_lt Nat.and_le_left (lok_lt _ _ _))
theorem mvs_le (F : Nat → Nat) (s : Nat) {n : Nat} (h : n ≤ 36) : mvs F s n ≤ 1296 := by
  have := smp_le (f := fun k => if hld F k s then popc (gfa F k s) else 0) (c := 36) (n := n) (fun k _ => by split; exact popc_le _; omega)
  unfold mvs
  omega
/-- fewer locals are known -/
def zsubl : zL → zL → Prop
  | [], [] => True
  | none :: a, _ :: b => zsubl a b
  | some v :: a, some w :: b => v = w ∧ zsubl a b
  | _, _ => False
theorem zsubl_len : ∀ {a b : zL}, zsubl a b → a.length = b.length
  | [], [], _ => rfl
  | none :: a, _ :: b, h => by simp [zsubl_len (a := a) (b := b) h]
  | some _ :: a, some _ :: b, h => by simp [zsubl_len (a := a) (b := b) h.2]
theorem zsubl_mem : ∀ {a b : zL} (i : Nat), zsubl a b → ∀ q ∈ zl_as i a, q ∈ zl_as i b
  | [], [], _, _, _, hq => hq
  | none :: a, x :: b, i, h, q, hq => by
    have h1 := zsubl_mem (a := a) (b := b) (i + 1) h q hq
    cases x with
    | none => exact h1
    | some w => exact List.mem_cons_of_mem _ h1
  | some v :: a, some w :: b, i, h, q, hq => by
    obtain ⟨rfl, h2⟩ := h
    rcases List.mem_cons.mp hq with h3 | h3
    · rw [h3]; exact List.mem_cons_self
    · exact List.mem_cons_of_mem _ (zsubl_mem (a := a) (b := b) (i + 1) h2 q h3)
theorem Z_sub {E : zE} {G : zG} {h : aH} {sz k n pc : Nat} {ls ls2 : zL} {st : List Value} (hs : zsubl ls2 ls) (kk : Z E G h sz k n (pc, ls2, st)) : Z E G h sz k n (pc, ls, st) := Z_ls (zsubl_len hs) (zsubl_mem 0 hs) kk
set_option maxRecDepth 20000 in
theorem lp_Bd_line {E : zE} {G : zG} {O : zO} (C : zCx E G c_Bd_line 10 y_Bd_line.cls y_Bd_line.name (some .long) rm_Bd_line) (q : zEndX E G O rm_Bd_line.cells rm_Bd_line.slots)  {D : zD} (hD : zDok E D) {V : Nat → Nat → Int32} {P : Nat → Nat → Value} {PH : aH} {b : Nat} (hb : isB b) (hF : okF (bF V b)) {sq : Nat} (hsq : sq < 36) {d f : Nat} (hd : d < 16) (hf : f ≤ 5) {sz : Nat} : ∀ (j i : Nat), ∀ (r c acc : Nat), f + 1 - i < j → 1 ≤ i → i ≤ f + 1 → r < 6 → c < 6 → acc < 2 ^ 36 → O (.inl (some (.long (lN (acc ||| lmk (bF V b) d (f + 1 - i) r c))))) (HM D V P PH) sz → Z E G (HM D V P PH) sz 0 0 (18, [some (.ref (D.1 b)), some (.int (nI sq)), some (.int (nI d)), some (.int (nI f)), some (.long (lN acc)), none, some (.int (nI r)), some (.int (nI c)), some (.int (nI i)), none], []) := by
  intro j
  induction j with
  | zero =>
    intro i r c acc h1 h2 h2b hr hc hacc hO
    omega
  | succ j ih =>
    intro i r c acc h1 h2 h2b hr hc hacc hO
    refine Z_run C it_Bd_line 2 (f2 := (21, [some (.ref (D.1 b)), some (.int (nI sq)), some (.int (nI d)), some (.int (nI f)), some (.long (lN acc)), none, some (.int (nI r)), some (.int (nI c)), some (.int (nI i)), none], [.int (nI f), .int (nI i)])) rfl ?_
    refine Z_br C it_Bd_line rfl rfl (fun hc1 => ?_) (fun hc1 => ?_)
    · replace hc1 := (nI_ltI (a := f) (b := i) (by omega) (by omega)).mp hc1
      refine Z_run C it_Bd_line 1 (f2 := (111, [some (.ref (D.1 b)), some (.int (nI sq)), some (.int (nI d)), some (.int (nI f)), some (.long (lN acc)), none, some (.int (nI r)), some (.int (nI c)), some (.int (nI i)), none], [.long (lN acc)])) rfl ?_
      exact Z_lret C q.e it_Bd_line rfl (by
        by_cases hz : f + 1 - i = 0
        · rw [hz] at hO; simpa [lmk] using hO
        · rw [show f + 1 - i = (f + 1 - (i + 1)) + 1 by omega] at hO
          unfold lmk at hO
          rw [show nx d r c = none by first | exact nx_o1 hr hd (Or.inl hc2) | exact nx_o1 hr hd (Or.inr hc3) | exact nx_o2 hc hd (Or.inl hc4) | exact nx_o2 hc hd (Or.inr hc5) | omega] at hO
          simpa using hO) (by decide) (by decide)
    · replace hc1 : ¬ _ := fun z9 => hc1 ((nI_ltI (a := f) (b := i) (by omega) (by omega)).mpr z9)
      refine Z_run C it_Bd_line 1 (f2 := (26, [some (.ref (D.1 b)), some (.int (nI sq)), some (.int (nI d)), some (.int (nI f)), some (.long (lN acc)), none, some (.int (nI r)), some (.int (nI c)), some (.int (nI i)), none], [.int (nI r)])) rfl ?_
      refine Z_gets C it_Bd_line rfl hD.2.2.2.1 fl_Bd_55 ?_
      refine Z_run C it_Bd_line 1 (f2 := (30, [some (.ref (D.1 b)), some (.int (nI sq)), some (.int (nI d)), some (.int (nI f)), some (.long (lN acc)), none, some (.int (nI r)), some (.int (nI c)), some (.int (nI i)), none], [.int (nI d), .ref (D.1 47), .int (nI r)])) rfl ?_
      refine Zm_ald C it_Bd_line hD 47 15 rfl (by decide) rfl (by decide) (by decide) rfl (j := d) (by omega) (v := .int (zUP d)) rfl ?_
      refine Z_run C it_Bd_line 3 (f2 := (36, [some (.ref (D.1 b)), some (.int (nI sq)), some (.int (nI d)), some (.int (nI f)), some (.long (lN acc)), none, some (.int (nI r + zUP d)), some (.int (nI c)), some (.int (nI i)), none], [.int (nI c)])) rfl ?_
      refine Z_gets C it_Bd_line rfl hD.2.2.2.2.1 fl_Bd_58 ?_
      refine Z_run C it_Bd_line 1 (f2 := (40, [some (.ref (D.1 b)), some (.int (nI sq)), some (.int (nI d)), some (.int (nI f)), some (.long (lN acc)), none, some (.int (nI r + zUP d)), some (.int (nI c)), some (.int (nI i)), none], [.int (nI d), .ref (D.1 48), .int (nI c)])) rfl ?_
      refine Zm_ald C it_Bd_line hD 48 15 rfl (by decide) rfl (by decide) (by decide) rfl (j := d) (by omega) (v := .int (zRT d)) rfl ?_
      refine Z_run C it_Bd_line 3 (f2 := (46, [some (.ref (D.1 b)), some (.int (nI sq)), some (.int (nI d)), some (.int (nI f)), some (.long (lN acc)), none, some (.int (nI r + zUP d)), some (.int (nI c + zRT d)), some (.int (nI i)), none], [.int (nI r + zUP d)])) rfl ?_
      refine Z_br C it_Bd_line rfl rfl (fun hc2 => ?_) (fun hc2 => ?_)
      · skip
        refine Z_run C it_Bd_line 1 (f2 := (70, [some (.ref (D.1 b)), some (.int (nI sq)), some (.int (nI d)), some (.int (nI f)), some (.long (lN acc)), none, some (.int (nI r + zUP d)), some (.int (nI c + zRT d)), some (.int (nI i)), none], [.long (lN acc)])) rfl ?_
        exact Z_lret C q.e it_Bd_line rfl (by
        by_cases hz : f + 1 - i = 0
        · rw [hz] at hO; simpa [lmk] using hO
        · rw [show f + 1 - i = (f + 1 - (i + 1)) + 1 by omega] at hO
          unfold lmk at hO
          rw [show nx d r c = none by first | exact nx_o1 hr hd (Or.inl hc2) | exact nx_o1 hr hd (Or.inr hc3) | exact nx_o2 hc hd (Or.inl hc4) | exact nx_o2 hc hd (Or.inr hc5) | omega] at hO
          simpa using hO) (by decide) (by decide)
      · skip
        refine Z_run C it_Bd_line 2 (f2 := (53, [some (.ref (D.1 b)), some (.int (nI sq)), some (.int (nI d)), some (.int (nI f)), some (.long (lN acc)), none, some (.int (nI r + zUP d)), some (.int (nI c + zRT d)), some (.int (nI i)), none], [.int (nI 6), .int (nI r + zUP d)])) rfl ?_
        refine Z_br C it_Bd_line rfl rfl (fun hc3 => ?_) (fun hc3 => ?_)
        · skip
          refine Z_run C it_Bd_line 1 (f2 := (70, [some (.ref (D.1 b)), some (.int (nI sq)), some (.int (nI d)), some (.int (nI f)), some (.long (lN acc)), none, some (.int (nI r + zUP d)), some (.int (nI c + zRT d)), some (.int (nI i)), none], [.long (lN acc)])) rfl ?_
          exact Z_lret C q.e it_Bd_line rfl (by
        by_cases hz : f + 1 - i = 0
        · rw [hz] at hO; simpa [lmk] using hO
        · rw [show f + 1 - i = (f + 1 - (i + 1)) + 1 by omega] at hO
          unfold lmk at hO
          rw [show nx d r c = none by first | exact nx_o1 hr hd (Or.inl hc2) | exact nx_o1 hr hd (Or.inr hc3) | exact nx_o2 hc hd (Or.inl hc4) | exact nx_o2 hc hd (Or.inr hc5) | omega] at hO
          simpa using hO) (by decide) (by decide)
        · skip
          refine Z_run C it_Bd_line 1 (f2 := (58, [some (.ref (D.1 b)), some (.int (nI sq)), some (.int (nI d)), some (.int (nI f)), some (.long (lN acc)), none, some (.int (nI r + zUP d)), some (.int (nI c + zRT d)), some (.int (nI i)), none], [.int (nI c + zRT d)])) rfl ?_
          refine Z_br C it_Bd_line rfl rfl (fun hc4 => ?_) (fun hc4 => ?_)
          · skip
            refine Z_run C it_Bd_line 1 (f2 := (70, [some (.ref (D.1 b)), some (.int (nI sq)), some (.int (nI d)), some (.int (nI f)), some (.long (lN acc)), none, some (.int (nI r + zUP d)), some (.int (nI c + zRT d)), some (.int (nI i)), none], [.long (lN acc)])) rfl ?_
            exact Z_lret C q.e it_Bd_line rfl (by
        by_cases hz : f + 1 - i = 0
        · rw [hz] at hO; simpa [lmk] using hO
        · rw [show f + 1 - i = (f + 1 - (i + 1)) + 1 by omega] at hO
          unfold lmk at hO
          rw [show nx d r c = none by first | exact nx_o1 hr hd (Or.inl hc2) | exact nx_o1 hr hd (Or.inr hc3) | exact nx_o2 hc hd (Or.inl hc4) | exact nx_o2 hc hd (Or.inr hc5) | omega] at hO
          simpa using hO) (by decide) (by decide)
          · skip
            refine Z_run C it_Bd_line 2 (f2 := (65, [some (.ref (D.1 b)), some (.int (nI sq)), some (.int (nI d)), some (.int (nI f)), some (.long (lN acc)), none, some (.int (nI r + zUP d)), some (.int (nI c + zRT d)), some (.int (nI i)), none], [.int (nI 6), .int (nI c + zRT d)])) rfl ?_
            refine Z_br C it_Bd_line rfl rfl (fun hc5 => ?_) (fun hc5 => ?_)
            · skip
              obtain ⟨r2, c2, hn, er, ec, hr2, hc2x⟩ := nx_in hr hc hd hc2 hc3 hc4 hc5
              rw [er, ec]
              refine Z_run C it_Bd_line 3 (f2 := (76, [some (.ref (D.1 b)), some (.int (nI sq)), some (.int (nI d)), some (.int (nI f)), some (.long (lN acc)), none, some (.int (nI r2)), some (.int (nI c2)), some (.int (nI i)), none], [.int (nI 6 * nI r2)])) rfl ?_
              rw [nI_mul 6 r2]
              refine Z_run C it_Bd_line 2 (f2 := (79, [some (.ref (D.1 b)), some (.int (nI sq)), some (.int (nI d)), some (.int (nI f)), some (.long (lN acc)), none, some (.int (nI r2)), some (.int (nI c2)), some (.int (nI i)), none], [.int (nI (6 * r2) + nI c2)])) rfl ?_
              rw [nI_add (6 * r2) c2]
              refine Z_run C it_Bd_line 7 (f2 := (90, [some (.ref (D.1 b)), some (.int (nI sq)), some (.int (nI d)), some (.int (nI f)), some (.long (lN acc ||| (lN 1 <<< ((nI (6 * r2 + c2)).toInt64 &&& 63)))), none, some (.int (nI r2)), some (.int (nI c2)), some (.int (nI i)), some (.int (nI (6 * r2 + c2)))], [])) rfl ?_
              have e1 : lN acc ||| (lN 1 <<< ((nI (6 * r2 + c2)).toInt64 &&& 63)) = lN (acc ||| 2 ^ (6 * r2 + c2)) := by rw [wb_shl 1 (by omega), Nat.one_mul, lN_or (by omega) (wb_lt2 (by omega))]
              rw [e1]
              have hacc2 : acc ||| 2 ^ (6 * r2 + c2) < 2 ^ 36 := Nat.or_lt_two_pow hacc (wb_lt2 (by omega))
              have hq := hF (6 * r2 + c2) (by omega)
              refine Z_run C it_Bd_line 1 (f2 := (91, [some (.ref (D.1 b)), some (.int (nI sq)), some (.int (nI d)), some (.int (nI f)), some (.long (lN (acc ||| 2 ^ (6 * r2 + c2)))), none, some (.int (nI r2)), some (.int (nI c2)), some (.int (nI i)), some (.int (nI (6 * r2 + c2)))], [.ref (D.1 b)])) rfl ?_
              refine Zm_get C it_Bd_line hD rfl b wi_Bd (isB_i hb) (hb.1 _ _ _) rfl (j := 0) (by decide) fl_Bd_9 (v := .ref (D.1 (b + 1))) rfl ?_
              refine Z_run C it_Bd_line 1 (f2 := (96, [some (.ref (D.1 b)), some (.int (nI sq)), some (.int (nI d)), some (.int (nI f)), some (.long (lN (acc ||| 2 ^ (6 * r2 + c2)))), none, some (.int (nI r2)), some (.int (nI c2)), some (.int (nI i)), some (.int (nI (6 * r2 + c2)))], [.int (nI (6 * r2 + c2)), .ref (D.1 (b + 1))])) rfl ?_
              refine Zm_ald C it_Bd_line hD (b + 1) 10 rfl (isB_j hb) (hb.2.1 _ _ _) (by decide) (by decide) rfl (j := 6 * r2 + c2) (by omega) (v := .int (nI (bF V b (6 * r2 + c2)))) (bF_v _ _ _) ?_
              refine Z_br C it_Bd_line rfl rfl (fun hc6 => ?_) (fun hc6 => ?_)
              · replace hc6 := (nI_e0 (a := bF V b (6 * r2 + c2)) (by omega)).mp hc6
                refine Z_run C it_Bd_line 1 (f2 := (106, [some (.ref (D.1 b)), some (.int (nI sq)), some (.int (nI d)), some (.int (nI f)), some (.long (lN (acc ||| 2 ^ (6 * r2 + c2)))), none, some (.int (nI r2)), some (.int (nI c2)), some (.int (nI i + nI 1)), some (.int (nI (6 * r2 + c2)))], [])) rfl ?_
                rw [nI_add i 1]
                refine Z_run C it_Bd_line 1 (f2 := (18, [some (.ref (D.1 b)), some (.int (nI sq)), some (.int (nI d)), some (.int (nI f)), some (.long (lN (acc ||| 2 ^ (6 * r2 + c2)))), none, some (.int (nI r2)), some (.int (nI c2)), some (.int (nI (i + 1))), some (.int (nI (6 * r2 + c2)))], [])) rfl ?_
                refine Z_sub (ls2 := [some (.ref (D.1 b)), some (.int (nI sq)), some (.int (nI d)), some (.int (nI f)), some (.long (lN (acc ||| 2 ^ (6 * r2 + c2)))), none, some (.int (nI r2)), some (.int (nI c2)), some (.int (nI (i + 1))), none]) ⟨rfl, rfl, rfl, rfl, rfl, rfl, rfl, rfl, trivial⟩ ?_
                refine ih (i + 1) r2 c2 (acc ||| 2 ^ (6 * r2 + c2)) (by omega) (by omega) (by omega) hr2 hc2x hacc2 ?_
                rw [show f + 1 - i = (f + 1 - (i + 1)) + 1 by omega] at hO
                unfold lmk at hO
                rw [hn] at hO
                dsimp only at hO
                rw [if_pos hc6, ← Nat.or_assoc] at hO
                exact hO
              · replace hc6 : ¬ _ := fun z9 => hc6 ((nI_e0 (a := bF V b (6 * r2 + c2)) (by omega)).mpr z9)
                refine Z_run C it_Bd_line 1 (f2 := (102, [some (.ref (D.1 b)), some (.int (nI sq)), some (.int (nI d)), some (.int (nI f)), some (.long (lN (acc ||| 2 ^ (6 * r2 + c2)))), none, some (.int (nI r2)), some (.int (nI c2)), some (.int (nI i)), some (.int (nI (6 * r2 + c2)))], [.long (lN (acc ||| 2 ^ (6 * r2 + c2)))])) rfl ?_
                exact Z_lret C q.e it_Bd_line rfl (by
        rw [show f + 1 - i = (f + 1 - (i + 1)) + 1 by omega] at hO
        unfold lmk at hO
        rw [hn] at hO
        dsimp only at hO
        rw [if_neg hc6, Nat.or_zero] at hO
        exact hO) (by decide) (by decide)
            · skip
              refine Z_run C it_Bd_line 1 (f2 := (70, [some (.ref (D.1 b)), some (.int (nI sq)), some (.int (nI d)), some (.int (nI f)), some (.long (lN acc)), none, some (.int (nI r + zUP d)), some (.int (nI c + zRT d)), some (.int (nI i)), none], [.long (lN acc)])) rfl ?_
              exact Z_lret C q.e it_Bd_line rfl (by
        by_cases hz : f + 1 - i = 0
        · rw [hz] at hO; simpa [lmk] using hO
        · rw [show f + 1 - i = (f + 1 - (i + 1)) + 1 by omega] at hO
          unfold lmk at hO
          rw [show nx d r c = none by first | exact nx_o1 hr hd (Or.inl hc2) | exact nx_o1 hr hd (Or.inr hc3) | exact nx_o2 hc hd (Or.inl hc4) | exact nx_o2 hc hd (Or.inr hc5) | omega] at hO
          simpa using hO) (by decide) (by decide)
set_option maxRecDepth 20000 in
theorem ct_Bd_line {E : zE} (hE : zEv E) {l : Launch} (hl : l.stackTraces = false) {D : zD} (hD : zDok E D) (V : Nat → Nat → Int32) (P : Nat → Nat → Value) (PH : aH) (b : Nat) (hb : isB b) (hF : okF (bF V b)) (sq : Nat) (hsq : sq < 36) (d : Nat) (hd : d < 16) (f : Nat) (hf : f ≤ 5) (sz : Nat) : zM E l y_Bd_line [.code y_Bd_line c_Bd_line 10 (some .long)] rm_Bd_line [.ref (D.1 b), .int (nI sq), .int (nI d), .int (nI f)] (HM D V P PH) sz (zRet (some (.long (lN (lnm (bF V b) sq d f)))) (HM D V P PH) sz) := by
  refine zM_of hE hl (by decide +kernel) [some (.ref (D.1 b)), some (.int (nI sq)), some (.int (nI d)), some (.int (nI f)), none, none, none, none, none, none] ⟨rfl, rfl, Nat.le_of_ble_eq_true rfl⟩ ?_
  intro G C q htb
  refine Z_run C it_Bd_line 5 (f2 := (7, [some (.ref (D.1 b)), some (.int (nI sq)), some (.int (nI d)), some (.int (nI f)), some (.long (lN 0)), none, none, none, none, none], [.int (nI sq / nI 6)])) rfl ?_
  rw [nI_div (a := sq) (d := 6) (by omega) (by omega) (by omega)]
  refine Z_run C it_Bd_line 4 (f2 := (13, [some (.ref (D.1 b)), some (.int (nI sq)), some (.int (nI d)), some (.int (nI f)), some (.long (lN 0)), none, some (.int (nI (sq / 6))), none, none, none], [.int (nI sq % nI 6)])) rfl ?_
  rw [nI_mod (a := sq) (d := 6) (by omega) (by omega) (by omega)]
  refine Z_run C it_Bd_line 3 (f2 := (18, [some (.ref (D.1 b)), some (.int (nI sq)), some (.int (nI d)), some (.int (nI f)), some (.long (lN 0)), none, some (.int (nI (sq / 6))), some (.int (nI (sq % 6))), some (.int (nI 1)), none], [])) rfl ?_
  exact lp_Bd_line C q hD hb hF hsq hd hf (f + 2) 1 (sq / 6) (sq % 6) 0 (by omega) (by omega) (by omega) (by omega) (by omega) (by omega) (by rw [Nat.zero_or]; exact ⟨rfl, rfl, rfl⟩)
set_option maxRecDepth 20000 in
theorem lp_Bd_linesOfKind {E : zE} {G : zG} {O : zO} (C : zCx E G c_Bd_linesOfKind 6 y_Bd_linesOfKind.cls y_Bd_linesOfKind.name (some .long) rm_Bd_linesOfKind) (q : zEndX E G O rm_Bd_linesOfKind.cells rm_Bd_linesOfKind.slots)  {D : zD} (hD : zDok E D) {V : Nat → Nat → Int32} {P : Nat → Nat → Value} {PH : aH} {b : Nat} (hb : isB b) (hF : okF (bF V b)) {sq : Nat} (hsq : sq < 36) {c : Nat} (hc : c < 5) {sz : Nat} (hO : O (.inl (some (.long (lN (lok (bF V b) sq c))))) (HM D V P PH) sz) : ∀ (j i : Nat), ndN c - i < j → i ≤ ndN c → Z E G (HM D V P PH) sz 0 0 (9, [some (.ref (D.1 b)), some (.int (nI sq)), some (.int (nI c)), some (.long (lN (orp (fun t => lnm (bF V b) sq (fdN c + t) (faN c)) i))), none, some (.int (nI (fdN c + i)))], []) := by
  intro j
  induction j with
  | zero =>
    intro i h1 h2
    omega
  | succ j ih =>
    intro i h1 h2
    have hnd := nd_b c hc
    have hnc : ndN c = ldN c + 1 - fdN c := rfl
    refine Z_run C it_Bd_linesOfKind 1 (f2 := (11, [some (.ref (D.1 b)), some (.int (nI sq)), some (.int (nI c)), some (.long (lN (orp (fun t => lnm (bF V b) sq (fdN c + t) (faN c)) i))), none, some (.int (nI (fdN c + i)))], [.int (nI (fdN c + i))])) rfl ?_
    refine Z_gets C it_Bd_linesOfKind rfl hD.2.2.2.2.2.2.1 fl_Bd_64 ?_
    refine Z_run C it_Bd_linesOfKind 1 (f2 := (15, [some (.ref (D.1 b)), some (.int (nI sq)), some (.int (nI c)), some (.long (lN (orp (fun t => lnm (bF V b) sq (fdN c + t) (faN c)) i))), none, some (.int (nI (fdN c + i)))], [.int (nI c), .ref (D.1 50), .int (nI (fdN c + i))])) rfl ?_
    refine Zm_ald C it_Bd_linesOfKind hD 50 15 rfl (by decide) rfl (by decide) (by decide) rfl (j := c) (by omega) (v := .int (nI (ldN c))) (congrArg Value.int (ld_e (by omega))) ?_
    refine Z_br C it_Bd_linesOfKind rfl rfl (fun hc1 => ?_) (fun hc1 => ?_)
    · replace hc1 := (nI_ltI (a := ldN c) (b := fdN c + i) (by omega) (by omega)).mp hc1
      refine Z_run C it_Bd_linesOfKind 1 (f2 := (41, [some (.ref (D.1 b)), some (.int (nI sq)), some (.int (nI c)), some (.long (lN (orp (fun t => lnm (bF V b) sq (fdN c + t) (faN c)) i))), none, some (.int (nI (fdN c + i)))], [.long (lN (orp (fun t => lnm (bF V b) sq (fdN c + t) (faN c)) i))])) rfl ?_
      exact Z_lret C q.e it_Bd_linesOfKind rfl ((show i = ndN c by unfold ndN; omega) ▸ hO) (by decide) (by decide)
    · replace hc1 : ¬ _ := fun z9 => hc1 ((nI_ltI (a := ldN c) (b := fdN c + i) (by omega) (by omega)).mpr z9)
      refine Z_run C it_Bd_linesOfKind 4 (f2 := (24, [some (.ref (D.1 b)), some (.int (nI sq)), some (.int (nI c)), some (.long (lN (orp (fun t => lnm (bF V b) sq (fdN c + t) (faN c)) i))), none, some (.int (nI (fdN c + i)))], [.int (nI (fdN c + i)), .int (nI sq), .ref (D.1 b), .long (lN (orp (fun t => lnm (bF V b) sq (fdN c + t) (faN c)) i))])) rfl ?_
      refine Z_gets C it_Bd_linesOfKind rfl hD.2.2.2.2.2.2.2 fl_Bd_67 ?_
      refine Z_run C it_Bd_linesOfKind 1 (f2 := (28, [some (.ref (D.1 b)), some (.int (nI sq)), some (.int (nI c)), some (.long (lN (orp (fun t => lnm (bF V b) sq (fdN c + t) (faN c)) i))), none, some (.int (nI (fdN c + i)))], [.int (nI c), .ref (D.1 51), .int (nI (fdN c + i)), .int (nI sq), .ref (D.1 b), .long (lN (orp (fun t => lnm (bF V b) sq (fdN c + t) (faN c)) i))])) rfl ?_
      refine Zm_ald C it_Bd_linesOfKind hD 51 15 rfl (by decide) rfl (by decide) (by decide) rfl (j := c) (by omega) (v := .int (nI (faN c))) (congrArg Value.int (fa_e (by omega))) ?_
      refine Zr_callV C it_Bd_linesOfKind hD rfl p_Bd_line ml_Bd_70 b (isB_i hb) (hb.1 _ _ _) rfl [.int (nI sq), .int (nI (fdN c + i)), .int (nI (faN c))] (ct_Bd_line C.ev C.l hD _ _ _ b hb hF sq (by first | assumption | omega) (fdN c + i) (by first | assumption | omega) (faN c) (by first | assumption | omega) _) rfl rfl ⟨by decide, by decide, by decide, by decide⟩ (Nat.le_of_ble_eq_true rfl) rfl ?_
      show Z E G (HM D V P PH) sz 0 0 (32, [some (.ref (D.1 b)), some (.int (nI sq)), some (.int (nI c)), some (.long (lN (orp (fun t => lnm (bF V b) sq (fdN c + t) (faN c)) i))), none, some (.int (nI (fdN c + i)))], [.long (lN (lnm (bF V b) sq (fdN c + i) (faN c))), .long (lN (orp (fun t => lnm (bF V b) sq (fdN c + t) (faN c)) i))])
      refine Z_run C it_Bd_linesOfKind 3 (f2 := (37, [some (.ref (D.1 b)), some (.int (nI sq)), some (.int (nI c)), some (.long (lN (orp (fun t => lnm (bF V b) sq (fdN c + t) (faN c)) i) ||| lN (lnm (bF V b) sq (fdN c + i) (faN c)))), none, some (.int (nI (fdN c + i) + nI 1))], [])) rfl ?_
      rw [nI_add (fdN c + i) 1]
      refine Z_run C it_Bd_linesOfKind 1 (f2 := (9, [some (.ref (D.1 b)), some (.int (nI sq)), some (.int (nI c)), some (.long (lN (orp (fun t => lnm (bF V b) sq (fdN c + t) (faN c)) i) ||| lN (lnm (bF V b) sq (fdN c + i) (faN c)))), none, some (.int (nI (fdN c + i + 1)))], [])) rfl ?_
      have e1 : lN (orp (fun t => lnm (bF V b) sq (fdN c + t) (faN c)) i) ||| lN (lnm (bF V b) sq (fdN c + i) (faN c)) = lN (orp (fun t => lnm (bF V b) sq (fdN c + t) (faN c)) (i + 1)) := by rw [lN_or (by have := orp_lt (f := (fun t => lnm (bF V b) sq (fdN c + t) (faN c))) (n := i) (c := 36) (fun _ _ => lnm_lt _ _ _ _); omega) (by have := lnm_lt (bF V b) sq (fdN c + i) (faN c); omega)]; rfl
      rw [e1]
      have e2 : nI (fdN c + i + 1) = nI (fdN c + (i + 1)) := by rw [Nat.add_assoc]
      rw [e2]
      exact ih (i + 1) (by omega) (by omega)
set_option maxRecDepth 20000 in
theorem ct_Bd_linesOfKind {E : zE} (hE : zEv E) {l : Launch} (hl : l.stackTraces = false) {D : zD} (hD : zDok E D) (V : Nat → Nat → Int32) (P : Nat → Nat → Value) (PH : aH) (b : Nat) (hb : isB b) (hF : okF (bF V b)) (sq : Nat) (hsq : sq < 36) (c : Nat) (hc : c < 5) (sz : Nat) : zM E l y_Bd_linesOfKind [.code y_Bd_linesOfKind c_Bd_linesOfKind 6 (some .long)] rm_Bd_linesOfKind [.ref (D.1 b), .int (nI sq), .int (nI c)] (HM D V P PH) sz (zRet (some (.long (lN (lok (bF V b) sq c)))) (HM D V P PH) sz) := by
  refine zM_of hE hl (by decide +kernel) [some (.ref (D.1 b)), some (.int (nI sq)), some (.int (nI c)), none, none, none] ⟨rfl, rfl, Nat.le_of_ble_eq_true rfl⟩ ?_
  intro G C q htb
  refine Z_run C it_Bd_linesOfKind 2 (f2 := (2, [some (.ref (D.1 b)), some (.int (nI sq)), some (.int (nI c)), some (.long (lN 0)), none, none], [])) rfl ?_
  refine Z_gets C it_Bd_linesOfKind rfl hD.2.2.2.2.2.1 fl_Bd_61 ?_
  refine Z_run C it_Bd_linesOfKind 1 (f2 := (6, [some (.ref (D.1 b)), some (.int (nI sq)), some (.int (nI c)), some (.long (lN 0)), none, none], [.int (nI c), .ref (D.1 49)])) rfl ?_
  refine Zm_ald C it_Bd_linesOfKind hD 49 15 rfl (by decide) rfl (by decide) (by decide) rfl (j := c) (by omega) (v := .int (nI (fdN c))) (congrArg Value.int (fd_e (by omega))) ?_
  refine Z_run C it_Bd_linesOfKind 1 (f2 := (9, [some (.ref (D.1 b)), some (.int (nI sq)), some (.int (nI c)), some (.long (lN 0)), none, some (.int (nI (fdN c)))], [])) rfl ?_
  exact lp_Bd_linesOfKind C q hD hb hF hsq hc ⟨rfl, rfl, rfl⟩ (ndN c + 1) 0 (by omega) (by omega)
set_option maxRecDepth 20000 in
theorem lp_Bd_guardedFrom {E : zE} {G : zG} {O : zO} (C : zCx E G c_Bd_guardedFrom 5 y_Bd_guardedFrom.cls y_Bd_guardedFrom.name (some .long) rm_Bd_guardedFrom) (q : zEndX E G O rm_Bd_guardedFrom.cells rm_Bd_guardedFrom.slots)  {D : zD} (hD : zDok E D) {V : Nat → Nat → Int32} {P : Nat → Nat → Value} {PH : aH} {b : Nat} (hb : isB b) (hF : okF (bF V b)) {sq : Nat} (hsq : sq < 36) {sz : Nat} (hO : O (.inl (some (.long (lN (gfr (bF V b) sq))))) (HM D V P PH) sz) : ∀ (j i : Nat), 5 - i < j → i ≤ 5 → Z E G (HM D V P PH) sz 0 0 (5, [some (.ref (D.1 b)), some (.int (nI sq)), some (.long (lN (orp (fun i => if kn (bF V b sq) i then lok (bF V b) sq i else 0) i))), none, some (.int (nI i))], []) := by
  intro j
  induction j with
  | zero =>
    intro i h1 h2
    omega
  | succ j ih =>
    intro i h1 h2
    refine Z_run C it_Bd_guardedFrom 2 (f2 := (8, [some (.ref (D.1 b)), some (.int (nI sq)), some (.long (lN (orp (fun i => if kn (bF V b sq) i then lok (bF V b) sq i else 0) i))), none, some (.int (nI i))], [.int (nI 5), .int (nI i)])) rfl ?_
    refine Z_br C it_Bd_guardedFrom rfl rfl (fun hc1 => ?_) (fun hc1 => ?_)
    · replace hc1 := (nI_leI (a := 5) (b := i) (by omega) (by omega)).mp hc1
      refine Z_run C it_Bd_guardedFrom 1 (f2 := (42, [some (.ref (D.1 b)), some (.int (nI sq)), some (.long (lN (orp (fun i => if kn (bF V b sq) i then lok (bF V b) sq i else 0) i))), none, some (.int (nI i))], [.long (lN (orp (fun i => if kn (bF V b sq) i then lok (bF V b) sq i else 0) i))])) rfl ?_
      exact Z_lret C q.e it_Bd_guardedFrom rfl ((show i = 5 by omega) ▸ hO) (by decide) (by decide)
    · replace hc1 : ¬ _ := fun z9 => hc1 ((nI_leI (a := 5) (b := i) (by omega) (by omega)).mpr z9)
      refine Z_run C it_Bd_guardedFrom 1 (f2 := (12, [some (.ref (D.1 b)), some (.int (nI sq)), some (.long (lN (orp (fun i => if kn (bF V b sq) i then lok (bF V b) sq i else 0) i))), none, some (.int (nI i))], [.ref (D.1 b)])) rfl ?_
      refine Zm_get C it_Bd_guardedFrom hD rfl b wi_Bd (isB_i hb) (hb.1 _ _ _) rfl (j := 0) (by decide) fl_Bd_9 (v := .ref (D.1 (b + 1))) rfl ?_
      refine Z_run C it_Bd_guardedFrom 1 (f2 := (16, [some (.ref (D.1 b)), some (.int (nI sq)), some (.long (lN (orp (fun i => if kn (bF V b sq) i then lok (bF V b) sq i else 0) i))), none, some (.int (nI i))], [.int (nI sq), .ref (D.1 (b + 1))])) rfl ?_
      refine Zm_ald C it_Bd_guardedFrom hD (b + 1) 10 rfl (isB_j hb) (hb.2.1 _ _ _) (by decide) (by decide) rfl (j := sq) (by omega) (v := .int (nI (bF V b sq))) (bF_v _ _ _) ?_
      refine Z_run C it_Bd_guardedFrom 1 (f2 := (19, [some (.ref (D.1 b)), some (.int (nI sq)), some (.long (lN (orp (fun i => if kn (bF V b sq) i then lok (bF V b) sq i else 0) i))), none, some (.int (nI i))], [.int (nI i), .int (nI (bF V b sq))])) rfl ?_
      refine Zr_callS C it_Bd_guardedFrom rfl p_Pc_knows ml_Bd_45 [.int (nI (bF V b sq)), .int (nI i)] (ct_Pc_knows C.ev C.l (bF V b sq) (by first | assumption | omega | exact hF _ (by omega)) i (by omega) _ _) rfl rfl ⟨by decide, by decide, by decide, by decide⟩ (Nat.le_of_ble_eq_true rfl) rfl ?_
      show Z E G (HM D V P PH) sz 0 0 (22, [some (.ref (D.1 b)), some (.int (nI sq)), some (.long (lN (orp (fun i => if kn (bF V b sq) i then lok (bF V b) sq i else 0) i))), none, some (.int (nI i))], [.int (bI (kn (bF V b sq) i))])
      refine Z_br C it_Bd_guardedFrom rfl rfl (fun hc2 => ?_) (fun hc2 => ?_)
      · replace hc2 := bI_0.mp hc2
        refine Z_run C it_Bd_guardedFrom 1 (f2 := (38, [some (.ref (D.1 b)), some (.int (nI sq)), some (.long (lN (orp (fun i => if kn (bF V b sq) i then lok (bF V b) sq i else 0) i))), none, some (.int (nI i + nI 1))], [])) rfl ?_
        rw [nI_add i 1]
        refine Z_run C it_Bd_guardedFrom 1 (f2 := (5, [some (.ref (D.1 b)), some (.int (nI sq)), some (.long (lN (orp (fun i => if kn (bF V b sq) i then lok (bF V b) sq i else 0) i))), none, some (.int (nI (i + 1)))], [])) rfl ?_
        have e1 : lN (orp (fun i => if kn (bF V b sq) i then lok (bF V b) sq i else 0) i) = lN (orp (fun i => if kn (bF V b sq) i then lok (bF V b) sq i else 0) (i + 1)) := by simp [orp, hc2]
        rw [e1]
        exact ih (i + 1) (by omega) (by omega)
      · replace hc2 := bI_1.mp hc2
        refine Z_run C it_Bd_guardedFrom 4 (f2 := (30, [some (.ref (D.1 b)), some (.int (nI sq)), some (.long (lN (orp (fun i => if kn (bF V b sq) i then lok (bF V b) sq i else 0) i))), none, some (.int (nI i))], [.int (nI i), .int (nI sq), .ref (D.1 b), .long (lN (orp (fun i => if kn (bF V b sq) i then lok (bF V b) sq i else 0) i))])) rfl ?_
        refine Zr_callV C it_Bd_guardedFrom hD rfl p_Bd_linesOfKind ml_Bd_74 b (isB_i hb) (hb.1 _ _ _) rfl [.int (nI sq), .int (nI i)] (ct_Bd_linesOfKind C.ev C.l hD _ _ _ b hb hF sq (by first | assumption | omega) i (by first | assumption | omega) _) rfl rfl ⟨by decide, by decide, by decide, by decide⟩ (Nat.le_of_ble_eq_true rfl) rfl ?_
        show Z E G (HM D V P PH) sz 0 0 (33, [some (.ref (D.1 b)), some (.int (nI sq)), some (.long (lN (orp (fun i => if kn (bF V b sq) i then lok (bF V b) sq i else 0) i))), none, some (.int (nI i))], [.long (lN (lok (bF V b) sq i)), .long (lN (orp (fun i => if kn (bF V b sq) i then lok (bF V b) sq i else 0) i))])
        refine Z_run C it_Bd_guardedFrom 3 (f2 := (38, [some (.ref (D.1 b)), some (.int (nI sq)), some (.long (lN (orp (fun i => if kn (bF V b sq) i then lok (bF V b) sq i else 0) i) ||| lN (lok (bF V b) sq i))), none, some (.int (nI i + nI 1))], [])) rfl ?_
        rw [nI_add i 1]
        refine Z_run C it_Bd_guardedFrom 1 (f2 := (5, [some (.ref (D.1 b)), some (.int (nI sq)), some (.long (lN (orp (fun i => if kn (bF V b sq) i then lok (bF V b) sq i else 0) i) ||| lN (lok (bF V b) sq i))), none, some (.int (nI (i + 1)))], [])) rfl ?_
        have e2 : lN (orp (fun i => if kn (bF V b sq) i then lok (bF V b) sq i else 0) i) ||| lN (lok (bF V b) sq i) = lN (orp (fun i => if kn (bF V b sq) i then lok (bF V b) sq i else 0) (i + 1)) := by rw [lN_or (by have := orp_lt (f := (fun i => if kn (bF V b sq) i then lok (bF V b) sq i else 0)) (n := i) (c := 36) (fun _ _ => by split; exact lok_lt _ _ _; exact Nat.two_pow_pos 36); omega) (by have := lok_lt (bF V b) sq i; omega)]; simp [orp, hc2]
        rw [e2]
        exact ih (i + 1) (by omega) (by omega)
set_option maxRecDepth 20000 in
theorem ct_Bd_guardedFrom {E : zE} (hE : zEv E) {l : Launch} (hl : l.stackTraces = false) {D : zD} (hD : zDok E D) (V : Nat → Nat → Int32) (P : Nat → Nat → Value) (PH : aH) (b : Nat) (hb : isB b) (hF : okF (bF V b)) (sq : Nat) (hsq : sq < 36) (sz : Nat) : zM E l y_Bd_guardedFrom [.code y_Bd_guardedFrom c_Bd_guardedFrom 5 (some .long)] rm_Bd_guardedFrom [.ref (D.1 b), .int (nI sq)] (HM D V P PH) sz (zRet (some (.long (lN (gfr (bF V b) sq)))) (HM D V P PH) sz) := by
  refine zM_of hE hl (by decide +kernel) [some (.ref (D.1 b)), some (.int (nI sq)), none, none, none] ⟨rfl, rfl, Nat.le_of_ble_eq_true rfl⟩ ?_
  intro G C q htb
  refine Z_run C it_Bd_guardedFrom 4 (f2 := (5, [some (.ref (D.1 b)), some (.int (nI sq)), some (.long (lN 0)), none, some (.int (nI 0))], [])) rfl ?_
  exact lp_Bd_guardedFrom C q hD hb hF hsq ⟨rfl, rfl, rfl⟩ 6 0 (by omega) (by omega)
set_option maxRecDepth 20000 in
theorem ct_Bd_reachFrom {E : zE} (hE : zEv E) {l : Launch} (hl : l.stackTraces = false) {D : zD} (hD : zDok E D) (V : Nat → Nat → Int32) (P : Nat → Nat → Value) (PH : aH) (b : Nat) (hb : isB b) (hF : okF (bF V b)) (sq : Nat) (hsq : sq < 36) (sz : Nat) : zM E l y_Bd_reachFrom [.code y_Bd_reachFrom c_Bd_reachFrom 2 (some .long)] rm_Bd_reachFrom [.ref (D.1 b), .int (nI sq)] (HM D V P PH) sz (zRet (some (.long (lN (gfa (bF V b) sq (sd (bF V b sq)))))) (HM D V P PH) sz) := by
  refine zM_of hE hl (by decide +kernel) [some (.ref (D.1 b)), some (.int (nI sq))] ⟨rfl, rfl, Nat.le_of_ble_eq_true rfl⟩ ?_
  intro G C q htb
  have hsd := sd_le (bF V b sq)
  refine Z_run C it_Bd_reachFrom 2 (f2 := (2, [some (.ref (D.1 b)), some (.int (nI sq))], [.int (nI sq), .ref (D.1 b)])) rfl ?_
  refine Zr_callV C it_Bd_reachFrom hD rfl p_Bd_guardedFrom ml_Bd_78 b (isB_i hb) (hb.1 _ _ _) rfl [.int (nI sq)] (ct_Bd_guardedFrom C.ev C.l hD _ _ _ b hb hF sq (by first | assumption | omega) _) rfl rfl ⟨by decide, by decide, by decide, by decide⟩ (Nat.le_of_ble_eq_true rfl) rfl ?_
  show Z E G (HM D V P PH) sz 0 0 (5, [some (.ref (D.1 b)), some (.int (nI sq))], [.long (lN (gfr (bF V b) sq))])
  refine Z_run C it_Bd_reachFrom 2 (f2 := (7, [some (.ref (D.1 b)), some (.int (nI sq))], [.ref (D.1 b), .ref (D.1 b), .long (lN (gfr (bF V b) sq))])) rfl ?_
  refine Zm_get C it_Bd_reachFrom hD rfl b wi_Bd (isB_i hb) (hb.1 _ _ _) rfl (j := 0) (by decide) fl_Bd_9 (v := .ref (D.1 (b + 1))) rfl ?_
  refine Z_run C it_Bd_reachFrom 1 (f2 := (11, [some (.ref (D.1 b)), some (.int (nI sq))], [.int (nI sq), .ref (D.1 (b + 1)), .ref (D.1 b), .long (lN (gfr (bF V b) sq))])) rfl ?_
  refine Zm_ald C it_Bd_reachFrom hD (b + 1) 10 rfl (isB_j hb) (hb.2.1 _ _ _) (by decide) (by decide) rfl (j := sq) (by omega) (v := .int (nI (bF V b sq))) (bF_v _ _ _) ?_
  refine Zr_callS C it_Bd_reachFrom rfl p_Pc_sideOf ml_Bd_27 [.int (nI (bF V b sq))] (ct_Pc_sideOf C.ev C.l (bF V b sq) (by first | assumption | omega | exact hF _ (by omega)) _ _) rfl rfl ⟨by decide, by decide, by decide, by decide⟩ (Nat.le_of_ble_eq_true rfl) rfl ?_
  show Z E G (HM D V P PH) sz 0 0 (15, [some (.ref (D.1 b)), some (.int (nI sq))], [.int (nI (sd (bF V b sq))), .ref (D.1 b), .long (lN (gfr (bF V b) sq))])
  refine Zr_callV C it_Bd_reachFrom hD rfl p_Bd_squaresOf ml_Bd_35 b (isB_i hb) (hb.1 _ _ _) rfl [.int (nI (sd (bF V b sq)))] (ct_Bd_squaresOf C.ev C.l hD _ _ _ b hb hF (sd (bF V b sq)) (by first | assumption | omega) _) rfl rfl ⟨by decide, by decide, by decide, by decide⟩ (Nat.le_of_ble_eq_true rfl) rfl ?_
  show Z E G (HM D V P PH) sz 0 0 (18, [some (.ref (D.1 b)), some (.int (nI sq))], [.long (lN (sqs (bF V b) (sd (bF V b sq)))), .long (lN (gfr (bF V b) sq))])
  refine Z_ldc2 C it_Bd_reachFrom rfl cl_Bd_81 ?_
  refine Z_run C it_Bd_reachFrom 2 (f2 := (23, [some (.ref (D.1 b)), some (.int (nI sq))], [.long (lN (gfr (bF V b) sq) &&& (lN (sqs (bF V b) (sd (bF V b sq))) ^^^ (-1)))])) rfl ?_
  have e1 : lN (gfr (bF V b) sq) &&& (lN (sqs (bF V b) (sd (bF V b sq))) ^^^ (-1)) = lN (gfa (bF V b) sq (sd (bF V b sq))) := lN_not (gfr_lt _ _) (sqs_lt _ _)
  rw [e1]
  exact Z_lret C q.e it_Bd_reachFrom rfl (zRet_l rfl) (by decide) (by decide)
set_option maxRecDepth 20000 in
theorem ct_Bd_countOf {E : zE} (hE : zEv E) {l : Launch} (hl : l.stackTraces = false) {D : zD} (hD : zDok E D) (V : Nat → Nat → Int32) (P : Nat → Nat → Value) (PH : aH) (b : Nat) (hb : isB b) (hF : okF (bF V b)) (s : Nat) (hs : s < 2) (sz : Nat) : zM E l y_Bd_countOf [.code y_Bd_countOf c_Bd_countOf 2 (some .int)] rm_Bd_countOf [.ref (D.1 b), .int (nI s)] (HM D V P PH) sz (zRet (some (.int (nI (popc (sqs (bF V b) s))))) (HM D V P PH) sz) := by
  refine zM_of hE hl (by decide +kernel) [some (.ref (D.1 b)), some (.int (nI s))] ⟨rfl, rfl, Nat.le_of_ble_eq_true rfl⟩ ?_
  intro G C q htb
  refine Z_run C it_Bd_countOf 2 (f2 := (2, [some (.ref (D.1 b)), some (.int (nI s))], [.int (nI s), .ref (D.1 b)])) rfl ?_
  refine Zr_callV C it_Bd_countOf hD rfl p_Bd_squaresOf ml_Bd_35 b (isB_i hb) (hb.1 _ _ _) rfl [.int (nI s)] (ct_Bd_squaresOf C.ev C.l hD _ _ _ b hb hF s (by first | assumption | omega) _) rfl rfl ⟨by decide, by decide, by decide, by decide⟩ (Nat.le_of_ble_eq_true rfl) rfl ?_
  show Z E G (HM D V P PH) sz 0 0 (5, [some (.ref (D.1 b)), some (.int (nI s))], [.long (lN (sqs (bF V b) s))])
  refine Zr_callS C it_Bd_countOf rfl p_Jl_bitCount ml_Bd_39 [.long (lN (sqs (bF V b) s))] (ct_Jl_bitCount C.ev C.l ((sqs (bF V b) s)) (by first | assumption | exact sqs_lt _ _ | exact knw_lt _ _ _ | exact gfa_lt _ _ _ | exact gsf_lt _ _ _) _ _) rfl rfl ⟨by decide, by decide, by decide, by decide⟩ (Nat.le_of_ble_eq_true rfl) rfl ?_
  show Z E G (HM D V P PH) sz 0 0 (8, [some (.ref (D.1 b)), some (.int (nI s))], [.int (nI (popc ((sqs (bF V b) s))))])
  exact Z_iret C q.e it_Bd_countOf rfl (zRet_i rfl) (by decide) (by decide)
set_option maxRecDepth 20000 in
theorem lp_Bd_movesOf {E : zE} {G : zG} {O : zO} (C : zCx E G c_Bd_movesOf 6 y_Bd_movesOf.cls y_Bd_movesOf.name (some .int) rm_Bd_movesOf) (q : zEndX E G O rm_Bd_movesOf.cells rm_Bd_movesOf.slots)  {D : zD} (hD : zDok E D) {V : Nat → Nat → Int32} {P : Nat → Nat → Value} {PH : aH} {b : Nat} (hb : isB b) (hF : okF (bF V b)) {s : Nat} (hs : s < 2) {sz : Nat} (hO : O (.inl (some (.int (nI (mvs (bF V b) s 36))))) (HM D V P PH) sz) : ∀ (j i : Nat), 36 - i < j → i ≤ 36 → Z E G (HM D V P PH) sz 0 0 (11, [some (.ref (D.1 b)), some (.int (nI s)), some (.int (nI (mvs (bF V b) s i))), some (.long (lN (sqs (bF V b) s))), none, some (.int (nI i))], []) := by
  intro j
  induction j with
  | zero =>
    intro i h1 h2
    omega
  | succ j ih =>
    intro i h1 h2
    have hsd := fun k => sd_le (bF V b k)
    refine Z_run C it_Bd_movesOf 2 (f2 := (15, [some (.ref (D.1 b)), some (.int (nI s)), some (.int (nI (mvs (bF V b) s i))), some (.long (lN (sqs (bF V b) s))), none, some (.int (nI i))], [.int (nI 36), .int (nI i)])) rfl ?_
    refine Z_br C it_Bd_movesOf rfl rfl (fun hc1 => ?_) (fun hc1 => ?_)
    · replace hc1 := (nI_leI (a := 36) (b := i) (by omega) (by omega)).mp hc1
      refine Z_run C it_Bd_movesOf 1 (f2 := (53, [some (.ref (D.1 b)), some (.int (nI s)), some (.int (nI (mvs (bF V b) s i))), some (.long (lN (sqs (bF V b) s))), none, some (.int (nI i))], [.int (nI (mvs (bF V b) s i))])) rfl ?_
      exact Z_iret C q.e it_Bd_movesOf rfl ((show i = 36 by omega) ▸ hO) (by decide) (by decide)
    · replace hc1 : ¬ _ := fun z9 => hc1 ((nI_leI (a := 36) (b := i) (by omega) (by omega)).mpr z9)
      refine Z_run C it_Bd_movesOf 3 (f2 := (22, [some (.ref (D.1 b)), some (.int (nI s)), some (.int (nI (mvs (bF V b) s i))), some (.long (lN (sqs (bF V b) s))), none, some (.int (nI i))], [.int (nI s), .int (nI i), .ref (D.1 b)])) rfl ?_
      refine Zr_callV C it_Bd_movesOf hD rfl p_Bd_holds ml_Bd_31 b (isB_i hb) (hb.1 _ _ _) rfl [.int (nI i), .int (nI s)] (ct_Bd_holds C.ev C.l hD _ _ _ b hb hF i (by first | assumption | omega) s (by first | assumption | omega) _) rfl rfl ⟨by decide, by decide, by decide, by decide⟩ (Nat.le_of_ble_eq_true rfl) rfl ?_
      show Z E G (HM D V P PH) sz 0 0 (25, [some (.ref (D.1 b)), some (.int (nI s)), some (.int (nI (mvs (bF V b) s i))), some (.long (lN (sqs (bF V b) s))), none, some (.int (nI i))], [.int (bI (hld (bF V b) i s))])
      refine Z_br C it_Bd_movesOf rfl rfl (fun hc2 => ?_) (fun hc2 => ?_)
      · replace hc2 := bI_0.mp hc2
        refine Z_run C it_Bd_movesOf 1 (f2 := (49, [some (.ref (D.1 b)), some (.int (nI s)), some (.int (nI (mvs (bF V b) s i))), some (.long (lN (sqs (bF V b) s))), none, some (.int (nI i + nI 1))], [])) rfl ?_
        rw [nI_add i 1]
        refine Z_run C it_Bd_movesOf 1 (f2 := (11, [some (.ref (D.1 b)), some (.int (nI s)), some (.int (nI (mvs (bF V b) s i))), some (.long (lN (sqs (bF V b) s))), none, some (.int (nI (i + 1)))], [])) rfl ?_
        have e1 : nI (mvs (bF V b) s i) = nI (mvs (bF V b) s (i + 1)) := by simp [mvs, smp, hc2]
        rw [e1]
        exact ih (i + 1) (by omega) (by omega)
      · replace hc2 := bI_1.mp hc2
        refine Z_run C it_Bd_movesOf 3 (f2 := (32, [some (.ref (D.1 b)), some (.int (nI s)), some (.int (nI (mvs (bF V b) s i))), some (.long (lN (sqs (bF V b) s))), none, some (.int (nI i))], [.int (nI i), .ref (D.1 b), .int (nI (mvs (bF V b) s i))])) rfl ?_
        refine Zr_callV C it_Bd_movesOf hD rfl p_Bd_guardedFrom ml_Bd_78 b (isB_i hb) (hb.1 _ _ _) rfl [.int (nI i)] (ct_Bd_guardedFrom C.ev C.l hD _ _ _ b hb hF i (by first | assumption | omega) _) rfl rfl ⟨by decide, by decide, by decide, by decide⟩ (Nat.le_of_ble_eq_true rfl) rfl ?_
        show Z E G (HM D V P PH) sz 0 0 (35, [some (.ref (D.1 b)), some (.int (nI s)), some (.int (nI (mvs (bF V b) s i))), some (.long (lN (sqs (bF V b) s))), none, some (.int (nI i))], [.long (lN (gfr (bF V b) i)), .int (nI (mvs (bF V b) s i))])
        refine Z_run C it_Bd_movesOf 1 (f2 := (36, [some (.ref (D.1 b)), some (.int (nI s)), some (.int (nI (mvs (bF V b) s i))), some (.long (lN (sqs (bF V b) s))), none, some (.int (nI i))], [.long (lN (sqs (bF V b) s)), .long (lN (gfr (bF V b) i)), .int (nI (mvs (bF V b) s i))])) rfl ?_
        refine Z_ldc2 C it_Bd_movesOf rfl cl_Bd_81 ?_
        refine Z_run C it_Bd_movesOf 2 (f2 := (41, [some (.ref (D.1 b)), some (.int (nI s)), some (.int (nI (mvs (bF V b) s i))), some (.long (lN (sqs (bF V b) s))), none, some (.int (nI i))], [.long (lN (gfr (bF V b) i) &&& (lN (sqs (bF V b) s) ^^^ (-1))), .int (nI (mvs (bF V b) s i))])) rfl ?_
        have e2 : lN (gfr (bF V b) i) &&& (lN (sqs (bF V b) s) ^^^ (-1)) = lN (gfa (bF V b) i s) := lN_not (gfr_lt _ _) (sqs_lt _ _)
        rw [e2]
        refine Zr_callS C it_Bd_movesOf rfl p_Jl_bitCount ml_Bd_39 [.long (lN (gfa (bF V b) i s))] (ct_Jl_bitCount C.ev C.l ((gfa (bF V b) i s)) (by first | assumption | exact sqs_lt _ _ | exact knw_lt _ _ _ | exact gfa_lt _ _ _ | exact gsf_lt _ _ _) _ _) rfl rfl ⟨by decide, by decide, by decide, by decide⟩ (Nat.le_of_ble_eq_true rfl) rfl ?_
        show Z E G (HM D V P PH) sz 0 0 (44, [some (.ref (D.1 b)), some (.int (nI s)), some (.int (nI (mvs (bF V b) s i))), some (.long (lN (sqs (bF V b) s))), none, some (.int (nI i))], [.int (nI (popc ((gfa (bF V b) i s)))), .int (nI (mvs (bF V b) s i))])
        refine Z_run C it_Bd_movesOf 1 (f2 := (45, [some (.ref (D.1 b)), some (.int (nI s)), some (.int (nI (mvs (bF V b) s i))), some (.long (lN (sqs (bF V b) s))), none, some (.int (nI i))], [.int (nI (mvs (bF V b) s i) + nI (popc ((gfa (bF V b) i s))))])) rfl ?_
        rw [nI_add (mvs (bF V b) s i) (popc ((gfa (bF V b) i s)))]
        refine Z_run C it_Bd_movesOf 2 (f2 := (49, [some (.ref (D.1 b)), some (.int (nI s)), some (.int (nI (mvs (bF V b) s i + popc ((gfa (bF V b) i s))))), some (.long (lN (sqs (bF V b) s))), none, some (.int (nI i + nI 1))], [])) rfl ?_
        rw [nI_add i 1]
        refine Z_run C it_Bd_movesOf 1 (f2 := (11, [some (.ref (D.1 b)), some (.int (nI s)), some (.int (nI (mvs (bF V b) s i + popc ((gfa (bF V b) i s))))), some (.long (lN (sqs (bF V b) s))), none, some (.int (nI (i + 1)))], [])) rfl ?_
        have e3 : nI (mvs (bF V b) s i + popc ((gfa (bF V b) i s))) = nI (mvs (bF V b) s (i + 1)) := by simp [mvs, smp, hc2]
        rw [e3]
        exact ih (i + 1) (by omega) (by omega)
set_option maxRecDepth 20000 in
theorem ct_Bd_movesOf {E : zE} (hE : zEv E) {l : Launch} (hl : l.stackTraces = false) {D : zD} (hD : zDok E D) (V : Nat → Nat → Int32) (P : Nat → Nat → Value) (PH : aH) (b : Nat) (hb : isB b) (hF : okF (bF V b)) (s : Nat) (hs : s < 2) (sz : Nat) : zM E l y_Bd_movesOf [.code y_Bd_movesOf c_Bd_movesOf 6 (some .int)] rm_Bd_movesOf [.ref (D.1 b), .int (nI s)] (HM D V P PH) sz (zRet (some (.int (nI (mvs (bF V b) s 36)))) (HM D V P PH) sz) := by
  refine zM_of hE hl (by decide +kernel) [some (.ref (D.1 b)), some (.int (nI s)), none, none, none, none] ⟨rfl, rfl, Nat.le_of_ble_eq_true rfl⟩ ?_
  intro G C q htb
  refine Z_run C it_Bd_movesOf 4 (f2 := (4, [some (.ref (D.1 b)), some (.int (nI s)), some (.int (nI 0)), none, none, none], [.int (nI s), .ref (D.1 b)])) rfl ?_
  refine Zr_callV C it_Bd_movesOf hD rfl p_Bd_squaresOf ml_Bd_35 b (isB_i hb) (hb.1 _ _ _) rfl [.int (nI s)] (ct_Bd_squaresOf C.ev C.l hD _ _ _ b hb hF s (by first | assumption | omega) _) rfl rfl ⟨by decide, by decide, by decide, by decide⟩ (Nat.le_of_ble_eq_true rfl) rfl ?_
  show Z E G (HM D V P PH) sz 0 0 (7, [some (.ref (D.1 b)), some (.int (nI s)), some (.int (nI 0)), none, none, none], [.long (lN (sqs (bF V b) s))])
  refine Z_run C it_Bd_movesOf 3 (f2 := (11, [some (.ref (D.1 b)), some (.int (nI s)), some (.int (nI 0)), some (.long (lN (sqs (bF V b) s))), none, some (.int (nI 0))], [])) rfl ?_
  exact lp_Bd_movesOf C q hD hb hF hs ⟨rfl, rfl, rfl⟩ 37 0 (by omega) (by omega)
set_option maxRecDepth 20000 in
theorem lp_Bd_guardedBy {E : zE} {G : zG} {O : zO} (C : zCx E G c_Bd_guardedBy 5 y_Bd_guardedBy.cls y_Bd_guardedBy.name (some .long) rm_Bd_guardedBy) (q : zEndX E G O rm_Bd_guardedBy.cells rm_Bd_guardedBy.slots)  {D : zD} (hD : zDok E D) {V : Nat → Nat → Int32} {P : Nat → Nat → Value} {PH : aH} {b : Nat} (hb : isB b) (hF : okF (bF V b)) {s : Nat} (hs : s < 2) {sz : Nat} (hO : O (.inl (some (.long (lN (gby (bF V b) s 36))))) (HM D V P PH) sz) : ∀ (j i : Nat), 36 - i < j → i ≤ 36 → Z E G (HM D V P PH) sz 0 0 (5, [some (.ref (D.1 b)), some (.int (nI s)), some (.long (lN (gby (bF V b) s i))), none, some (.int (nI i))], []) := by
  intro j
  induction j with
  | zero =>
    intro i h1 h2
    omega
  | succ j ih =>
    intro i h1 h2
    have hsd := fun k => sd_le (bF V b k)
    refine Z_run C it_Bd_guardedBy 2 (f2 := (9, [some (.ref (D.1 b)), some (.int (nI s)), some (.long (lN (gby (bF V b) s i))), none, some (.int (nI i))], [.int (nI 36), .int (nI i)])) rfl ?_
    refine Z_br C it_Bd_guardedBy rfl rfl (fun hc1 => ?_) (fun hc1 => ?_)
    · replace hc1 := (nI_leI (a := 36) (b := i) (by omega) (by omega)).mp hc1
      refine Z_run C it_Bd_guardedBy 1 (f2 := (38, [some (.ref (D.1 b)), some (.int (nI s)), some (.long (lN (gby (bF V b) s i))), none, some (.int (nI i))], [.long (lN (gby (bF V b) s i))])) rfl ?_
      exact Z_lret C q.e it_Bd_guardedBy rfl ((show i = 36 by omega) ▸ hO) (by decide) (by decide)
    · replace hc1 : ¬ _ := fun z9 => hc1 ((nI_leI (a := 36) (b := i) (by omega) (by omega)).mpr z9)
      refine Z_run C it_Bd_guardedBy 3 (f2 := (16, [some (.ref (D.1 b)), some (.int (nI s)), some (.long (lN (gby (bF V b) s i))), none, some (.int (nI i))], [.int (nI s), .int (nI i), .ref (D.1 b)])) rfl ?_
      refine Zr_callV C it_Bd_guardedBy hD rfl p_Bd_holds ml_Bd_31 b (isB_i hb) (hb.1 _ _ _) rfl [.int (nI i), .int (nI s)] (ct_Bd_holds C.ev C.l hD _ _ _ b hb hF i (by first | assumption | omega) s (by first | assumption | omega) _) rfl rfl ⟨by decide, by decide, by decide, by decide⟩ (Nat.le_of_ble_eq_true rfl) rfl ?_
      show Z E G (HM D V P PH) sz 0 0 (19, [some (.ref (D.1 b)), some (.int (nI s)), some (.long (lN (gby (bF V b) s i))), none, some (.int (nI i))], [.int (bI (hld (bF V b) i s))])
      refine Z_br C it_Bd_guardedBy rfl rfl (fun hc2 => ?_) (fun hc2 => ?_)
      · replace hc2 := bI_0.mp hc2
        refine Z_run C it_Bd_guardedBy 1 (f2 := (34, [some (.ref (D.1 b)), some (.int (nI s)), some (.long (lN (gby (bF V b) s i))), none, some (.int (nI i + nI 1))], [])) rfl ?_
        rw [nI_add i 1]
        refine Z_run C it_Bd_guardedBy 1 (f2 := (5, [some (.ref (D.1 b)), some (.int (nI s)), some (.long (lN (gby (bF V b) s i))), none, some (.int (nI (i + 1)))], [])) rfl ?_
        have e1 : lN (gby (bF V b) s i) = lN (gby (bF V b) s (i + 1)) := by simp [gby, orp, hc2]
        rw [e1]
        exact ih (i + 1) (by omega) (by omega)
      · replace hc2 := bI_1.mp hc2
        refine Z_run C it_Bd_guardedBy 3 (f2 := (26, [some (.ref (D.1 b)), some (.int (nI s)), some (.long (lN (gby (bF V b) s i))), none, some (.int (nI i))], [.int (nI i), .ref (D.1 b), .long (lN (gby (bF V b) s i))])) rfl ?_
        refine Zr_callV C it_Bd_guardedBy hD rfl p_Bd_guardedFrom ml_Bd_78 b (isB_i hb) (hb.1 _ _ _) rfl [.int (nI i)] (ct_Bd_guardedFrom C.ev C.l hD _ _ _ b hb hF i (by first | assumption | omega) _) rfl rfl ⟨by decide, by decide, by decide, by decide⟩ (Nat.le_of_ble_eq_true rfl) rfl ?_
        show Z E G (HM D V P PH) sz 0 0 (29, [some (.ref (D.1 b)), some (.int (nI s)), some (.long (lN (gby (bF V b) s i))), none, some (.int (nI i))], [.long (lN (gfr (bF V b) i)), .long (lN (gby (bF V b) s i))])
        refine Z_run C it_Bd_guardedBy 3 (f2 := (34, [some (.ref (D.1 b)), some (.int (nI s)), some (.long (lN (gby (bF V b) s i) ||| lN (gfr (bF V b) i))), none, some (.int (nI i + nI 1))], [])) rfl ?_
        rw [nI_add i 1]
        refine Z_run C it_Bd_guardedBy 1 (f2 := (5, [some (.ref (D.1 b)), some (.int (nI s)), some (.long (lN (gby (bF V b) s i) ||| lN (gfr (bF V b) i))), none, some (.int (nI (i + 1)))], [])) rfl ?_
        have e2 : lN (gby (bF V b) s i) ||| lN (gfr (bF V b) i) = lN (gby (bF V b) s (i + 1)) := by rw [lN_or (by have := gby_lt (bF V b) s i; omega) (by have := gfr_lt (bF V b) i; omega)]; simp [gby, orp, hc2]
        rw [e2]
        exact ih (i + 1) (by omega) (by omega)
set_option maxRecDepth 20000 in
theorem ct_Bd_guardedBy {E : zE} (hE : zEv E) {l : Launch} (hl : l.stackTraces = false) {D : zD} (hD : zDok E D) (V : Nat → Nat → Int32) (P : Nat → Nat → Value) (PH : aH) (b : Nat) (hb : isB b) (hF : okF (bF V b)) (s : Nat) (hs : s < 2) (sz : Nat) : zM E l y_Bd_guardedBy [.code y_Bd_guardedBy c_Bd_guardedBy 5 (some .long)] rm_Bd_guardedBy [.ref (D.1 b), .int (nI s)] (HM D V P PH) sz (zRet (some (.long (lN (gby (bF V b) s 36)))) (HM D V P PH) sz) := by
  refine zM_of hE hl (by decide +kernel) [some (.ref (D.1 b)), some (.int (nI s)), none, none, none] ⟨rfl, rfl, Nat.le_of_ble_eq_true rfl⟩ ?_
  intro G C q htb
  refine Z_run C it_Bd_guardedBy 4 (f2 := (5, [some (.ref (D.1 b)), some (.int (nI s)), some (.long (lN 0)), none, some (.int (nI 0))], [])) rfl ?_
  exact lp_Bd_guardedBy C q hD hb hF hs ⟨rfl, rfl, rfl⟩ 37 0 (by omega) (by omega)
set_option maxRecDepth 20000 in
theorem lp_Bd_countGuardsAlong {E : zE} {G : zG} {O : zO} (C : zCx E G c_Bd_countGuardsAlong 5 y_Bd_countGuardsAlong.cls y_Bd_countGuardsAlong.name (some .int) rm_Bd_countGuardsAlong) (q : zEndX E G O rm_Bd_countGuardsAlong.cells rm_Bd_countGuardsAlong.slots)  {D : zD} (hD : zDok E D) {V : Nat → Nat → Int32} {P : Nat → Nat → Value} {PH : aH} {b : Nat} (hb : isB b) (hF : okF (bF V b)) {s : Nat} (hs : s < 2) {t : Nat} (ht : t < 36) {sz : Nat} (hO : O (.inl (some (.int (nI (cga (bF V b) s t 36))))) (HM D V P PH) sz) : ∀ (j i : Nat), 36 - i < j → i ≤ 36 → Z E G (HM D V P PH) sz 0 0 (5, [some (.ref (D.1 b)), some (.int (nI s)), some (.int (nI t)), some (.int (nI (cga (bF V b) s t i))), some (.int (nI i))], []) := by
  intro j
  induction j with
  | zero =>
    intro i h1 h2
    omega
  | succ j ih =>
    intro i h1 h2
    have hsd := fun k => sd_le (bF V b k)
    refine Z_run C it_Bd_countGuardsAlong 2 (f2 := (9, [some (.ref (D.1 b)), some (.int (nI s)), some (.int (nI t)), some (.int (nI (cga (bF V b) s t i))), some (.int (nI i))], [.int (nI 36), .int (nI i)])) rfl ?_
    refine Z_br C it_Bd_countGuardsAlong rfl rfl (fun hc1 => ?_) (fun hc1 => ?_)
    · replace hc1 := (nI_leI (a := 36) (b := i) (by omega) (by omega)).mp hc1
      refine Z_run C it_Bd_countGuardsAlong 1 (f2 := (47, [some (.ref (D.1 b)), some (.int (nI s)), some (.int (nI t)), some (.int (nI (cga (bF V b) s t i))), some (.int (nI i))], [.int (nI (cga (bF V b) s t i))])) rfl ?_
      exact Z_iret C q.e it_Bd_countGuardsAlong rfl ((show i = 36 by omega) ▸ hO) (by decide) (by decide)
    · replace hc1 : ¬ _ := fun z9 => hc1 ((nI_leI (a := 36) (b := i) (by omega) (by omega)).mpr z9)
      refine Z_run C it_Bd_countGuardsAlong 3 (f2 := (16, [some (.ref (D.1 b)), some (.int (nI s)), some (.int (nI t)), some (.int (nI (cga (bF V b) s t i))), some (.int (nI i))], [.int (nI s), .int (nI i), .ref (D.1 b)])) rfl ?_
      refine Zr_callV C it_Bd_countGuardsAlong hD rfl p_Bd_holds ml_Bd_31 b (isB_i hb) (hb.1 _ _ _) rfl [.int (nI i), .int (nI s)] (ct_Bd_holds C.ev C.l hD _ _ _ b hb hF i (by first | assumption | omega) s (by first | assumption | omega) _) rfl rfl ⟨by decide, by decide, by decide, by decide⟩ (Nat.le_of_ble_eq_true rfl) rfl ?_
      show Z E G (HM D V P PH) sz 0 0 (19, [some (.ref (D.1 b)), some (.int (nI s)), some (.int (nI t)), some (.int (nI (cga (bF V b) s t i))), some (.int (nI i))], [.int (bI (hld (bF V b) i s))])
      refine Z_br C it_Bd_countGuardsAlong rfl rfl (fun hc2 => ?_) (fun hc2 => ?_)
      · replace hc2 := bI_0.mp hc2
        refine Z_run C it_Bd_countGuardsAlong 1 (f2 := (43, [some (.ref (D.1 b)), some (.int (nI s)), some (.int (nI t)), some (.int (nI (cga (bF V b) s t i))), some (.int (nI i + nI 1))], [])) rfl ?_
        rw [nI_add i 1]
        refine Z_run C it_Bd_countGuardsAlong 1 (f2 := (5, [some (.ref (D.1 b)), some (.int (nI s)), some (.int (nI t)), some (.int (nI (cga (bF V b) s t i))), some (.int (nI (i + 1)))], [])) rfl ?_
        have e1 : nI (cga (bF V b) s t i) = nI (cga (bF V b) s t (i + 1)) := by first | simp [cga, cnt, smp, hc2, hc3] | simp [cga, cnt, smp, hc2]
        rw [e1]
        exact ih (i + 1) (by omega) (by omega)
      · replace hc2 := bI_1.mp hc2
        refine Z_run C it_Bd_countGuardsAlong 2 (f2 := (25, [some (.ref (D.1 b)), some (.int (nI s)), some (.int (nI t)), some (.int (nI (cga (bF V b) s t i))), some (.int (nI i))], [.int (nI i), .ref (D.1 b)])) rfl ?_
        refine Zr_callV C it_Bd_countGuardsAlong hD rfl p_Bd_guardedFrom ml_Bd_78 b (isB_i hb) (hb.1 _ _ _) rfl [.int (nI i)] (ct_Bd_guardedFrom C.ev C.l hD _ _ _ b hb hF i (by first | assumption | omega) _) rfl rfl ⟨by decide, by decide, by decide, by decide⟩ (Nat.le_of_ble_eq_true rfl) rfl ?_
        show Z E G (HM D V P PH) sz 0 0 (28, [some (.ref (D.1 b)), some (.int (nI s)), some (.int (nI t)), some (.int (nI (cga (bF V b) s t i))), some (.int (nI i))], [.long (lN (gfr (bF V b) i))])
        refine Z_run C it_Bd_countGuardsAlong 6 (f2 := (34, [some (.ref (D.1 b)), some (.int (nI s)), some (.int (nI t)), some (.int (nI (cga (bF V b) s t i))), some (.int (nI i))], [.int (lg_cmp ((lN (gfr (bF V b) i) >>> ((nI t).toInt64 &&& 63)) &&& lN 1) (lN 0))])) rfl ?_
        have e2 : lg_cmp ((lN (gfr (bF V b) i) >>> ((nI t).toInt64 &&& 63)) &&& lN 1) (lN 0) = bI ((gfr (bF V b) i).testBit t) := lN_bit (by have := gfr_lt (bF V b) i; omega) (by omega)
        rw [e2]
        refine Z_br C it_Bd_countGuardsAlong rfl rfl (fun hc3 => ?_) (fun hc3 => ?_)
        · replace hc3 := bI_0.mp hc3
          refine Z_run C it_Bd_countGuardsAlong 1 (f2 := (43, [some (.ref (D.1 b)), some (.int (nI s)), some (.int (nI t)), some (.int (nI (cga (bF V b) s t i))), some (.int (nI i + nI 1))], [])) rfl ?_
          rw [nI_add i 1]
          refine Z_run C it_Bd_countGuardsAlong 1 (f2 := (5, [some (.ref (D.1 b)), some (.int (nI s)), some (.int (nI t)), some (.int (nI (cga (bF V b) s t i))), some (.int (nI (i + 1)))], [])) rfl ?_
          have e3 : nI (cga (bF V b) s t i) = nI (cga (bF V b) s t (i + 1)) := by first | simp [cga, cnt, smp, hc2, hc3] | simp [cga, cnt, smp, hc2]
          rw [e3]
          exact ih (i + 1) (by omega) (by omega)
        · replace hc3 := bI_1.mp hc3
          refine Z_run C it_Bd_countGuardsAlong 1 (f2 := (40, [some (.ref (D.1 b)), some (.int (nI s)), some (.int (nI t)), some (.int (nI (cga (bF V b) s t i) + nI 1)), some (.int (nI i))], [])) rfl ?_
          rw [nI_add (cga (bF V b) s t i) 1]
          refine Z_run C it_Bd_countGuardsAlong 1 (f2 := (43, [some (.ref (D.1 b)), some (.int (nI s)), some (.int (nI t)), some (.int (nI (cga (bF V b) s t i + 1))), some (.int (nI i + nI 1))], [])) rfl ?_
          rw [nI_add i 1]
          refine Z_run C it_Bd_countGuardsAlong 1 (f2 := (5, [some (.ref (D.1 b)), some (.int (nI s)), some (.int (nI t)), some (.int (nI (cga (bF V b) s t i + 1))), some (.int (nI (i + 1)))], [])) rfl ?_
          have e4 : nI (cga (bF V b) s t i + 1) = nI (cga (bF V b) s t (i + 1)) := by simp [cga, cnt, smp, hc2, hc3]
          rw [e4]
          exact ih (i + 1) (by omega) (by omega)
set_option maxRecDepth 20000 in
theorem ct_Bd_countGuardsAlong {E : zE} (hE : zEv E) {l : Launch} (hl : l.stackTraces = false) {D : zD} (hD : zDok E D) (V : Nat → Nat → Int32) (P : Nat → Nat → Value) (PH : aH) (b : Nat) (hb : isB b) (hF : okF (bF V b)) (s : Nat) (hs : s < 2) (t : Nat) (ht : t < 36) (sz : Nat) : zM E l y_Bd_countGuardsAlong [.code y_Bd_countGuardsAlong c_Bd_countGuardsAlong 5 (some .int)] rm_Bd_countGuardsAlong [.ref (D.1 b), .int (nI s), .int (nI t)] (HM D V P PH) sz (zRet (some (.int (nI (cga (bF V b) s t 36)))) (HM D V P PH) sz) := by
  refine zM_of hE hl (by decide +kernel) [some (.ref (D.1 b)), some (.int (nI s)), some (.int (nI t)), none, none] ⟨rfl, rfl, Nat.le_of_ble_eq_true rfl⟩ ?_
  intro G C q htb
  refine Z_run C it_Bd_countGuardsAlong 4 (f2 := (5, [some (.ref (D.1 b)), some (.int (nI s)), some (.int (nI t)), some (.int (nI 0)), some (.int (nI 0))], [])) rfl ?_
  exact lp_Bd_countGuardsAlong C q hD hb hF hs ht ⟨rfl, rfl, rfl⟩ 37 0 (by omega) (by omega)
set_option maxRecDepth 20000 in
theorem lp_Bd_guardsSeenFrom {E : zE} {G : zG} {O : zO} (C : zCx E G c_Bd_guardsSeenFrom 6 y_Bd_guardsSeenFrom.cls y_Bd_guardsSeenFrom.name (some .long) rm_Bd_guardsSeenFrom) (q : zEndX E G O rm_Bd_guardsSeenFrom.cells rm_Bd_guardsSeenFrom.slots)  {D : zD} (hD : zDok E D) {V : Nat → Nat → Int32} {P : Nat → Nat → Value} {PH : aH} {b : Nat} (hb : isB b) (hF : okF (bF V b)) {s : Nat} (hs : s < 2) {t : Nat} (ht : t < 36) {sz : Nat} (hO : O (.inl (some (.long (lN (gsf (bF V b) s t))))) (HM D V P PH) sz) : ∀ (j i : Nat), 5 - i < j → i ≤ 5 → Z E G (HM D V P PH) sz 0 0 (5, [some (.ref (D.1 b)), some (.int (nI s)), some (.int (nI t)), some (.long (lN (orp (fun i => lok (bF V b) t i &&& knw (bF V b) s i) i))), none, some (.int (nI i))], []) := by
  intro j
  induction j with
  | zero =>
    intro i h1 h2
    omega
  | succ j ih =>
    intro i h1 h2
    refine Z_run C it_Bd_guardsSeenFrom 2 (f2 := (8, [some (.ref (D.1 b)), some (.int (nI s)), some (.int (nI t)), some (.long (lN (orp (fun i => lok (bF V b) t i &&& knw (bF V b) s i) i))), none, some (.int (nI i))], [.int (nI 5), .int (nI i)])) rfl ?_
    refine Z_br C it_Bd_guardsSeenFrom rfl rfl (fun hc1 => ?_) (fun hc1 => ?_)
    · replace hc1 := (nI_leI (a := 5) (b := i) (by omega) (by omega)).mp hc1
      refine Z_run C it_Bd_guardsSeenFrom 1 (f2 := (36, [some (.ref (D.1 b)), some (.int (nI s)), some (.int (nI t)), some (.long (lN (orp (fun i => lok (bF V b) t i &&& knw (bF V b) s i) i))), none, some (.int (nI i))], [.long (lN (orp (fun i => lok (bF V b) t i &&& knw (bF V b) s i) i))])) rfl ?_
      exact Z_lret C q.e it_Bd_guardsSeenFrom rfl ((show i = 5 by omega) ▸ hO) (by decide) (by decide)
    · replace hc1 : ¬ _ := fun z9 => hc1 ((nI_leI (a := 5) (b := i) (by omega) (by omega)).mpr z9)
      refine Z_run C it_Bd_guardsSeenFrom 4 (f2 := (16, [some (.ref (D.1 b)), some (.int (nI s)), some (.int (nI t)), some (.long (lN (orp (fun i => lok (bF V b) t i &&& knw (bF V b) s i) i))), none, some (.int (nI i))], [.int (nI i), .int (nI t), .ref (D.1 b), .long (lN (orp (fun i => lok (bF V b) t i &&& knw (bF V b) s i) i))])) rfl ?_
      refine Zr_callV C it_Bd_guardsSeenFrom hD rfl p_Bd_linesOfKind ml_Bd_74 b (isB_i hb) (hb.1 _ _ _) rfl [.int (nI t), .int (nI i)] (ct_Bd_linesOfKind C.ev C.l hD _ _ _ b hb hF t (by first | assumption | omega) i (by first | assumption | omega) _) rfl rfl ⟨by decide, by decide, by decide, by decide⟩ (Nat.le_of_ble_eq_true rfl) rfl ?_
      show Z E G (HM D V P PH) sz 0 0 (19, [some (.ref (D.1 b)), some (.int (nI s)), some (.int (nI t)), some (.long (lN (orp (fun i => lok (bF V b) t i &&& knw (bF V b) s i) i))), none, some (.int (nI i))], [.long (lN (lok (bF V b) t i)), .long (lN (orp (fun i => lok (bF V b) t i &&& knw (bF V b) s i) i))])
      refine Z_run C it_Bd_guardsSeenFrom 3 (f2 := (23, [some (.ref (D.1 b)), some (.int (nI s)), some (.int (nI t)), some (.long (lN (orp (fun i => lok (bF V b) t i &&& knw (bF V b) s i) i))), none, some (.int (nI i))], [.int (nI i), .int (nI s), .ref (D.1 b), .long (lN (lok (bF V b) t i)), .long (lN (orp (fun i => lok (bF V b) t i &&& knw (bF V b) s i) i))])) rfl ?_
      refine Zr_callV C it_Bd_guardsSeenFrom hD rfl p_Bd_knowers ml_Bd_83 b (isB_i hb) (hb.1 _ _ _) rfl [.int (nI s), .int (nI i)] (ct_Bd_knowers C.ev C.l hD _ _ _ b hb hF s (by first | assumption | omega) i (by first | assumption | omega) _) rfl rfl ⟨by decide, by decide, by decide, by decide⟩ (Nat.le_of_ble_eq_true rfl) rfl ?_
      show Z E G (HM D V P PH) sz 0 0 (26, [some (.ref (D.1 b)), some (.int (nI s)), some (.int (nI t)), some (.long (lN (orp (fun i => lok (bF V b) t i &&& knw (bF V b) s i) i))), none, some (.int (nI i))], [.long (lN (knw (bF V b) s i)), .long (lN (lok (bF V b) t i)), .long (lN (orp (fun i => lok (bF V b) t i &&& knw (bF V b) s i) i))])
      refine Z_run C it_Bd_guardsSeenFrom 4 (f2 := (32, [some (.ref (D.1 b)), some (.int (nI s)), some (.int (nI t)), some (.long (lN (orp (fun i => lok (bF V b) t i &&& knw (bF V b) s i) i) ||| (lN (lok (bF V b) t i) &&& lN (knw (bF V b) s i)))), none, some (.int (nI i + nI 1))], [])) rfl ?_
      rw [nI_add i 1]
      refine Z_run C it_Bd_guardsSeenFrom 1 (f2 := (5, [some (.ref (D.1 b)), some (.int (nI s)), some (.int (nI t)), some (.long (lN (orp (fun i => lok (bF V b) t i &&& knw (bF V b) s i) i) ||| (lN (lok (bF V b) t i) &&& lN (knw (bF V b) s i)))), none, some (.int (nI (i + 1)))], [])) rfl ?_
      have e1 : lN (orp (fun i => lok (bF V b) t i &&& knw (bF V b) s i) i) ||| (lN (lok (bF V b) t i) &&& lN (knw (bF V b) s i)) = lN (orp (fun i => lok (bF V b) t i &&& knw (bF V b) s i) (i + 1)) := by rw [wb_and (by have := lok_lt (bF V b) t i; omega) (by have := knw_lt (bF V b) s i; omega), lN_or (by have := orp_lt (f := (fun i => lok (bF V b) t i &&& knw (bF V b) s i)) (n := i) (c := 36) (fun _ _ => Nat.lt_of_le_of_lt Nat.and_le_left (lok_lt _ _ _)); omega) (Nat.lt_of_le_of_lt Nat.and_le_left (by have := lok_lt (bF V b) t i; omega))]; rfl
      rw [e1]
      exact ih (i + 1) (by omega) (by omega)
set_option maxRecDepth 20000 in
theorem ct_Bd_guardsSeenFrom {E : zE} (hE : zEv E) {l : Launch} (hl : l.stackTraces = false) {D : zD} (hD : zDok E D) (V : Nat → Nat → Int32) (P : Nat → Nat → Value) (PH : aH) (b : Nat) (hb : isB b) (hF : okF (bF V b)) (s : Nat) (hs : s < 2) (t : Nat) (ht : t < 36) (sz : Nat) : zM E l y_Bd_guardsSeenFrom [.code y_Bd_guardsSeenFrom c_Bd_guardsSeenFrom 6 (some .long)] rm_Bd_guardsSeenFrom [.ref (D.1 b), .int (nI s), .int (nI t)] (HM D V P PH) sz (zRet (some (.long (lN (gsf (bF V b) s t)))) (HM D V P PH) sz) := by
  refine zM_of hE hl (by decide +kernel) [some (.ref (D.1 b)), some (.int (nI s)), some (.int (nI t)), none, none, none] ⟨rfl, rfl, Nat.le_of_ble_eq_true rfl⟩ ?_
  intro G C q htb
  refine Z_run C it_Bd_guardsSeenFrom 4 (f2 := (5, [some (.ref (D.1 b)), some (.int (nI s)), some (.int (nI t)), some (.long (lN 0)), none, some (.int (nI 0))], [])) rfl ?_
  exact lp_Bd_guardsSeenFrom C q hD hb hF hs ht ⟨rfl, rfl, rfl⟩ 6 0 (by omega) (by omega)
