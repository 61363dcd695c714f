/-! ===== the law: tables and rules ===== -/
theorem nI_plus (a b : Nat) : nI a + nI b = nI (a + b) := by
  apply Int32.toBitVec_inj.mp
  show BitVec.ofNat 32 a + BitVec.ofNat 32 b = BitVec.ofNat 32 (a + b)
  exact (BitVec.ofNat_add a b).symm
theorem nI_63 (x : Int32) : x &&& nI 63 = nI (pn x % 64) := by
  have e : x = nI (pn x) := (nI_pn x).symm
  generalize pn x = a at e
  subst e
  rw [nI_and]
  congr 1
  exact Nat.and_two_pow_sub_one_eq_mod a 6
theorem nI_i2c (x : Int32) : ∃ a : Nat, a < 65536 ∧ (x.toUInt32 % 65536).toInt32 = nI a := by
  refine ⟨pn (x.toUInt32 % 65536).toInt32, ?_, (nI_pn _).symm⟩
  show (x.toUInt32 % 65536).toNat < 65536
  rw [UInt32.toNat_mod]
  exact Nat.mod_lt _ (by decide)
theorem lg_cmp_s (x : Int64) : lg_cmp x x = 0 := by
  unfold lg_cmp
  rw [if_neg (by rw [gt_iff_lt, Int64.lt_iff_toInt_lt]; omega), if_pos rfl]
section LWR
variable {E : zE} {G : zG} {cc : ByteArray} {nL : Nat} {own nm : String} {ret : Option FieldType} {R : Room} {sz k n : Nat} {t : List zI} {pc : Nat} {ls : zL} {st rest : List Value} {D : zD} {V : Nat → Nat → Int32} {P : Nat → Nat → Value} {PH : aH}
theorem Z_agS (C : zCx E G cc nL own nm ret R) (ht : zT cc t) {idx : Nat} {r : Nat × Int32 × Nat} (hl : t.lookup pc = some (.invokestatic idx, r)) {y : MethodName} {c9 : ByteArray} {n9 a : Nat} {rm : Room} {hh : List (Nat × Nat × Nat × Nat)} (hp : zPsX y c9 n9 (some .int) hh a) (hlk : Cond.methodLink own idx y ∈ zWs) (As : List Value) {M : Nat → (Nat → Nat → Int32) → (Nat → Nat → Value) → aH → Nat → Prop} (hA : agr E (zGl G) D y c9 n9 hh rm As V P PH sz M) (hst : st = As.reverse ++ rest) (ha : As.length = a) (hR : zRm rm R n9 k n) (hcat : (rest.map fun v => v.category).sum ≤ 8) (hls : ls.length = nL)
    (kk : ∀ (kc : Nat) (V2 : Nat → Nat → Int32) (P2 : Nat → Nat → Value) (PH2 : aH) (s2 : Nat), kc < 4 → M kc V2 P2 PH2 s2 → Z E G (HM D V2 P2 PH2) s2 (k + rm.cells) (n + rm.slots) (pc + 3, ls, .int (nI kc) :: rest)) : Z E G (HM D V P PH) sz k n (pc, ls, st) := by
  obtain ⟨Oc, hM, hx, hr⟩ := hA
  refine Z_callSX C ht hl hp hlk As hM hst ha hR hcat hls (fun v h2 s2 hO => ?_) (fun X h2 s2 hO => absurd hO (hx X h2 s2))
  obtain ⟨kc, V2, P2, PH2, h1, rfl, rfl, h4⟩ := hr v h2 s2 hO
  exact kk kc V2 P2 PH2 s2 h1 h4
theorem Z_mdI (C : zCx E G cc nL own nm ret R) (ht : zT cc t) (hD : zDok E D) {idx : Nat} {r : Nat × Int32 × Nat} (hl : t.lookup pc = some (.invokevirtual idx, r)) {y : MethodName} {c9 : ByteArray} {n9 a : Nat} {rm : Room} (hp : zPv y c9 n9 (some .int) a) (hlk : Cond.methodLink own idx y ∈ zWs) (hcl : y.cls = R_Mm) (As : List Value) {kc : Nat} {NX : (Nat → Nat → Int32) → (Nat → Nat → Value) → aH → Nat → Prop} (hA : mdI E (zGl G) D y c9 n9 rm As kc V P PH sz NX) (hst : st = As.reverse ++ .ref (D.1 37) :: rest) (ha : As.length = a) (hR : zRm rm R n9 k n) (hcat : (rest.map fun v => v.category).sum ≤ 8) (hls : ls.length = nL)
    (kk : ∀ (V3 : Nat → Nat → Int32) (bb : Int32), V3 37 8 = nI kc → (kc = 0 → P 44 0 = .long bb.toInt64) → NX V3 P PH sz → Z E G (HM D V3 P PH) sz (k + rm.cells) (n + rm.slots) (pc + 3, ls, .int bb :: rest)) : Z E G (HM D V P PH) sz k n (pc, ls, st) := by
  obtain ⟨Om, hM, hx, hr⟩ := hA
  refine Z_callV C ht hl hp hlk As hM hst ha (by rw [HM_at hD (show 37 < 53 by decide)]; rfl) (T := F_Mm) (N := 9) (ci := 6) (by rw [hcl]; rfl) hR hcat hls (fun v h2 s2 hO => ?_) (fun X h2 s2 hO => absurd hO (hx X h2 s2))
  obtain ⟨V3, bb, rfl, rfl, rfl, h1, h2, h3⟩ := hr v h2 s2 hO
  exact kk V3 bb h1 h2 h3
theorem Z_mdL (C : zCx E G cc nL own nm ret R) (ht : zT cc t) (hD : zDok E D) {idx : Nat} {r : Nat × Int32 × Nat} (hl : t.lookup pc = some (.invokevirtual idx, r)) {y : MethodName} {c9 : ByteArray} {n9 a : Nat} {rm : Room} (hp : zPv y c9 n9 (some .long) a) (hlk : Cond.methodLink own idx y ∈ zWs) (hcl : y.cls = R_Mm) (As : List Value) {kc : Nat} {NX : (Nat → Nat → Int32) → (Nat → Nat → Value) → aH → Nat → Prop} (hA : mdL E (zGl G) D y c9 n9 rm As kc V P PH sz NX) (hst : st = As.reverse ++ .ref (D.1 37) :: rest) (ha : As.length = a) (hR : zRm rm R n9 k n) (hcat : (rest.map fun v => v.category).sum ≤ 8) (hls : ls.length = nL)
    (kk : ∀ (V3 : Nat → Nat → Int32) (bb : Int64), V3 37 8 = nI kc → (kc = 0 → P 44 0 = .long bb) → NX V3 P PH sz → Z E G (HM D V3 P PH) sz (k + rm.cells) (n + rm.slots) (pc + 3, ls, .long bb :: rest)) : Z E G (HM D V P PH) sz k n (pc, ls, st) := by
  obtain ⟨Om, hM, hx, hr⟩ := hA
  refine Z_callV C ht hl hp hlk As hM hst ha (by rw [HM_at hD (show 37 < 53 by decide)]; rfl) (T := F_Mm) (N := 9) (ci := 6) (by rw [hcl]; rfl) hR hcat hls (fun v h2 s2 hO => ?_) (fun X h2 s2 hO => absurd hO (hx X h2 s2))
  obtain ⟨V3, bb, rfl, rfl, rfl, h1, h2, h3⟩ := hr v h2 s2 hO
  exact kk V3 bb h1 h2 h3
theorem Z_mdD (C : zCx E G cc nL own nm ret R) (ht : zT cc t) (hD : zDok E D) {idx : Nat} {r : Nat × Int32 × Nat} (hl : t.lookup pc = some (.invokevirtual idx, r)) {y : MethodName} {c9 : ByteArray} {n9 a : Nat} {rm : Room} (hp : zPv y c9 n9 (some .double) a) (hlk : Cond.methodLink own idx y ∈ zWs) (hcl : y.cls = R_Mm) (As : List Value) {kc : Nat} {NX : (Nat → Nat → Int32) → (Nat → Nat → Value) → aH → Nat → Prop} (hA : mdD E (zGl G) D y c9 n9 rm As kc V P PH sz NX) (hst : st = As.reverse ++ .ref (D.1 37) :: rest) (ha : As.length = a) (hR : zRm rm R n9 k n) (hcat : (rest.map fun v => v.category).sum ≤ 8) (hls : ls.length = nL)
    (kk : ∀ (V3 : Nat → Nat → Int32) (bb : UInt64), V3 37 8 = nI kc → (kc = 0 → P 45 0 = .double bb) → NX V3 P PH sz → Z E G (HM D V3 P PH) sz (k + rm.cells) (n + rm.slots) (pc + 3, ls, .double bb :: rest)) : Z E G (HM D V P PH) sz k n (pc, ls, st) := by
  obtain ⟨Om, hM, hx, hr⟩ := hA
  refine Z_callV C ht hl hp hlk As hM hst ha (by rw [HM_at hD (show 37 < 53 by decide)]; rfl) (T := F_Mm) (N := 9) (ci := 6) (by rw [hcl]; rfl) hR hcat hls (fun v h2 s2 hO => ?_) (fun X h2 s2 hO => absurd hO (hx X h2 s2))
  obtain ⟨V3, bb, rfl, rfl, rfl, h1, h2, h3⟩ := hr v h2 s2 hO
  exact kk V3 bb h1 h2 h3
end LWR
def i_Lch : List zI := [(28, .iload 5, 2, 0, 0), (30, .aload_n 0, 1, 0, 0), (31, .arraylength, 1, 0, 0), (32, .iconst 4, 1, 4, 0), (33, .isub, 1, 0, 0), (34, .if_icmp .gt 1900, 3, 0, 1934), (37, .aload_n 0, 1, 0, 0), (38, .iload 5, 2, 0, 0), (40, .iaload, 1, 0, 0), (41, .bipush 63, 2, 63, 0), (43, .iand, 1, 0, 0), (44, .tableswitch 1884 0 34 #[156, 236, 316, 372, 416, 484, 528, 596, 654, 667, 680, 724, 768, 824, 880, 936, 992, 1048, 1116, 1171, 1227, 1295, 1363, 1418, 1474, 1530, 1543, 1556, 1600, 1613, 1626, 1682, 1738, 1794, 1871], 156, 0, 0), (1928, .iinc 5 4, 3, 4, 0), (1931, .goto (-1903), 3, 0, 28), (1934, .iconst 1, 1, 1, 0), (1935, .ireturn, 1, 0, 0)]
set_option maxRecDepth 20000 in
theorem it_Lch : zT code i_Lch := zT_of (by decide +kernel)
