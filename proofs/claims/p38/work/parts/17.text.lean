/-! ===== MoveText ===== -/
def okT (V : Nat → Nat → Int32) (T : Nat → Nat) : Prop := ∀ k, k < 60 → V 34 k = nI (T k) ∧ T k < 65536
def dig (c : Nat) : Bool := decide (49 ≤ c) && decide (c ≤ 54)
def lett (c : Nat) : Bool := decide (97 ≤ c) && decide (c ≤ 102)
def els (T : Nat → Nat) (i : Nat) : Bool := decide (i < 3) || (T i != T (i - 2) || T (i - 1) != T (i - 3))
def fit5 (T : Nat → Nat) (i r : Nat) : Bool := if r = 0 ∨ r = 2 then lett (T i) else if r = 1 then dig (T i) else if r = 3 then dig (T i) && els T i else T i == 32
def fit (T : Nat → Nat) (i : Nat) : Bool := fit5 T i (i % 5)
def fmf (T : Nat → Nat) (n : Nat) : Nat := (ffr (fun k => !fit T k) n 0).getD n
theorem nar_c {c : Nat} (h : c < 65536) : zfit 13 (.int (nI c)) := by
  show narrow .char (.int (nI c)) = .int (nI c)
  have e : ((nI c).toUInt32 % 65536).toInt32 = nI c := by
    apply Int32.toBitVec_inj.mp
    show (BitVec.ofNat 32 c) % 65536#32 = BitVec.ofNat 32 c
    apply BitVec.eq_of_toNat_eq
    rw [BitVec.toNat_umod, BitVec.toNat_ofNat]
    show c % 2 ^ 32 % 65536 = c % 2 ^ 32
    omega
  exact congrArg Value.int e





theorem fmf_le (T : Nat → Nat) (n : Nat) : fmf T n ≤ n := by
  unfold fmf
  cases h : ffr (fun k => !fit T k) n 0 with
  | none => exact Nat.le_refl n
  | some k =>
    have := ffr_lt h
    show k ≤ n
    omega
def lis (T : Nat → Nat) (n : Nat) : Bool := n % 5 == 4 && fmf T n == n





def sqa (T : Nat → Nat) (i : Nat) : Nat := 6 * (T (i + 1) - 49) + (T i - 97)



