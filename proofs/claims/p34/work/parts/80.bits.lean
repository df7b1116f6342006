/-! THE SHARE AND ITS BITS: all of the 1 numbers of minutes -/
abbrev nnan (x : UInt64) : Prop := x &&& 0x7fffffffffffffff ≤ 0x7ff0000000000000
def bO : Nat → UInt64 → Int64 → Option Int64
  | 0, _, _ => none
  | k + 1, d, l => if 0 ≤ (Op.cmpValue (FP.dcmp d FP.dconst1) .g) then (if nnan (FP.dsub d FP.dconst1) ∧ nnan (FP.dmul (FP.dsub d FP.dconst1) 4841369599423283200) then some ((l <<< (((52 : Int32)).toInt64 &&& 63)) ||| (FP.d2l (FP.dmul (FP.dsub d FP.dconst1) 4841369599423283200))) else none) else if nnan (FP.dmul d 4611686018427387904) then bO k (FP.dmul d 4611686018427387904) (l - 1) else none
abbrev dsh (n : Nat) : UInt64 := FP.ddiv (FP.i2d (nI n)) 4656510908468559872
theorem dsh_1 : ∀ n, n < 1 → nnan (dsh n) := by decide +kernel
theorem dsh_2 : ∀ n, n < 1 → (0 < n → 0 < (Op.cmpValue (FP.dcmp (dsh n) FP.dconst0) .g)) ∧ bO 20 (dsh (n + 1)) 1023 = some (dsh (n + 1)).toInt64 := by decide +kernel
theorem dsh_0 : ¬ 0 < (Op.cmpValue (FP.dcmp (dsh 0) FP.dconst0) .g) ∧ (dsh 0).toInt64 = 0 := by decide +kernel
theorem dsh_3 : ∀ n, n < 1 → (Op.cmpValue (FP.dcmp (dsh n) (dsh n)) .l) = 0 := by decide +kernel

