/-! ===== shares: their doubles and floats, and how their bits are told ===== -/
def zbA : Nat → UInt64 → Int64 → Option (UInt64 × Int64)
  | 0, x, e => some (x, e)
  | n + 1, x, e => if Op.cmpValue (FP.dcmp x 4611686018427387904) .l < nI 0 then some (x, e) else if FP.ddiv x 4611686018427387904 &&& 0x7fffffffffffffff ≤ 0x7ff0000000000000 then zbA n (FP.ddiv x 4611686018427387904) (e + 1) else none
def zbB : Nat → UInt64 → Int64 → Option (UInt64 × Int64)
  | 0, x, e => some (x, e)
  | n + 1, x, e => if nI 0 ≤ Op.cmpValue (FP.dcmp x FP.dconst1) .g then some (x, e) else if FP.dmul x 4611686018427387904 &&& 0x7fffffffffffffff ≤ 0x7ff0000000000000 then zbB n (FP.dmul x 4611686018427387904) (e - 1) else none
def zbE (fr : Int32) (x : UInt64) (e : Int64) : Option Int64 :=
  if FP.dsub x FP.dconst1 &&& 0x7fffffffffffffff ≤ 0x7ff0000000000000 then
    if FP.dmul (FP.dsub x FP.dconst1) (FP.l2d ((1 : Int64) <<< (fr.toInt64 &&& 63))) &&& 0x7fffffffffffffff ≤ 0x7ff0000000000000 then
      some ((e <<< (fr.toInt64 &&& 63)) + FP.d2l (FP.dmul (FP.dsub x FP.dconst1) (FP.l2d ((1 : Int64) <<< (fr.toInt64 &&& 63)))))
    else none
  else none
def zbF (b fr : Int32) (x : UInt64) : Option Int64 := if nI 0 < Op.cmpValue (FP.dcmp x FP.dconst0) .l then (zbA 64 x b.toInt64).bind (fun p => (zbB 64 p.1 p.2).bind (fun q => zbE fr q.1 q.2)) else some 0
theorem fp_d0 : ∀ a, a < 65 → ∀ b, b < 65 → b ≠ 0 → a ≤ b → FP.ddiv (FP.i2d (nI a)) (FP.i2d (nI b)) &&& 0x7fffffffffffffff ≤ 0x7ff0000000000000 ∧ Op.cmpValue (FP.dcmp (FP.ddiv (FP.i2d (nI a)) (FP.i2d (nI b))) (FP.ddiv (FP.i2d (nI a)) (FP.i2d (nI b)))) .l = nI 0 := by decide +kernel
theorem fp_f0 : ∀ a, a < 65 → ∀ b, b < 65 → b ≠ 0 → b ≤ a → FP.fdiv (FP.i2f (nI a)) (FP.i2f (nI b)) &&& 0x7fffffff ≤ 0x7f800000 ∧ Op.cmpValue (FP.fcmp (FP.fdiv (FP.i2f (nI a)) (FP.i2f (nI b))) (FP.fdiv (FP.i2f (nI a)) (FP.i2f (nI b)))) .l = nI 0 := by decide +kernel
theorem fp_f2 : ∀ a, a < 65 → ∀ b, b < 65 → b ≠ 0 → b ≤ a → FP.f2d (FP.fdiv (FP.i2f (nI a)) (FP.i2f (nI b))) &&& 0x7fffffffffffffff ≤ 0x7ff0000000000000 ∧ Op.cmpValue (FP.dcmp (FP.f2d (FP.fdiv (FP.i2f (nI a)) (FP.i2f (nI b)))) (FP.f2d (FP.fdiv (FP.i2f (nI a)) (FP.i2f (nI b))))) .l = nI 0 := by decide +kernel
theorem fp_d1 : ∀ a, a < 65 → ∀ b, b < 65 → b ≠ 0 → a ≤ b → zbF (nI 1023) (nI 52) (FP.ddiv (FP.i2d (nI a)) (FP.i2d (nI b))) = some (FP.ddiv (FP.i2d (nI a)) (FP.i2d (nI b))).toInt64 := by decide +kernel
theorem fp_f1 : ∀ a, a < 65 → ∀ b, b < 65 → b ≠ 0 → b ≤ a → zbF (nI 127) (nI 23) (FP.f2d (FP.fdiv (FP.i2f (nI a)) (FP.i2f (nI b)))) = some (FP.fdiv (FP.i2f (nI a)) (FP.i2f (nI b))).toInt32.toInt64 := by decide +kernel
theorem fp_00 : zbF (nI 1023) (nI 52) FP.dconst0 = some FP.dconst0.toInt64 ∧ zbF (nI 127) (nI 23) (FP.f2d FP.fconst0) = some FP.fconst0.toInt32.toInt64 := by decide +kernel
theorem fp_01 : Op.cmpValue (FP.dcmp FP.dconst0 FP.dconst0) .l = nI 0 ∧ Op.cmpValue (FP.fcmp FP.fconst0 FP.fconst0) .l = nI 0 ∧ FP.f2d FP.fconst0 &&& 0x7fffffffffffffff ≤ 0x7ff0000000000000 := by decide +kernel
theorem fp_02 : Op.cmpValue (FP.dcmp (FP.f2d FP.fconst0) (FP.f2d FP.fconst0)) .l = nI 0 := by decide +kernel
