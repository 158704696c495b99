/-! ===== sets of cells: bit by bit ===== -/
def tb (x : Int64) (c : Nat) : Bool := x.toBitVec.getLsbD c
theorem tb_big {x : Int64} {c : Nat} (h : 64 ≤ c) : tb x c = false := BitVec.getLsbD_of_ge _ _ h
theorem tb_ext {x y : Int64} (h : ∀ c, c < 64 → tb x c = tb y c) : x = y := Int64.toBitVec_inj.mp (BitVec.eq_of_getLsbD_eq h)
theorem tb_and (x y : Int64) (c : Nat) : tb (x &&& y) c = (tb x c && tb y c) := by
  show (x.toBitVec &&& y.toBitVec).getLsbD c = _
  rw [BitVec.getLsbD_and]; rfl
theorem tb_or (x y : Int64) (c : Nat) : tb (x ||| y) c = (tb x c || tb y c) := by
  show (x.toBitVec ||| y.toBitVec).getLsbD c = _
  rw [BitVec.getLsbD_or]; rfl
theorem tb_xor (x y : Int64) (c : Nat) : tb (x ^^^ y) c = (tb x c ^^ tb y c) := by
  show (x.toBitVec ^^^ y.toBitVec).getLsbD c = _
  rw [BitVec.getLsbD_xor]; rfl
theorem tb_0 (c : Nat) : tb 0 c = false := by
  show (0#64).getLsbD c = false
  simp
theorem tb_m1 {c : Nat} (h : c < 64) : tb (-1) c = true := by
  have key : ∀ c, c < 64 → tb (-1) c = true := by decide +kernel
  exact key c h
theorem tb_not (x : Int64) {c : Nat} (h : c < 64) : tb (x ^^^ (-1)) c = !tb x c := by
  rw [tb_xor, tb_m1 h, Bool.xor_true]
theorem jN_bv (x : Int64) : (jN x).toBitVec = x.toBitVec >>> 8 := by
  show x.toBitVec >>> (((nI 8).toInt64.toUInt64 &&& Int64.toUInt64 63).toBitVec % 64) = _
  rw [show (((nI 8).toInt64.toUInt64 &&& Int64.toUInt64 63).toBitVec % 64) = 8#64 from by decide +kernel]
  rfl
theorem jS_bv (x : Int64) : (jS x).toBitVec = x.toBitVec <<< 8 := by
  show x.toBitVec <<< (((nI 8).toInt64 &&& 63).toBitVec.smod 64) = _
  rw [show (((nI 8).toInt64 &&& 63).toBitVec.smod 64) = 8#64 from by decide +kernel]
  rfl
theorem jW_bv (x : Int64) : (jW x).toBitVec = (x &&& (-72340172838076674)).toBitVec >>> 1 := by
  show (x &&& (-72340172838076674)).toBitVec >>> (((1 : Int32).toInt64.toUInt64 &&& Int64.toUInt64 63).toBitVec % 64) = _
  rw [show (((1 : Int32).toInt64.toUInt64 &&& Int64.toUInt64 63).toBitVec % 64) = 1#64 from by decide +kernel]
  rfl
theorem jE_bv (x : Int64) : (jE x).toBitVec = (x &&& 9187201950435737471).toBitVec <<< 1 := by
  show (x &&& 9187201950435737471).toBitVec <<< (((1 : Int32).toInt64 &&& 63).toBitVec.smod 64) = _
  rw [show (((1 : Int32).toInt64 &&& 63).toBitVec.smod 64) = 1#64 from by decide +kernel]
  rfl
theorem tb_jN (x : Int64) (c : Nat) : tb (jN x) c = tb x (8 + c) := by
  unfold tb
  rw [jN_bv, BitVec.getLsbD_ushiftRight]
theorem tb_jS (x : Int64) {c : Nat} (h : c < 64) : tb (jS x) c = (decide (8 ≤ c) && tb x (c - 8)) := by
  unfold tb
  rw [jS_bv, BitVec.getLsbD_shiftLeft]
  by_cases h8 : 8 ≤ c
  · simp [h, h8, Nat.not_lt.mpr h8]
  · simp [h, h8, Nat.lt_of_not_le h8]
theorem mW : ∀ c, c < 64 → tb (-72340172838076674) c = decide (¬ c % 8 = 0) := by decide +kernel
theorem mE : ∀ c, c < 64 → tb 9187201950435737471 c = decide (¬ c % 8 = 7) := by decide +kernel
theorem tb_jW (x : Int64) {c : Nat} (h : c < 64) : tb (jW x) c = (tb x (1 + c) && decide (¬ (1 + c) % 8 = 0)) := by
  have e : tb (jW x) c = tb (x &&& (-72340172838076674)) (1 + c) := by
    show (jW x).toBitVec.getLsbD c = _
    rw [jW_bv, BitVec.getLsbD_ushiftRight]
    rfl
  rw [e, tb_and]
  by_cases h1 : 1 + c < 64
  · rw [mW _ h1]
  · rw [tb_big (x := x) (by omega)]
    rfl
theorem tb_jE (x : Int64) {c : Nat} (h : c < 64) : tb (jE x) c = (decide (1 ≤ c) && (tb x (c - 1) && decide (¬ (c - 1) % 8 = 7))) := by
  have e : tb (jE x) c = (decide (1 ≤ c) && tb (x &&& 9187201950435737471) (c - 1)) := by
    show (jE x).toBitVec.getLsbD c = _
    rw [jE_bv, BitVec.getLsbD_shiftLeft]
    by_cases h1 : 1 ≤ c
    · simp [h, h1, Nat.not_lt.mpr h1, tb]
    · have : c = 0 := by omega
      simp [this]
  rw [e, tb_and, mE _ (by omega)]
theorem tb_jB : ∀ x, x < 8 → ∀ y, y < 8 → ∀ c, c < 64 → tb (jB (nI x) (nI y)) c = decide (c = 8 * y + x) := by decide +kernel
