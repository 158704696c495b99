/-! ===== small methods: what a call answers ===== -/
theorem nZ0 : nI 0 = 0 := rfl
theorem nZ1 : nI 1 = 1 := rfl
def bI (b : Bool) : Int32 := if b = true then 1 else 0
theorem zr0 : ((0 : Int32) = 0) = True := by decide
theorem zr1 : ((1 : Int32) = 1) = True := by decide
theorem zr10 : ((1 : Int32) = 0) = False := by decide
theorem zr01 : ((0 : Int32) = 1) = False := by decide
theorem bI_t : bI true = 1 := rfl
theorem bI_f : bI false = 0 := rfl
theorem bI_eq0 (b : Bool) : (bI b = 0) = (b = false) := by cases b <;> decide
theorem bI_ne0 (b : Bool) : (¬ bI b = 0) = (b = true) := by cases b <;> decide
theorem bI_01 (b : Bool) : (bI b = 0 ∨ bI b = 1) = True := by cases b <;> decide
/-- the end of a method that answers a truth value -/
theorem bI_end {c : Prop} [Decidable c] {b : Bool} {σ : xS} {x y : Option xO} (hx : c → x = some (.inl (some (.int (bI b))), σ)) (hy : ¬ c → y = some (.inl (some (.int (bI b))), σ)) : (if c then x else y) = some (.inl (some (.int (bI b))), σ) := by
  split
  · exact hx (by assumption)
  · exact hy (by assumption)
theorem i32_nle {a b : Int32} (h : a < b) : ¬ b ≤ a := Int32.not_le.mpr h
theorem i32_le {a b : Int32} (h : ¬ a < b) : b ≤ a := Int32.not_lt.mp h
theorem i32_nlt {a b : Int32} (h : a ≤ b) : ¬ b < a := Int32.not_lt.mpr h
theorem i32_lt {a b : Int32} (h : ¬ a ≤ b) : b < a := Int32.not_le.mp h
theorem s_isDirection {σ : xS} {x : Int32} : xC1 mX6_isDirection [.int x] σ = some (.inl (some (.int (bI (decide (0 ≤ x) && decide (x ≤ nI 3))))), σ) := by
  simp only [e_X6_isDirection, r_X6_isDirection_0, r_X6_isDirection_1, r_X6_isDirection_4, r_X6_isDirection_5, r_X6_isDirection_6, r_X6_isDirection_9, r_X6_isDirection_10, r_X6_isDirection_13, r_X6_isDirection_14, lg0, lg1, lg2, lg3, lg4, lg5, lg6, lg7, lg8, lg9, lg10, lg11, lg12, lg13, lg14, lg15, lg16, lg17, lg18, lg19, lg20, lg21, lg22, lg23, lg24, ls0, ls1, ls2, ls3, ls4, ls5, ls6, ls7, ls8, ls9, ls10, ls11, ls12, ls13, ls14, ls15, ls16, ls17, ls18, ls19, ls20, ls21, ls22, ls23, ls24, lw0, lw1, lw2, lw3, lw4, lw5, lw6, lw7, lw8, lw9, lw10, lw11, lw13, lw14, lw15, lw16, lw17, lw18, lw19, lw20, lw21, lw22, lw23, lw24, lk0, lkI, lkA, lkL, lkD, lkF, gI1, gL1, gF1, gD1, gA1, xw0, xwI, xwA, xwL, xwD, xwF, vtS, vtN, Option.bind_some, Option.bind_none, nZ0, nZ1, zr0, zr1, zr10, zr01, true_or, or_true, if_true, if_false, yC_s, yV_s, Nat.reduceAdd, Nat.reduceLeDiff, Nat.zero_le]
  refine bI_end (fun h => ?_) (fun h => bI_end (fun h2 => ?_) (fun h2 => ?_))
  · simp [i32_nle h, bI]
  · simp [i32_nle h2, bI]
  · simp [i32_le h, i32_le h2, bI]
theorem s_isSkater {σ : xS} {x : Int32} : xC1 mX6_isSkater [.int x] σ = some (.inl (some (.int (bI (decide (0 ≤ x) && decide (x < nI 3))))), σ) := by
  simp only [e_X6_isSkater, r_X6_isSkater_0, r_X6_isSkater_1, r_X6_isSkater_4, r_X6_isSkater_5, r_X6_isSkater_6, r_X6_isSkater_9, r_X6_isSkater_10, r_X6_isSkater_13, r_X6_isSkater_14, lg0, lg1, lg2, lg3, lg4, lg5, lg6, lg7, lg8, lg9, lg10, lg11, lg12, lg13, lg14, lg15, lg16, lg17, lg18, lg19, lg20, lg21, lg22, lg23, lg24, ls0, ls1, ls2, ls3, ls4, ls5, ls6, ls7, ls8, ls9, ls10, ls11, ls12, ls13, ls14, ls15, ls16, ls17, ls18, ls19, ls20, ls21, ls22, ls23, ls24, lw0, lw1, lw2, lw3, lw4, lw5, lw6, lw7, lw8, lw9, lw10, lw11, lw13, lw14, lw15, lw16, lw17, lw18, lw19, lw20, lw21, lw22, lw23, lw24, lk0, lkI, lkA, lkL, lkD, lkF, gI1, gL1, gF1, gD1, gA1, xw0, xwI, xwA, xwL, xwD, xwF, vtS, vtN, Option.bind_some, Option.bind_none, nZ0, nZ1, zr0, zr1, zr10, zr01, true_or, or_true, if_true, if_false, yC_s, yV_s, Nat.reduceAdd, Nat.reduceLeDiff, Nat.zero_le]
  refine bI_end (fun h => ?_) (fun h => bI_end (fun h2 => ?_) (fun h2 => ?_))
  · simp [i32_nle h, bI]
  · simp [i32_nlt h2, bI]
  · simp [i32_le h, i32_lt h2, bI]
theorem s_isSetting {σ : xS} {x : Int32} : xC1 mX6_isSetting [.int x] σ = some (.inl (some (.int (bI (decide (0 ≤ x) && decide (x < nI 3))))), σ) := by
  simp only [e_X6_isSetting, r_X6_isSetting_0, r_X6_isSetting_1, r_X6_isSetting_4, r_X6_isSetting_5, r_X6_isSetting_6, r_X6_isSetting_9, r_X6_isSetting_10, r_X6_isSetting_13, r_X6_isSetting_14, lg0, lg1, lg2, lg3, lg4, lg5, lg6, lg7, lg8, lg9, lg10, lg11, lg12, lg13, lg14, lg15, lg16, lg17, lg18, lg19, lg20, lg21, lg22, lg23, lg24, ls0, ls1, ls2, ls3, ls4, ls5, ls6, ls7, ls8, ls9, ls10, ls11, ls12, ls13, ls14, ls15, ls16, ls17, ls18, ls19, ls20, ls21, ls22, ls23, ls24, lw0, lw1, lw2, lw3, lw4, lw5, lw6, lw7, lw8, lw9, lw10, lw11, lw13, lw14, lw15, lw16, lw17, lw18, lw19, lw20, lw21, lw22, lw23, lw24, lk0, lkI, lkA, lkL, lkD, lkF, gI1, gL1, gF1, gD1, gA1, xw0, xwI, xwA, xwL, xwD, xwF, vtS, vtN, Option.bind_some, Option.bind_none, nZ0, nZ1, zr0, zr1, zr10, zr01, true_or, or_true, if_true, if_false, yC_s, yV_s, Nat.reduceAdd, Nat.reduceLeDiff, Nat.zero_le]
  refine bI_end (fun h => ?_) (fun h => bI_end (fun h2 => ?_) (fun h2 => ?_))
  · simp [i32_nle h, bI]
  · simp [i32_nlt h2, bI]
  · simp [i32_le h, i32_lt h2, bI]
theorem s_isSteps {σ : xS} {x : Int32} : xC1 mX6_isSteps [.int x] σ = some (.inl (some (.int (bI (decide (1 ≤ x) && decide (x ≤ nI 8))))), σ) := by
  simp only [e_X6_isSteps, r_X6_isSteps_0, r_X6_isSteps_1, r_X6_isSteps_2, r_X6_isSteps_5, r_X6_isSteps_6, r_X6_isSteps_8, r_X6_isSteps_11, r_X6_isSteps_12, r_X6_isSteps_15, r_X6_isSteps_16, lg0, lg1, lg2, lg3, lg4, lg5, lg6, lg7, lg8, lg9, lg10, lg11, lg12, lg13, lg14, lg15, lg16, lg17, lg18, lg19, lg20, lg21, lg22, lg23, lg24, ls0, ls1, ls2, ls3, ls4, ls5, ls6, ls7, ls8, ls9, ls10, ls11, ls12, ls13, ls14, ls15, ls16, ls17, ls18, ls19, ls20, ls21, ls22, ls23, ls24, lw0, lw1, lw2, lw3, lw4, lw5, lw6, lw7, lw8, lw9, lw10, lw11, lw13, lw14, lw15, lw16, lw17, lw18, lw19, lw20, lw21, lw22, lw23, lw24, lk0, lkI, lkA, lkL, lkD, lkF, gI1, gL1, gF1, gD1, gA1, xw0, xwI, xwA, xwL, xwD, xwF, vtS, vtN, Option.bind_some, Option.bind_none, nZ0, nZ1, zr0, zr1, zr10, zr01, true_or, or_true, if_true, if_false, yC_s, yV_s, Nat.reduceAdd, Nat.reduceLeDiff, Nat.zero_le]
  refine bI_end (fun h => ?_) (fun h => bI_end (fun h2 => ?_) (fun h2 => ?_))
  · simp [i32_nle h, bI]
  · simp [i32_nle h2, bI]
  · simp [i32_le h, i32_le h2, bI]
theorem s_lowestBit {σ : xS} {x : Int64} : xC1 mX6_lowestBit [.long x] σ = some (.inl (some (.long (x &&& -x))), σ) := by
  simp only [e_X6_lowestBit, r_X6_lowestBit_0, r_X6_lowestBit_1, r_X6_lowestBit_2, r_X6_lowestBit_3, r_X6_lowestBit_4, lg0, lg1, lg2, lg3, lg4, lg5, lg6, lg7, lg8, lg9, lg10, lg11, lg12, lg13, lg14, lg15, lg16, lg17, lg18, lg19, lg20, lg21, lg22, lg23, lg24, ls0, ls1, ls2, ls3, ls4, ls5, ls6, ls7, ls8, ls9, ls10, ls11, ls12, ls13, ls14, ls15, ls16, ls17, ls18, ls19, ls20, ls21, ls22, ls23, ls24, lw0, lw1, lw2, lw3, lw4, lw5, lw6, lw7, lw8, lw9, lw10, lw11, lw13, lw14, lw15, lw16, lw17, lw18, lw19, lw20, lw21, lw22, lw23, lw24, lk0, lkI, lkA, lkL, lkD, lkF, gI1, gL1, gF1, gD1, gA1, xw0, xwI, xwA, xwL, xwD, xwF, vtS, vtN, Option.bind_some, Option.bind_none, nZ0, nZ1, zr0, zr1, zr10, zr01, true_or, or_true, if_true, if_false, yC_s, yV_s, Nat.reduceAdd, Nat.reduceLeDiff, Nat.zero_le]
theorem s_northOf {σ : xS} {x : Int64} : xC1 mX6_northOf [.long x] σ = some (.inl (some (.long ((x.toUInt64 >>> ((nI 8).toInt64.toUInt64 &&& Int64.toUInt64 63)).toInt64))), σ) := by
  simp only [e_X6_northOf, r_X6_northOf_0, r_X6_northOf_1, r_X6_northOf_3, r_X6_northOf_4, lg0, lg1, lg2, lg3, lg4, lg5, lg6, lg7, lg8, lg9, lg10, lg11, lg12, lg13, lg14, lg15, lg16, lg17, lg18, lg19, lg20, lg21, lg22, lg23, lg24, ls0, ls1, ls2, ls3, ls4, ls5, ls6, ls7, ls8, ls9, ls10, ls11, ls12, ls13, ls14, ls15, ls16, ls17, ls18, ls19, ls20, ls21, ls22, ls23, ls24, lw0, lw1, lw2, lw3, lw4, lw5, lw6, lw7, lw8, lw9, lw10, lw11, lw13, lw14, lw15, lw16, lw17, lw18, lw19, lw20, lw21, lw22, lw23, lw24, lk0, lkI, lkA, lkL, lkD, lkF, gI1, gL1, gF1, gD1, gA1, xw0, xwI, xwA, xwL, xwD, xwF, vtS, vtN, Option.bind_some, Option.bind_none, nZ0, nZ1, zr0, zr1, zr10, zr01, true_or, or_true, if_true, if_false, yC_s, yV_s, Nat.reduceAdd, Nat.reduceLeDiff, Nat.zero_le]
theorem s_southOf {σ : xS} {x : Int64} : xC1 mX6_southOf [.long x] σ = some (.inl (some (.long (x <<< ((nI 8).toInt64 &&& 63)))), σ) := by
  simp only [e_X6_southOf, r_X6_southOf_0, r_X6_southOf_1, r_X6_southOf_3, r_X6_southOf_4, lg0, lg1, lg2, lg3, lg4, lg5, lg6, lg7, lg8, lg9, lg10, lg11, lg12, lg13, lg14, lg15, lg16, lg17, lg18, lg19, lg20, lg21, lg22, lg23, lg24, ls0, ls1, ls2, ls3, ls4, ls5, ls6, ls7, ls8, ls9, ls10, ls11, ls12, ls13, ls14, ls15, ls16, ls17, ls18, ls19, ls20, ls21, ls22, ls23, ls24, lw0, lw1, lw2, lw3, lw4, lw5, lw6, lw7, lw8, lw9, lw10, lw11, lw13, lw14, lw15, lw16, lw17, lw18, lw19, lw20, lw21, lw22, lw23, lw24, lk0, lkI, lkA, lkL, lkD, lkF, gI1, gL1, gF1, gD1, gA1, xw0, xwI, xwA, xwL, xwD, xwF, vtS, vtN, Option.bind_some, Option.bind_none, nZ0, nZ1, zr0, zr1, zr10, zr01, true_or, or_true, if_true, if_false, yC_s, yV_s, Nat.reduceAdd, Nat.reduceLeDiff, Nat.zero_le]
theorem s_westOf {σ : xS} {x : Int64} : xC1 mX6_westOf [.long x] σ = some (.inl (some (.long (((x &&& -72340172838076674).toUInt64 >>> ((1 : Int32).toInt64.toUInt64 &&& Int64.toUInt64 63)).toInt64))), σ) := by
  simp only [e_X6_westOf, r_X6_westOf_0, r_X6_westOf_1, r_X6_westOf_4, r_X6_westOf_5, r_X6_westOf_6, r_X6_westOf_7, lg0, lg1, lg2, lg3, lg4, lg5, lg6, lg7, lg8, lg9, lg10, lg11, lg12, lg13, lg14, lg15, lg16, lg17, lg18, lg19, lg20, lg21, lg22, lg23, lg24, ls0, ls1, ls2, ls3, ls4, ls5, ls6, ls7, ls8, ls9, ls10, ls11, ls12, ls13, ls14, ls15, ls16, ls17, ls18, ls19, ls20, ls21, ls22, ls23, ls24, lw0, lw1, lw2, lw3, lw4, lw5, lw6, lw7, lw8, lw9, lw10, lw11, lw13, lw14, lw15, lw16, lw17, lw18, lw19, lw20, lw21, lw22, lw23, lw24, lk0, lkI, lkA, lkL, lkD, lkF, gI1, gL1, gF1, gD1, gA1, xw0, xwI, xwA, xwL, xwD, xwF, vtS, vtN, Option.bind_some, Option.bind_none, nZ0, nZ1, zr0, zr1, zr10, zr01, true_or, or_true, if_true, if_false, yC_s, yV_s, Nat.reduceAdd, Nat.reduceLeDiff, Nat.zero_le]
theorem s_eastOf {σ : xS} {x : Int64} : xC1 mX6_eastOf [.long x] σ = some (.inl (some (.long ((x &&& 9187201950435737471) <<< ((1 : Int32).toInt64 &&& 63)))), σ) := by
  simp only [e_X6_eastOf, r_X6_eastOf_0, r_X6_eastOf_1, r_X6_eastOf_4, r_X6_eastOf_5, r_X6_eastOf_6, r_X6_eastOf_7, lg0, lg1, lg2, lg3, lg4, lg5, lg6, lg7, lg8, lg9, lg10, lg11, lg12, lg13, lg14, lg15, lg16, lg17, lg18, lg19, lg20, lg21, lg22, lg23, lg24, ls0, ls1, ls2, ls3, ls4, ls5, ls6, ls7, ls8, ls9, ls10, ls11, ls12, ls13, ls14, ls15, ls16, ls17, ls18, ls19, ls20, ls21, ls22, ls23, ls24, lw0, lw1, lw2, lw3, lw4, lw5, lw6, lw7, lw8, lw9, lw10, lw11, lw13, lw14, lw15, lw16, lw17, lw18, lw19, lw20, lw21, lw22, lw23, lw24, lk0, lkI, lkA, lkL, lkD, lkF, gI1, gL1, gF1, gD1, gA1, xw0, xwI, xwA, xwL, xwD, xwF, vtS, vtN, Option.bind_some, Option.bind_none, nZ0, nZ1, zr0, zr1, zr10, zr01, true_or, or_true, if_true, if_false, yC_s, yV_s, Nat.reduceAdd, Nat.reduceLeDiff, Nat.zero_le]
/-- shifts and masks of sets of cells -/
def jN (x : Int64) : Int64 := (x.toUInt64 >>> ((nI 8).toInt64.toUInt64 &&& Int64.toUInt64 63)).toInt64
def jS (x : Int64) : Int64 := x <<< ((nI 8).toInt64 &&& 63)
def jW (x : Int64) : Int64 := ((x &&& -72340172838076674).toUInt64 >>> ((1 : Int32).toInt64.toUInt64 &&& Int64.toUInt64 63)).toInt64
def jE (x : Int64) : Int64 := (x &&& 9187201950435737471) <<< ((1 : Int32).toInt64 &&& 63)
theorem q_northOf {σ : xS} {x : Int64} : xC1 mX6_northOf [.long x] σ = some (.inl (some (.long (jN x))), σ) := s_northOf
theorem q_southOf {σ : xS} {x : Int64} : xC1 mX6_southOf [.long x] σ = some (.inl (some (.long (jS x))), σ) := s_southOf
theorem q_westOf {σ : xS} {x : Int64} : xC1 mX6_westOf [.long x] σ = some (.inl (some (.long (jW x))), σ) := s_westOf
theorem q_eastOf {σ : xS} {x : Int64} : xC1 mX6_eastOf [.long x] σ = some (.inl (some (.long (jE x))), σ) := s_eastOf
theorem q_cellsBeside {σ : xS} {x : Int64} : xC1 mX6_cellsBeside [.long x] σ = some (.inl (some (.long (jN x ||| jE x ||| jS x ||| jW x))), σ) := by
  simp only [e_X6_cellsBeside, r_X6_cellsBeside_0, r_X6_cellsBeside_1, r_X6_cellsBeside_4, r_X6_cellsBeside_5, r_X6_cellsBeside_8, r_X6_cellsBeside_9, r_X6_cellsBeside_10, r_X6_cellsBeside_13, r_X6_cellsBeside_14, r_X6_cellsBeside_15, r_X6_cellsBeside_18, r_X6_cellsBeside_19, lg0, lg1, lg2, lg3, lg4, lg5, lg6, lg7, lg8, lg9, lg10, lg11, lg12, lg13, lg14, lg15, lg16, lg17, lg18, lg19, lg20, lg21, lg22, lg23, lg24, ls0, ls1, ls2, ls3, ls4, ls5, ls6, ls7, ls8, ls9, ls10, ls11, ls12, ls13, ls14, ls15, ls16, ls17, ls18, ls19, ls20, ls21, ls22, ls23, ls24, lw0, lw1, lw2, lw3, lw4, lw5, lw6, lw7, lw8, lw9, lw10, lw11, lw13, lw14, lw15, lw16, lw17, lw18, lw19, lw20, lw21, lw22, lw23, lw24, lk0, lkI, lkA, lkL, lkD, lkF, gI1, gL1, gF1, gD1, gA1, xw0, xwI, xwA, xwL, xwD, xwF, vtS, vtN, Option.bind_some, Option.bind_none, nZ0, nZ1, zr0, zr1, zr10, zr01, true_or, or_true, if_true, if_false, yC_s, yV_s, Nat.reduceAdd, Nat.reduceLeDiff, Nat.zero_le, q_northOf, q_southOf, q_eastOf, q_westOf]
theorem s_leadsEast {σ : xS} {x : Int32} : xC1 mX1_leadsEast [.int x] σ = some (.inl (some (.int (bI (decide (x < nI 72))))), σ) := by
  simp only [e_X1_leadsEast, r_X1_leadsEast_0, r_X1_leadsEast_1, r_X1_leadsEast_3, r_X1_leadsEast_6, r_X1_leadsEast_7, r_X1_leadsEast_10, r_X1_leadsEast_11, lg0, lg1, lg2, lg3, lg4, lg5, lg6, lg7, lg8, lg9, lg10, lg11, lg12, lg13, lg14, lg15, lg16, lg17, lg18, lg19, lg20, lg21, lg22, lg23, lg24, ls0, ls1, ls2, ls3, ls4, ls5, ls6, ls7, ls8, ls9, ls10, ls11, ls12, ls13, ls14, ls15, ls16, ls17, ls18, ls19, ls20, ls21, ls22, ls23, ls24, lw0, lw1, lw2, lw3, lw4, lw5, lw6, lw7, lw8, lw9, lw10, lw11, lw13, lw14, lw15, lw16, lw17, lw18, lw19, lw20, lw21, lw22, lw23, lw24, lk0, lkI, lkA, lkL, lkD, lkF, gI1, gL1, gF1, gD1, gA1, xw0, xwI, xwA, xwL, xwD, xwF, vtS, vtN, Option.bind_some, Option.bind_none, nZ0, nZ1, zr0, zr1, zr10, zr01, true_or, or_true, if_true, if_false, yC_s, yV_s, Nat.reduceAdd, Nat.reduceLeDiff, Nat.zero_le]
  refine bI_end (fun h => ?_) (fun h => ?_)
  · simp [i32_nlt h, bI]
  · simp [i32_lt h, bI]
/-- the set of one cell -/
def jB (x y : Int32) : Int64 := (1 : Int64) <<< ((nI 8 * y + x).toInt64 &&& 63)
theorem s_cellBit {σ : xS} {x y : Int32} : xC1 mX6_cellBit [.int x, .int y] σ = some (.inl (some (.long (if 0 ≤ x ∧ x < nI 8 ∧ 0 ≤ y ∧ y < nI 8 then jB x y else 0))), σ) := by
  simp only [e_X6_cellBit, r_X6_cellBit_0, r_X6_cellBit_1, r_X6_cellBit_4, r_X6_cellBit_5, r_X6_cellBit_7, r_X6_cellBit_10, r_X6_cellBit_11, r_X6_cellBit_14, r_X6_cellBit_15, r_X6_cellBit_17, r_X6_cellBit_20, r_X6_cellBit_21, r_X6_cellBit_24, r_X6_cellBit_25, r_X6_cellBit_26, r_X6_cellBit_27, r_X6_cellBit_30, r_X6_cellBit_31, r_X6_cellBit_33, r_X6_cellBit_34, r_X6_cellBit_35, r_X6_cellBit_36, r_X6_cellBit_37, r_X6_cellBit_38, r_X6_cellBit_41, r_X6_cellBit_42, lg0, lg1, lg2, lg3, lg4, lg5, lg6, lg7, lg8, lg9, lg10, lg11, lg12, lg13, lg14, lg15, lg16, lg17, lg18, lg19, lg20, lg21, lg22, lg23, lg24, ls0, ls1, ls2, ls3, ls4, ls5, ls6, ls7, ls8, ls9, ls10, ls11, ls12, ls13, ls14, ls15, ls16, ls17, ls18, ls19, ls20, ls21, ls22, ls23, ls24, lw0, lw1, lw2, lw3, lw4, lw5, lw6, lw7, lw8, lw9, lw10, lw11, lw13, lw14, lw15, lw16, lw17, lw18, lw19, lw20, lw21, lw22, lw23, lw24, lk0, lkI, lkA, lkL, lkD, lkF, gI1, gL1, gF1, gD1, gA1, xw0, xwI, xwA, xwL, xwD, xwF, vtS, vtN, Option.bind_some, Option.bind_none, nZ0, nZ1, zr0, zr1, zr10, zr01, true_or, or_true, if_true, if_false, yC_s, yV_s, Nat.reduceAdd, Nat.reduceLeDiff, Nat.zero_le]
  by_cases h1 : x < 0
  · simp [h1, i32_nle h1]
  · by_cases h2 : nI 8 ≤ x
    · simp [h1, h2, i32_nlt h2]
    · by_cases h3 : y < 0
      · simp [h1, h2, h3, i32_nle h3]
      · by_cases h4 : nI 8 ≤ y
        · simp [h1, h2, h3, h4, i32_nlt h4]
        · rw [if_neg h1, if_neg h2, if_neg h3, if_neg h4, if_pos ⟨i32_le h1, i32_lt h2, i32_le h3, i32_lt h4⟩]
          rfl
theorem s_leadingEast {σ : xS} {x y : Int32} : xC1 mX1_leadingEast [.int x, .int y] σ = some (.inl (some (.int (if 0 ≤ x ∧ x < nI 8 ∧ 0 ≤ y ∧ y < nI 9 then nI 8 * y + x else (-1)))), σ) := by
  simp only [e_X1_leadingEast, r_X1_leadingEast_0, r_X1_leadingEast_1, r_X1_leadingEast_4, r_X1_leadingEast_5, r_X1_leadingEast_7, r_X1_leadingEast_10, r_X1_leadingEast_11, r_X1_leadingEast_14, r_X1_leadingEast_15, r_X1_leadingEast_17, r_X1_leadingEast_20, r_X1_leadingEast_21, r_X1_leadingEast_24, r_X1_leadingEast_25, r_X1_leadingEast_26, r_X1_leadingEast_27, r_X1_leadingEast_30, r_X1_leadingEast_32, r_X1_leadingEast_33, r_X1_leadingEast_34, r_X1_leadingEast_35, r_X1_leadingEast_36, r_X1_leadingEast_39, r_X1_leadingEast_40, lg0, lg1, lg2, lg3, lg4, lg5, lg6, lg7, lg8, lg9, lg10, lg11, lg12, lg13, lg14, lg15, lg16, lg17, lg18, lg19, lg20, lg21, lg22, lg23, lg24, ls0, ls1, ls2, ls3, ls4, ls5, ls6, ls7, ls8, ls9, ls10, ls11, ls12, ls13, ls14, ls15, ls16, ls17, ls18, ls19, ls20, ls21, ls22, ls23, ls24, lw0, lw1, lw2, lw3, lw4, lw5, lw6, lw7, lw8, lw9, lw10, lw11, lw13, lw14, lw15, lw16, lw17, lw18, lw19, lw20, lw21, lw22, lw23, lw24, lk0, lkI, lkA, lkL, lkD, lkF, gI1, gL1, gF1, gD1, gA1, xw0, xwI, xwA, xwL, xwD, xwF, vtS, vtN, Option.bind_some, Option.bind_none, nZ0, nZ1, zr0, zr1, zr10, zr01, true_or, or_true, if_true, if_false, yC_s, yV_s, Nat.reduceAdd, Nat.reduceLeDiff, Nat.zero_le]
  by_cases h1 : x < 0
  · simp [h1, i32_nle h1]
  · by_cases h2 : nI 8 ≤ x
    · simp [h1, h2, i32_nlt h2]
    · by_cases h3 : y < 0
      · simp [h1, h2, h3, i32_nle h3]
      · by_cases h4 : nI 9 ≤ y
        · simp [h1, h2, h3, h4, i32_nlt h4]
        · rw [if_neg h1, if_neg h2, if_neg h3, if_neg h4, if_pos ⟨i32_le h1, i32_lt h2, i32_le h3, i32_lt h4⟩]
theorem s_leadingSouth {σ : xS} {x y : Int32} : xC1 mX1_leadingSouth [.int x, .int y] σ = some (.inl (some (.int (if 0 ≤ x ∧ x < nI 9 ∧ 0 ≤ y ∧ y < nI 8 then nI 72 + nI 9 * y + x else (-1)))), σ) := by
  simp only [e_X1_leadingSouth, r_X1_leadingSouth_0, r_X1_leadingSouth_1, r_X1_leadingSouth_4, r_X1_leadingSouth_5, r_X1_leadingSouth_7, r_X1_leadingSouth_10, r_X1_leadingSouth_11, r_X1_leadingSouth_14, r_X1_leadingSouth_15, r_X1_leadingSouth_17, r_X1_leadingSouth_20, r_X1_leadingSouth_21, r_X1_leadingSouth_24, r_X1_leadingSouth_25, r_X1_leadingSouth_26, r_X1_leadingSouth_27, r_X1_leadingSouth_30, r_X1_leadingSouth_32, r_X1_leadingSouth_34, r_X1_leadingSouth_35, r_X1_leadingSouth_36, r_X1_leadingSouth_37, r_X1_leadingSouth_38, r_X1_leadingSouth_39, r_X1_leadingSouth_42, r_X1_leadingSouth_43, lg0, lg1, lg2, lg3, lg4, lg5, lg6, lg7, lg8, lg9, lg10, lg11, lg12, lg13, lg14, lg15, lg16, lg17, lg18, lg19, lg20, lg21, lg22, lg23, lg24, ls0, ls1, ls2, ls3, ls4, ls5, ls6, ls7, ls8, ls9, ls10, ls11, ls12, ls13, ls14, ls15, ls16, ls17, ls18, ls19, ls20, ls21, ls22, ls23, ls24, lw0, lw1, lw2, lw3, lw4, lw5, lw6, lw7, lw8, lw9, lw10, lw11, lw13, lw14, lw15, lw16, lw17, lw18, lw19, lw20, lw21, lw22, lw23, lw24, lk0, lkI, lkA, lkL, lkD, lkF, gI1, gL1, gF1, gD1, gA1, xw0, xwI, xwA, xwL, xwD, xwF, vtS, vtN, Option.bind_some, Option.bind_none, nZ0, nZ1, zr0, zr1, zr10, zr01, true_or, or_true, if_true, if_false, yC_s, yV_s, Nat.reduceAdd, Nat.reduceLeDiff, Nat.zero_le]
  by_cases h1 : x < 0
  · simp [h1, i32_nle h1]
  · by_cases h2 : nI 9 ≤ x
    · simp [h1, h2, i32_nlt h2]
    · by_cases h3 : y < 0
      · simp [h1, h2, h3, i32_nle h3]
      · by_cases h4 : nI 8 ≤ y
        · simp [h1, h2, h3, h4, i32_nlt h4]
        · rw [if_neg h1, if_neg h2, if_neg h3, if_neg h4, if_pos ⟨i32_le h1, i32_lt h2, i32_le h3, i32_lt h4⟩]
theorem s_isPoint {σ : xS} {x y : Int32} : xC1 mX6_isPoint [.int x, .int y] σ = some (.inl (some (.int (bI (decide (0 ≤ x ∧ x < nI 9 ∧ 0 ≤ y ∧ y < nI 9))))), σ) := by
  simp only [e_X6_isPoint, r_X6_isPoint_0, r_X6_isPoint_1, r_X6_isPoint_4, r_X6_isPoint_5, r_X6_isPoint_7, r_X6_isPoint_10, r_X6_isPoint_11, r_X6_isPoint_14, r_X6_isPoint_15, r_X6_isPoint_17, r_X6_isPoint_20, r_X6_isPoint_21, r_X6_isPoint_24, r_X6_isPoint_25, lg0, lg1, lg2, lg3, lg4, lg5, lg6, lg7, lg8, lg9, lg10, lg11, lg12, lg13, lg14, lg15, lg16, lg17, lg18, lg19, lg20, lg21, lg22, lg23, lg24, ls0, ls1, ls2, ls3, ls4, ls5, ls6, ls7, ls8, ls9, ls10, ls11, ls12, ls13, ls14, ls15, ls16, ls17, ls18, ls19, ls20, ls21, ls22, ls23, ls24, lw0, lw1, lw2, lw3, lw4, lw5, lw6, lw7, lw8, lw9, lw10, lw11, lw13, lw14, lw15, lw16, lw17, lw18, lw19, lw20, lw21, lw22, lw23, lw24, lk0, lkI, lkA, lkL, lkD, lkF, gI1, gL1, gF1, gD1, gA1, xw0, xwI, xwA, xwL, xwD, xwF, vtS, vtN, Option.bind_some, Option.bind_none, nZ0, nZ1, zr0, zr1, zr10, zr01, true_or, or_true, if_true, if_false, yC_s, yV_s, Nat.reduceAdd, Nat.reduceLeDiff, Nat.zero_le]
  by_cases h1 : x < 0
  · simp [h1, i32_nle h1, bI]
  · by_cases h2 : nI 9 ≤ x
    · simp [h1, h2, i32_nlt h2, bI]
    · by_cases h3 : y < 0
      · simp [h1, h2, h3, i32_nle h3, bI]
      · by_cases h4 : nI 9 ≤ y
        · simp [h1, h2, h3, h4, i32_nlt h4, bI]
        · rw [if_neg h1, if_neg h2, if_neg h3, if_neg h4]
          simp [i32_le h1, i32_lt h2, i32_le h3, i32_lt h4, bI]
theorem s_leastValue {σ : xS} {x : Int32} : xC1 mX6_leastValue [.int x] σ = some (.inl (some (.int (if x = 0 then 0 else 1))), σ) := by
  simp only [e_X6_leastValue, r_X6_leastValue_0, r_X6_leastValue_1, r_X6_leastValue_4, r_X6_leastValue_5, r_X6_leastValue_8, r_X6_leastValue_9, lg0, lg1, lg2, lg3, lg4, lg5, lg6, lg7, lg8, lg9, lg10, lg11, lg12, lg13, lg14, lg15, lg16, lg17, lg18, lg19, lg20, lg21, lg22, lg23, lg24, ls0, ls1, ls2, ls3, ls4, ls5, ls6, ls7, ls8, ls9, ls10, ls11, ls12, ls13, ls14, ls15, ls16, ls17, ls18, ls19, ls20, ls21, ls22, ls23, ls24, lw0, lw1, lw2, lw3, lw4, lw5, lw6, lw7, lw8, lw9, lw10, lw11, lw13, lw14, lw15, lw16, lw17, lw18, lw19, lw20, lw21, lw22, lw23, lw24, lk0, lkI, lkA, lkL, lkD, lkF, gI1, gL1, gF1, gD1, gA1, xw0, xwI, xwA, xwL, xwD, xwF, vtS, vtN, Option.bind_some, Option.bind_none, nZ0, nZ1, zr0, zr1, zr10, zr01, true_or, or_true, if_true, if_false, yC_s, yV_s, Nat.reduceAdd, Nat.reduceLeDiff, Nat.zero_le]
  by_cases h : x = 0 <;> simp [h]
theorem s_mostValue {σ : xS} {x : Int32} : xC1 mX6_mostValue [.int x] σ = some (.inl (some (.int (if x = nI 2 then nI 4 else nI 9))), σ) := by
  simp only [e_X6_mostValue, r_X6_mostValue_0, r_X6_mostValue_1, r_X6_mostValue_2, r_X6_mostValue_5, r_X6_mostValue_6, r_X6_mostValue_9, r_X6_mostValue_11, lg0, lg1, lg2, lg3, lg4, lg5, lg6, lg7, lg8, lg9, lg10, lg11, lg12, lg13, lg14, lg15, lg16, lg17, lg18, lg19, lg20, lg21, lg22, lg23, lg24, ls0, ls1, ls2, ls3, ls4, ls5, ls6, ls7, ls8, ls9, ls10, ls11, ls12, ls13, ls14, ls15, ls16, ls17, ls18, ls19, ls20, ls21, ls22, ls23, ls24, lw0, lw1, lw2, lw3, lw4, lw5, lw6, lw7, lw8, lw9, lw10, lw11, lw13, lw14, lw15, lw16, lw17, lw18, lw19, lw20, lw21, lw22, lw23, lw24, lk0, lkI, lkA, lkL, lkD, lkF, gI1, gL1, gF1, gD1, gA1, xw0, xwI, xwA, xwL, xwD, xwF, vtS, vtN, Option.bind_some, Option.bind_none, nZ0, nZ1, zr0, zr1, zr10, zr01, true_or, or_true, if_true, if_false, yC_s, yV_s, Nat.reduceAdd, Nat.reduceLeDiff, Nat.zero_le]
  by_cases h : x = nI 2 <;> simp [h]
