/-! ===== small methods: what a call answers ===== -/
theorem nZ0 : nI 0 = 0 := rfl
theorem nZ1 : nI 1 = 1 := rfl
def bI (b : Bool) : Int32 := if b = true then 1 else 0
theorem bI_t : bI true = 1 := rfl
theorem bI_f : bI false = 0 := rfl
theorem zr0 : ((0 : Int32) = 0 ∨ (0 : Int32) = 1) = True := by decide
theorem zr1 : ((1 : Int32) = 0 ∨ (1 : Int32) = 1) = True := by decide
theorem s_isDirection {σ : xS} {x : Int32} : xC1 mX6_isDirection [.int x] σ = some (.inl (some (.int (bI (decide (0 ≤ x) && decide (x ≤ nI 3))))), σ) := by
  simp only [e_X6_isDirection, r_X6_isDirection_0, r_X6_isDirection_1, r_X6_isDirection_4, r_X6_isDirection_5, r_X6_isDirection_6, r_X6_isDirection_9, r_X6_isDirection_10, r_X6_isDirection_13, r_X6_isDirection_14, lg0, lg1, lg2, lg3, lg4, lg5, lg6, lg7, lg8, lg9, lg10, lg11, lg12, ls0, ls1, ls2, ls3, ls4, ls5, ls6, ls7, ls8, ls9, ls10, ls11, ls12, lw0, lw1, lw2, lw3, lw4, lw5, lw6, lw7, lw8, lw9, lw10, lw11, lk0, lkI, lkA, lkL, lkD, lkF, gI1, gL1, gF1, gD1, gA1, xw0, xwI, xwA, xwL, xwD, xwF, vtS, vtN, Option.bind_some, Option.bind_none, nZ0, nZ1, zr0, zr1, if_true]
  done
