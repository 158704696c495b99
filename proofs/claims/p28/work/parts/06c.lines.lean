/-! ===== the model: what is beside, lines, melting, tolls ===== -/
/-- the cells beside a cell: 0 north, 1 east, 2 south, 3 west (64: none) -/
def zn4 (c k : Nat) : Nat := if k = 0 then (if 8 ≤ c then c - 8 else 64) else if k = 1 then (if c % 8 = 7 then 64 else c + 1) else if k = 2 then (if c < 56 then c + 8 else 64) else (if c % 8 = 0 then 64 else c - 1)
/-- there is water -/
def zwt (s : Nat → Int32) (d : Nat) : Bool := decide (d < 64) && decide (s d = nI 0)
def zwb (s : Nat → Int32) (c : Nat) : Nat := zN (zwt s (zn4 c 0)) + zN (zwt s (zn4 c 1)) + zN (zwt s (zn4 c 2)) + zN (zwt s (zn4 c 3))
theorem zl01 : nI 0 + nI 1 = nI 1 := by decide
theorem zl12 : nI 1 + nI 1 = nI 2 := by decide
theorem zl23 : nI 2 + nI 1 = nI 3 := by decide
theorem zl34 : nI 3 + nI 1 = nI 4 := by decide
theorem zcI_neg {d : Nat} (h : ¬ d < 64) : zcI d = -1 := if_neg h
section Z6C
variable {C : ZC} {M : ZM} {e : ZE} {σ : xS}
theorem zc4_0 : ∀ c, c < 64 → (if zin (nI (c % 8) + nI 0) (nI (c / 8) + -1) = true then nI 8 * (nI (c / 8) + -1) + (nI (c % 8) + nI 0) else -1) = zcI (zn4 c 0) := by decide +kernel
theorem zc4_1 : ∀ c, c < 64 → (if zin (nI (c % 8) + nI 1) (nI (c / 8) + nI 0) = true then nI 8 * (nI (c / 8) + nI 0) + (nI (c % 8) + nI 1) else -1) = zcI (zn4 c 1) := by decide +kernel
theorem zc4_2 : ∀ c, c < 64 → (if zin (nI (c % 8) + nI 0) (nI (c / 8) + nI 1) = true then nI 8 * (nI (c / 8) + nI 1) + (nI (c % 8) + nI 0) else -1) = zcI (zn4 c 2) := by decide +kernel
theorem zc4_3 : ∀ c, c < 64 → (if zin (nI (c % 8) + -1) (nI (c / 8) + nI 0) = true then nI 8 * (nI (c / 8) + nI 0) + (nI (c % 8) + -1) else -1) = zcI (zn4 c 3) := by decide +kernel
/-- the line from a point in a direction; 144: none -/
def zlf (x y d : Nat) : Nat := if d = 0 then (if 0 < y then 72 + 9 * (y - 1) + x else 144) else if d = 1 then (if x < 8 then 8 * y + x else 144) else if d = 2 then (if y < 8 then 72 + 9 * y + x else 144) else (if 0 < x then 8 * y + x - 1 else 144)
def zlI (l : Nat) : Int32 := if l < 144 then nI l else -1
/-- an ice cell becomes water -/
def zml (s : Nat → Int32) (c : Nat) : Nat → Int32 := if zic s c = true then upd (upd (upd s c (nI 0)) (64 + c) (-1)) 439 (s 439 + nI 1) else s
/-- the toll that a skater has to pay for a line -/
def zto (s : Nat → Int32) (v : Int32) (l : Nat) : Int32 := if zic s (zb1 l) = true ∧ zic s (zb2 l) = true ∧ ¬ s (64 + zb1 l) = -1 ∧ ¬ s (64 + zb1 l) = v ∧ s (64 + zb1 l) = s (64 + zb2 l) then s 434 else nI 0
end Z6C
