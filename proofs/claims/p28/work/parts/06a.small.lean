/-! ===== the model's small methods ===== -/
section Z6
variable {C : ZC} {M : ZM} {e : ZE} {σ : xS}
def zin (x y : Int32) : Bool := decide (nI 0 ≤ x ∧ x ≤ nI 7) && decide (nI 0 ≤ y ∧ y ≤ nI 7)
theorem zb1_ok : ∀ l, l < 144 → (if nI l < nI 72 then (if zin (nI l - nI l / nI 8 * nI 8) (nI l / nI 8 - nI 1) = true then nI 8 * (nI l / nI 8 - nI 1) + (nI l - nI l / nI 8 * nI 8) else -1) else (if zin ((nI l - nI 72) - (nI l - nI 72) / nI 9 * nI 9 - nI 1) ((nI l - nI 72) / nI 9) = true then nI 8 * ((nI l - nI 72) / nI 9) + ((nI l - nI 72) - (nI l - nI 72) / nI 9 * nI 9 - nI 1) else -1)) = zcI (zb1 l) := by decide +kernel
theorem zb2_ok : ∀ l, l < 144 → (if nI l < nI 72 then (if zin (nI l - nI l / nI 8 * nI 8) (nI l / nI 8 - nI 0) = true then nI 8 * (nI l / nI 8 - nI 0) + (nI l - nI l / nI 8 * nI 8) else -1) else (if zin ((nI l - nI 72) - (nI l - nI 72) / nI 9 * nI 9 - nI 0) ((nI l - nI 72) / nI 9) = true then nI 8 * ((nI l - nI 72) / nI 9) + ((nI l - nI 72) - (nI l - nI 72) / nI 9 * nI 9 - nI 0) else -1)) = zcI (zb2 l) := by decide +kernel
theorem zb1_64 : ∀ l, l < 144 → zb1 l ≤ 64 := by decide +kernel
theorem zb2_64 : ∀ l, l < 144 → zb2 l ≤ 64 := by decide +kernel
def zN (b : Bool) : Nat := if b = true then 1 else 0
end Z6
