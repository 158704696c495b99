/-! ===== the model: why a step can't be made ===== -/
def zpx (s : Nat → Int32) (k : Nat) : Nat := (s (416 + 6 * k)).toNatClampNeg
def zpy (s : Nat → Int32) (k : Nat) : Nat := (s (416 + 6 * k + 1)).toNatClampNeg
/-- skaters stand at points -/
def zXY (s : Nat → Int32) : Prop := ∀ k, k < 3 → s (416 + 6 * k) = nI (zpx s k) ∧ s (416 + 6 * k + 1) = nI (zpy s k) ∧ zpx s k ≤ 8 ∧ zpy s k ≤ 8
def zdx (x d : Nat) : Nat := if d = 1 then x + 1 else if d = 3 then x - 1 else x
def zdy (y d : Nat) : Nat := if d = 2 then y + 1 else if d = 0 then y - 1 else y
def zt1 (s : Nat → Int32) (k X Y j : Nat) : Bool := !decide (j = k) && decide (zpx s j = X) && decide (zpy s j = Y)
def ztk (s : Nat → Int32) (k X Y : Nat) : Bool := zt1 s k X Y 0 || zt1 s k X Y 1 || zt1 s k X Y 2
def zba (s : Nat → Int32) (k d : Nat) : Nat :=
  if zlf (zpx s k) (zpy s k) d = 144 then 1
  else if ztk s k (zdx (zpx s k) d) (zdy (zpy s k) d) = true then 2
  else if zic s (zb1 (zlf (zpx s k) (zpy s k) d)) = false ∧ zic s (zb2 (zlf (zpx s k) (zpy s k) d)) = false then 3
  else if s (416 + 6 * k + 2) < zto s (nI k) (zlf (zpx s k) (zpy s k) d) then 4 else 0
theorem zlf_le {x y d : Nat} (hx : x ≤ 8) (hy : y ≤ 8) : zlf x y d ≤ 144 := by
  unfold zlf
  split
  · split <;> omega
  · split
    · split <;> omega
    · split
      · split <;> omega
      · split <;> omega
/-- a line leads to a point -/
theorem zlf_to {x y d : Nat} (hx : x ≤ 8) (hy : y ≤ 8) (hd : d < 4) (h : zlf x y d ≠ 144) : zdx x d ≤ 8 ∧ zdy y d ≤ 8 ∧ (d = 3 → 0 < x) ∧ (d = 0 → 0 < y) := by
  unfold zlf at h
  unfold zdx zdy
  match d, hd with
  | 0, _ => simp at h ⊢; omega
  | 1, _ => simp at h ⊢; omega
  | 2, _ => simp at h ⊢; omega
  | 3, _ => simp at h ⊢; omega
section Z6H
variable {C : ZC} {M : ZM} {e : ZE} {σ : xS}
end Z6H
