/-! ===== the model: parts, steps ===== -/
/-- the part that is claimed -/
noncomputable def zpr (s : Nat → Int32) (a b : Nat) : Nat :=
  if cnt (fun c => decide (zlo s c = zlo s a)) 64 < cnt (fun c => decide (zlo s c = zlo s b)) 64 ∨ (cnt (fun c => decide (zlo s c = zlo s a)) 64 = cnt (fun c => decide (zlo s c = zlo s b)) 64 ∧ zlo s a < zlo s b) then zlo s a else zlo s b
/-- the cells with that lowest one are owned by v -/
noncomputable def zow (s : Nat → Int32) (p k n : Nat) : Nat → Int32 := fun j => if (64 ≤ j ∧ j < 64 + n) ∧ zlo s (j - 64) = p then nI k else s j
theorem zow_0 (s : Nat → Int32) (p k : Nat) : zow s p k 0 = s := by
  funext j; unfold zow; rw [if_neg (by omega)]
theorem zow_s (s : Nat → Int32) (p k n : Nat) : upd (zow s p k n) (64 + n) (if zlo s n = p then nI k else s (64 + n)) = zow s p k (n + 1) := by
  funext j; unfold upd zow
  by_cases h1 : j = 64 + n
  · subst h1
    rw [if_pos rfl, Nat.add_sub_cancel_left]
    by_cases h2 : zlo s n = p
    · rw [if_pos h2, if_pos ⟨by omega, h2⟩]
    · rw [if_neg h2, if_neg (fun q => h2 q.2)]
  · rw [if_neg h1]
    by_cases h2 : (64 ≤ j ∧ j < 64 + n) ∧ zlo s (j - 64) = p
    · rw [if_pos h2, if_pos ⟨by omega, h2.2⟩]
    · rw [if_neg h2, if_neg (fun q => h2 ⟨by omega, q.2⟩)]
/-- a line is cut -/
def zcu (s : Nat → Int32) (l : Nat) : Nat → Int32 := upd s (128 + l) (nI 1)
noncomputable def zpt (s : Nat → Int32) (k l : Nat) : Nat → Int32 :=
  if zlo (zcu s l) (zb1 l) = zlo (zcu s l) (zb2 l) ∨ ¬ s (64 + zb1 l) = -1 then zcu s l else zow (zcu s l) (zpr (zcu s l) (zb1 l) (zb2 l)) k 64
section Z6I
variable {C : ZC} {M : ZM} {e : ZE} {σ : xS}
end Z6I
