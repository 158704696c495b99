/-! ===== the model: a step ===== -/
def zon (s : Nat → Int32) (c : Nat) : Nat := (s (64 + c)).toNatClampNeg
/-- cells are owned by none or a skater -/
def zOW (s : Nat → Int32) : Prop := ∀ c, c < 64 → s (64 + c) = -1 ∨ (zon s c < 3 ∧ s (64 + c) = nI (zon s c))
def zsT (s : Nat → Int32) (k o : Nat) (t : Int32) : Nat → Int32 := upd (upd (upd (upd s (416 + 6 * k + 2) (s (416 + 6 * k + 2) - t)) (416 + 6 * k + 4) (s (416 + 6 * k + 4) + t)) (416 + 6 * o + 2) (s (416 + 6 * o + 2) + t)) (416 + 6 * o + 5) (s (416 + 6 * o + 5) + t)
def zs1 (s : Nat → Int32) (k l : Nat) : Nat → Int32 := if zto s (nI k) l ≤ nI 0 then s else zsT s k (zon s (zb1 l)) (zto s (nI k) l)
def zs2 (s : Nat → Int32) (l : Nat) : Nat → Int32 := upd s (272 + l) (s (272 + l) + nI 1)
def zmm (s : Nat → Int32) (l : Nat) : Nat → Int32 := zml (zml s (zb1 l)) (zb2 l)
noncomputable def zs3 (s : Nat → Int32) (k l : Nat) : Nat → Int32 := if s (272 + l) ≤ s 435 then (if zop s l = true then zpt s k l else s) else upd (zmm s l) 437 (zmm s l 437 + nI 1)
def zs4 (s : Nat → Int32) (k x y d : Nat) : Nat → Int32 := upd (upd (upd s (416 + 6 * k) (nI (zdx x d))) (416 + 6 * k + 1) (nI (zdy y d))) (416 + 6 * k + 3) (s (416 + 6 * k + 3) + nI 1)
noncomputable def zst (s : Nat → Int32) (k d : Nat) : Nat → Int32 := zs4 (zs3 (zs2 (zs1 s k (zlf (zpx s k) (zpy s k) d)) (zlf (zpx s k) (zpy s k) d)) k (zlf (zpx s k) (zpy s k) d)) k (zpx s k) (zpy s k) d
theorem zml_hi {s : Nat → Int32} {c j : Nat} (hc : c ≤ 64) (hj : 129 ≤ j) (hj2 : j ≠ 439) : zml s c j = s j := by
  unfold zml
  split
  · rw [upd_n _ _ hj2, upd_n _ _ (by omega), upd_n _ _ (by omega)]
  · rfl
theorem zpt_hi {s : Nat → Int32} {k l j : Nat} (hl : l < 144) (hj : 272 ≤ j) : zpt s k l j = s j := by
  unfold zpt
  split
  · exact upd_n _ _ (by omega)
  · unfold zow
    rw [if_neg (by omega)]
    exact upd_n _ _ (by omega)
theorem zs3_hi {s : Nat → Int32} {k l j : Nat} (hl : l < 144) (hj : 272 ≤ j) (h1 : j ≠ 437) (h2 : j ≠ 439) : zs3 s k l j = s j := by
  unfold zs3
  split
  · split
    · exact zpt_hi hl hj
    · rfl
  · rw [upd_n _ _ h1]
    unfold zmm
    rw [zml_hi (zb2_64 l hl) (by omega) h2, zml_hi (zb1_64 l hl) (by omega) h2]
theorem zto_pos {s : Nat → Int32} {k l : Nat} (h : ¬ zto s (nI k) l ≤ nI 0) : zic s (zb1 l) = true ∧ zic s (zb2 l) = true ∧ ¬ s (64 + zb1 l) = -1 ∧ ¬ s (64 + zb1 l) = nI k ∧ s (64 + zb1 l) = s (64 + zb2 l) ∧ zto s (nI k) l = s 434 := by
  unfold zto at h ⊢
  split at h
  · next h1 => rw [if_pos h1]; exact ⟨h1.1, h1.2.1, h1.2.2.1, h1.2.2.2.1, h1.2.2.2.2, rfl⟩
  · exact absurd (Int32.le_refl _) h
section Z6J
variable {C : ZC} {M : ZM} {e : ZE} {σ : xS}
theorem zs1_xy {s : Nat → Int32} {k l j i : Nat} (hi : i ≤ 1) (hj : j < 3) : zs1 s k l (416 + 6 * j + i) = s (416 + 6 * j + i) := by
  unfold zs1
  split
  · rfl
  · unfold zsT
    rw [upd_n _ _ (by omega), upd_n _ _ (by omega), upd_n _ _ (by omega), upd_n _ _ (by omega)]
end Z6J
