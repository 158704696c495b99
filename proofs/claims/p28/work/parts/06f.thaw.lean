/-! ===== the model's thaws ===== -/
theorem zna_0 : vp_nar .boolean (nI 0) = nI 0 := by decide +kernel
theorem zna_1 : vp_nar .boolean (nI 1) = nI 1 := by decide +kernel
/-- the cells that thaw -/
def ztw (s : Nat → Int32) (c : Nat) : Bool := zic s c && !decide (nI (zwb s c) < s 436)
theorem ztw_ice {s : Nat → Int32} {c : Nat} (h : ztw s c = true) : zic s c = true := by
  unfold ztw at h; simp only [Bool.and_eq_true] at h; exact h.1
/-- the cells below k of m become water -/
def zmk (s : Nat → Int32) (m : Nat → Bool) (k : Nat) : Nat → Int32 := fun j => if j < 64 then (if j < k ∧ m j = true then nI 0 else s j) else if j < 128 then (if j - 64 < k ∧ m (j - 64) = true then -1 else s j) else if j = 439 then s 439 + nI (cnt m k) else s j
theorem zmk_0 (s : Nat → Int32) (m : Nat → Bool) : zmk s m 0 = s := by
  funext j
  unfold zmk
  by_cases h1 : j < 64
  · simp [h1]
  · by_cases h2 : j < 128
    · simp [h1, h2]
    · by_cases h3 : j = 439
      · subst h3; simp only [h1, h2, if_false, if_true]; exact Int32.add_zero _
      · simp [h1, h2, h3]
theorem zmk_n {s : Nat → Int32} {m : Nat → Bool} {k : Nat} (h : m k = false) : zmk s m (k + 1) = zmk s m k := by
  have hc := zc_0 h
  funext j
  unfold zmk
  rw [hc]
  by_cases h1 : j < 64
  · rw [if_pos h1, if_pos h1]
    by_cases hj : j = k
    · subst hj; simp [h]
    · have : (j < k + 1 ∧ m j = true) ↔ (j < k ∧ m j = true) := ⟨fun q => ⟨by omega, q.2⟩, fun q => ⟨by omega, q.2⟩⟩
      simp only [this]
  · rw [if_neg h1, if_neg h1]
    by_cases h2 : j < 128
    · rw [if_pos h2, if_pos h2]
      by_cases hj : j - 64 = k
      · rw [hj]; simp [h]
      · have : (j - 64 < k + 1 ∧ m (j - 64) = true) ↔ (j - 64 < k ∧ m (j - 64) = true) := ⟨fun q => ⟨by omega, q.2⟩, fun q => ⟨by omega, q.2⟩⟩
        simp only [this]
    · rw [if_neg h2, if_neg h2]
theorem zmk_y {s : Nat → Int32} {m : Nat → Bool} {k : Nat} (hk : k < 64) (h : m k = true) (hi : zic s k = true) : zml (zmk s m k) k = zmk s m (k + 1) := by
  have hc := zc_1 h
  have hi2 : zic (zmk s m k) k = true := by
    rw [zic_iff hk] at hi ⊢
    simpa [zmk, hk] using hi
  unfold zml
  rw [if_pos hi2]
  funext j
  unfold upd zmk
  rw [← hc]
  by_cases h3 : j = 439
  · subst h3
    simp only [show ¬ 439 < 64 by omega, show ¬ 439 < 128 by omega, if_false, if_true]
    rw [Int32.add_assoc, nI_add]
  · rw [if_neg h3]
    by_cases h1 : j < 64
    · rw [if_neg (by omega), if_pos h1, if_pos h1]
      by_cases hj : j = k
      · subst hj; simp [h]
      · have : (j < k + 1 ∧ m j = true) ↔ (j < k ∧ m j = true) := ⟨fun q => ⟨by omega, q.2⟩, fun q => ⟨by omega, q.2⟩⟩
        rw [if_neg hj]; simp only [this]
    · by_cases h2 : j < 128
      · rw [if_neg h1, if_pos h2, if_neg h1, if_pos h2]
        by_cases hj : j = 64 + k
        · rw [if_pos hj, if_pos ⟨by omega, by rw [show j - 64 = k by omega]; exact h⟩]
        · have : (j - 64 < k + 1 ∧ m (j - 64) = true) ↔ (j - 64 < k ∧ m (j - 64) = true) := ⟨fun q => ⟨by omega, q.2⟩, fun q => ⟨by omega, q.2⟩⟩
          rw [if_neg hj, if_neg (by omega)]; simp only [this]
      · rw [if_neg (by omega), if_neg (by omega), if_neg h1, if_neg h2, if_neg h3, if_neg h1, if_neg h2, if_neg h3]
/-- behind a thaw -/
def zth (s : Nat → Int32) : Nat → Int32 := upd (zmk s (ztw s) 64) 438 (s 438 + nI 1)
def thn (s : Nat → Int32) : Nat → Nat → Int32
  | 0 => s
  | n + 1 => zth (thn s n)
section Z6F
variable {C : ZC} {M : ZM} {e : ZE} {σ : xS}
end Z6F
