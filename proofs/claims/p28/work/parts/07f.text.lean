/-! ===== glides as texts ===== -/
def zdc (c : Int32) : Int32 := if c = nI 110 then nI 0 else if c = nI 101 then nI 1 else if c = nI 115 then nI 2 else if c = nI 119 then nI 3 else -1
/-- the reader's place behind a character: 4 an error -/
def zpb (p : Nat) (c : Int32) : Nat := match p with
  | 0 => if c = nI 116 then 3 else if nI 48 ≤ c ∧ c ≤ nI 50 then 1 else 4
  | 1 => if zdc c = -1 then 4 else 2
  | 2 => if nI 49 ≤ c ∧ c ≤ nI 56 then 3 else 4
  | 3 => if c = nI 59 then 0 else 4
  | _ => 4
def zpn (f : Nat → Int32) : Nat → Nat
  | 0 => 0
  | n + 1 => zpb (zpn f n) (f n)
theorem zpb_le (p : Nat) (c : Int32) : zpb p c ≤ 4 := by
  unfold zpb
  split <;> (try split) <;> (try split) <;> omega
theorem zpb_4 (c : Int32) : zpb 4 c = 4 := rfl
theorem zpn_4 {f : Nat → Int32} {k : Nat} (h : zpn f k = 4) : ∀ n, k ≤ n → zpn f n = 4
  | 0, hn => by have : k = 0 := by omega
                subst this; exact h
  | n + 1, hn => by
    by_cases hk : k ≤ n
    · show zpb (zpn f n) (f n) = 4
      rw [zpn_4 h n hk]; rfl
    · have : k = n + 1 := by omega
      subst this; exact h
/-- the first error -/
def zer (f : Nat → Int32) (n : Nat) : Nat := zfst (fun k => decide (zpn f (k + 1) = 4)) n
theorem zdc_c (c : Int32) : (c = nI 110 ∧ zdc c = nI 0) ∨ (c = nI 101 ∧ zdc c = nI 1) ∨ (c = nI 115 ∧ zdc c = nI 2) ∨ (c = nI 119 ∧ zdc c = nI 3) ∨ (¬ c = nI 110 ∧ ¬ c = nI 101 ∧ ¬ c = nI 115 ∧ ¬ c = nI 119 ∧ zdc c = -1) := by
  unfold zdc
  by_cases h1 : c = nI 110
  · exact Or.inl ⟨h1, by rw [if_pos h1]⟩
  · by_cases h2 : c = nI 101
    · exact Or.inr (Or.inl ⟨h2, by rw [if_neg h1, if_pos h2]⟩)
    · by_cases h3 : c = nI 115
      · exact Or.inr (Or.inr (Or.inl ⟨h3, by rw [if_neg h1, if_neg h2, if_pos h3]⟩))
      · by_cases h4 : c = nI 119
        · exact Or.inr (Or.inr (Or.inr (Or.inl ⟨h4, by rw [if_neg h1, if_neg h2, if_neg h3, if_pos h4]⟩)))
        · exact Or.inr (Or.inr (Or.inr (Or.inr ⟨h1, h2, h3, h4, by rw [if_neg h1, if_neg h2, if_neg h3, if_neg h4]⟩)))
section Z7F
variable {C : ZC} {M : ZM} {e : ZE} {σ : xS}
/-- how a right character leads on -/
theorem zpb_next {p : Nat} {c : Int32} (hp : p < 4) (h : zpb p c ≠ 4) : (c = nI 116 → zpb p c = 3) ∧ (¬ c = nI 116 → zpb p c = (p + 1) % 4) := by
  match p, hp with
  | 0, _ =>
    unfold zpb at *
    by_cases h2 : c = nI 116
    · exact ⟨fun _ => if_pos h2, fun q => absurd h2 q⟩
    · simp only [h2, if_false] at h ⊢
      refine ⟨fun q => q.elim, fun _ => ?_⟩
      split at h
      · next h3 => rw [if_pos h3]
      · exact absurd rfl h
  | 1, _ =>
    unfold zpb at *
    refine ⟨fun q => ?_, fun _ => ?_⟩
    · subst q; exact absurd (by decide) h
    · simp only at h ⊢
      split at h
      · exact absurd rfl h
      · next h3 => rw [if_neg h3]
  | 2, _ =>
    unfold zpb at *
    refine ⟨fun q => ?_, fun _ => ?_⟩
    · subst q; exact absurd (by decide) h
    · simp only at h ⊢
      split at h
      · next h3 => rw [if_pos h3]
      · exact absurd rfl h
  | 3, _ =>
    unfold zpb at *
    refine ⟨fun q => ?_, fun _ => ?_⟩
    · subst q; exact absurd (by decide) h
    · simp only at h ⊢
      split at h
      · next h3 => rw [if_pos h3]
      · exact absurd rfl h
theorem zpn_lt {f : Nat → Int32} {n k : Nat} (hk : k ≤ zer f n) : zpn f k < 4 := by
  cases k with
  | zero => exact Nat.zero_lt_succ _
  | succ k =>
    have := zfst_min (fun k => decide (zpn f (k + 1) = 4)) n k (by unfold zer at hk; omega)
    have h4 : zpn f (k + 1) ≠ 4 := of_decide_eq_false this
    have := zpb_le (zpn f k) (f k)
    show zpb (zpn f k) (f k) < 4
    have : zpb (zpn f k) (f k) ≠ 4 := h4
    omega
/-- where the model is at the end -/
def zpe (f : Nat → Int32) (n : Nat) : Int32 := if zer f n < n then -1 else nI (zpn f n)
def zwh (f : Nat → Int32) (n : Nat) : Bool := decide (zpn f n = 3)
theorem zer_wh {f : Nat → Int32} {n : Nat} (h : zpn f n = 3) : zer f n = n := by
  refine zfst_none (fun j hj => decide_eq_false (fun h4 => ?_))
  have := zpn_4 h4 n (by omega)
  omega
end Z7F
