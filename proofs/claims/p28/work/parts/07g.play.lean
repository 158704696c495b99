/-! ===== the model plays a text ===== -/
def zdg (x : Int32) : Nat := (x - nI 48).toNatClampNeg
def zdr (x : Int32) : Nat := (zdc x).toNatClampNeg
noncomputable def zpy1 (f : Nat → Int32) (n : Nat) : Nat → Nat → (Nat → Int32) → Nat → Nat × (Nat → Int32)
  | 0, _, s, a => (a, s)
  | u + 1, k, s, a => if k < n then (if f k = nI 116 then zpy1 f n u (k + 2) (zth s) a else (if (zgl (zdg (f k)) (zdr (f (k + 1))) (zdg (f (k + 2))) s).1 = zdg (f (k + 2)) then zpy1 f n u (k + 4) (zgl (zdg (f k)) (zdr (f (k + 1))) (zdg (f (k + 2))) s).2 (a + (zgl (zdg (f k)) (zdr (f (k + 1))) (zdg (f (k + 2))) s).1) else (a + (zgl (zdg (f k)) (zdr (f (k + 1))) (zdg (f (k + 2))) s).1, (zgl (zdg (f k)) (zdr (f (k + 1))) (zdg (f (k + 2))) s).2))) else (a, s)
noncomputable def zpl (f : Nat → Int32) (n : Nat) (s : Nat → Int32) : Nat × (Nat → Int32) := zpy1 f n 61 0 s 0
theorem i32_rg {x : Int32} {a b : Nat} (hb : b < 2 ^ 30) (h : nI a ≤ x ∧ x ≤ nI b) (hab : a ≤ b) : ∃ k, a ≤ k ∧ k ≤ b ∧ x = nI k := by
  have h0 : ¬ x < 0 := fun h1 => by
    have h2 := Int32.lt_of_le_of_lt h.1 h1
    exact nI_pos (by omega) h2
  obtain ⟨j, hj, rfl⟩ := nI_of h0
  exact ⟨j, (nI_leI (by omega) hj).mp h.1, (nI_leI hj (by omega)).mp h.2, rfl⟩
/-- what stands where in a whole text -/
theorem zwx {f : Nat → Int32} {n k : Nat} (h3 : zpn f n = 3) (hk : k < n) (h0 : zpn f k = 0) : (f k = nI 116 ∧ (n < k + 2 ∨ (k + 2 < n ∧ zpn f (k + 2) = 0)) ∧ zpn f (k + 1) = 3) ∨ (¬ f k = nI 116 ∧ k + 2 < n ∧ (∃ q, q < 3 ∧ f k = nI (48 + q)) ∧ zpn f (k + 1) = 1 ∧ (∃ d, d < 4 ∧ zdc (f (k + 1)) = nI d) ∧ zpn f (k + 2) = 2 ∧ (∃ t, 1 ≤ t ∧ t ≤ 8 ∧ f (k + 2) = nI (48 + t)) ∧ zpn f (k + 3) = 3 ∧ (n < k + 4 ∨ (k + 4 < n ∧ zpn f (k + 4) = 0 ∧ zpn f (k + 3) = 3))) := by
  have hno : ∀ j, j ≤ n → zpn f j ≠ 4 := fun j hj h4 => by have := zpn_4 h4 n hj; omega
  have hbe : ∀ j, zpn f j = 3 → j ≤ n → (n < j + 1 ∨ (j + 1 < n ∧ zpn f (j + 1) = 0)) := by
    intro j hj hjn
    by_cases hlt : j < n
    · have h1 := hno (j + 1) (by omega)
      have h2 : zpn f (j + 1) = zpb (zpn f j) (f j) := rfl
      rw [hj] at h2
      unfold zpb at h2
      simp only at h2
      split at h2
      · refine Or.inr ⟨?_, h2⟩
        by_cases hq : j + 1 = n
        · rw [hq, h3] at h2; cases h2
        · omega
      · exact absurd h2 h1
    · exact Or.inl (by omega)
  have e1 : zpn f (k + 1) = zpb (zpn f k) (f k) := rfl
  rw [h0] at e1
  unfold zpb at e1
  simp only at e1
  by_cases ht : f k = nI 116
  · rw [if_pos ht] at e1
    have := hbe (k + 1) e1 (by omega)
    exact Or.inl ⟨ht, this.imp (fun h => by omega) (fun h => ⟨by omega, h.2⟩), e1⟩
  · rw [if_neg ht] at e1
    split at e1
    · next hr =>
      obtain ⟨q, q1, q2, q3⟩ := i32_rg (by omega) hr (by omega)
      have k1 : k + 1 < n := by
        by_cases hq : k + 1 = n
        · rw [hq, h3] at e1; cases e1
        · omega
      have e2 : zpn f (k + 2) = zpb (zpn f (k + 1)) (f (k + 1)) := rfl
      rw [e1] at e2
      unfold zpb at e2
      simp only at e2
      split at e2
      · exact absurd e2 (hno (k + 2) (by omega))
      · next hd =>
        have k2 : k + 2 < n := by
          by_cases hq : k + 2 = n
          · rw [hq, h3] at e2; cases e2
          · omega
        have e3 : zpn f (k + 3) = zpb (zpn f (k + 2)) (f (k + 2)) := rfl
        rw [e2] at e3
        unfold zpb at e3
        simp only at e3
        split at e3
        · next hs =>
          obtain ⟨t, t1, t2, t3⟩ := i32_rg (by omega) hs (by omega)
          have hb := hbe (k + 3) e3 (by omega)
          refine Or.inr ⟨ht, k2, ⟨q - 48, by omega, by rw [q3]; congr 1; omega⟩, e1, ?_, e2, ⟨t - 48, by omega, by omega, by rw [t3]; congr 1; omega⟩, e3, ?_⟩
          · rcases zdc_c (f (k + 1)) with ⟨-, h2⟩ | ⟨-, h2⟩ | ⟨-, h2⟩ | ⟨-, h2⟩ | ⟨-, -, -, -, h2⟩
            · exact ⟨0, by omega, h2⟩
            · exact ⟨1, by omega, h2⟩
            · exact ⟨2, by omega, h2⟩
            · exact ⟨3, by omega, h2⟩
            · exact absurd h2 hd
          · rcases hb with h | ⟨h, h'⟩
            · exact Or.inl (by omega)
            · exact Or.inr ⟨by omega, h', e3⟩
        · exact absurd e3 (hno (k + 3) (by omega))
    · exact absurd e1 (hno (k + 1) (by omega))
theorem zpy1_WF {f : Nat → Int32} {n : Nat} (h3 : zpn f n = 3) : ∀ u k s a, zWF s → (n < k ∨ (k < n ∧ zpn f k = 0)) → zWF (zpy1 f n u k s a).2
  | 0, _, _, _, h, _ => h
  | u + 1, k, s, a, h, hk => by
    simp only [zpy1]
    by_cases hkn : k < n
    · rw [if_pos hkn]
      have h0 : zpn f k = 0 := hk.elim (fun h => absurd hkn (by omega)) (fun h => h.2)
      rcases zwx h3 hkn h0 with ⟨ht, hb, -⟩ | ⟨ht, k2, ⟨q, q1, q2⟩, -, ⟨d, d1, d2⟩, -, ⟨t, t1, t2, t3⟩, -, hb⟩
      · rw [if_pos ht]
        exact zpy1_WF h3 u _ _ _ (zth_WF h) hb
      · rw [if_neg ht]
        have hq : zdg (f k) < 3 := by unfold zdg; rw [q2, pk_sub (by omega), nI_clamp (by omega)]; omega
        have hd : zdr (f (k + 1)) < 4 := by unfold zdr; rw [d2, nI_clamp (by omega)]; omega
        have hw := zgl_WF hq hd (zdg (f (k + 2))) s h
        split
        · exact zpy1_WF h3 u _ _ _ hw (hb.imp id (fun q => ⟨q.1, q.2.1⟩))
        · exact hw
    · rw [if_neg hkn]; exact h
section Z7G
variable {C : ZC} {M : ZM} {e : ZE} {σ : xS}
end Z7G
