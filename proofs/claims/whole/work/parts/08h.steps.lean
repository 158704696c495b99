/-! ===== ponds: parted rinks, steps ===== -/
theorem nI_cmp {a b : Nat} (ha : a ≤ 64) (hb : b ≤ 64) : ((nI a - nI b < 0) = (a < b)) ∧ ((nI a - nI b = 0) = (a = b)) := by
  have key : ∀ a, a < 65 → ∀ b, b < 65 → (decide (nI a - nI b < 0) = decide (a < b)) ∧ (decide (nI a - nI b = 0) = decide (a = b)) := by decide +kernel
  have h := key a (by omega) b (by omega)
  exact ⟨propext ⟨fun q => of_decide_eq_true (h.1 ▸ decide_eq_true q), fun q => of_decide_eq_true (h.1.symm ▸ decide_eq_true q)⟩, propext ⟨fun q => of_decide_eq_true (h.2 ▸ decide_eq_true q), fun q => of_decide_eq_true (h.2.symm ▸ decide_eq_true q)⟩⟩
theorem zrq_cnt {s : Nat → Int32} {a : Nat} (h : zic s a = true) : cnt (zrq s a) 64 = cnt (fun c => decide (zlo s c = zlo s a)) 64 := cnt_congr (fun c _ => by unfold zrq; rw [h]; rfl)
theorem zrq_low {s : Nat → Int32} {a : Nat} (h : zic s a = true) : zfst (zrq s a) 64 = zlo s a := zfst_eq (zlo_lt h) (by unfold zrq; rw [h, zlo_idem h]; simp) (fun j hj => by
  unfold zrq
  rw [h]
  simp only [Bool.true_and]
  refine decide_eq_false (fun hz => ?_)
  have hj2 := zlo_ice' (s := s) (c := j) (by have := zlo_lt h; omega)
  have := zlo_le hj2
  omega)
section Z8H
variable {C : ZC} {M : ZM} {e : ZE} {σ : xS} {i : Nat} {s : Nat → Int32}
theorem q_lowestOf {a : Nat} (h : zic s a = true) : xC1 mX6_lowestOf [.long (jset (zrq s a))] σ = some (.inl (some (.int (nI (zlo s a)))), σ) := by
  have hne : cnt (zrq s a) 64 ≠ 0 := by
    have := zc_pos (f := zrq s a) (zic_lt h) (by unfold zrq; rw [h]; simp)
    omega
  have hl := (js_low hne).2.2
  rw [s_lowestOf, hl, js_cnt, zrq_low h]
  have : cnt (fun c => decide (c < zlo s a)) 64 = zlo s a := by
    have key : ∀ n, n < 65 → cnt (fun c => decide (c < n)) 64 = n := by decide +kernel
    exact key _ (by have := zlo_lt h; omega)
  rw [this]
/-- both rinks of an open line are owned alike when it is cut -/
theorem zcu_ow (hs : zWF s) {l : Nat} (hl : l < 144) (ho : zop s l = true) {a c : Nat} (ha : a = zb1 l ∨ a = zb2 l) (h : zrc (zcu s l) 144 a c) : s (64 + c) = s (64 + zb1 l) := by
  obtain ⟨i1, i2, -⟩ := zop_ice ho
  have hW := zcu_WL hl ho hs.1
  have h1 := zow_rc hW.2.2.2.2 (Nat.le_refl _) h
  have e : ∀ j, j < 128 → zcu s l j = s j := fun j hj => upd_n _ _ (by omega)
  have hai : zic s a = true := by
    rcases ha with rfl | rfl
    · exact i1
    · exact i2
  have ha64 := zic_lt hai
  have hc64 := zic_lt (zrc_ice h (by rw [zcu_ic]; exact hai))
  rw [e _ (by omega), e _ (by omega)] at h1
  rw [h1]
  rcases ha with rfl | rfl
  · rfl
  · exact (hs.1.2.2.2.2 l hl ho).symm
end Z8H
