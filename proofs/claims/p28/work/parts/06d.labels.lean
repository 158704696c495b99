/-! ===== the model's labels: they spread until each cell of a rink has its lowest cell ===== -/
def zrl (s : Nat → Int32) (l : Nat) (f : Nat → Nat) : Nat → Nat := if zop s l = true then fun d => if d = zb1 l ∨ d = zb2 l then (if f (zb1 l) < f (zb2 l) then f (zb1 l) else f (zb2 l)) else f d else f
theorem zrl_t {s : Nat → Int32} {l : Nat} {f : Nat → Nat} (ho : zop s l = true) (d : Nat) : zrl s l f d = if d = zb1 l ∨ d = zb2 l then (if f (zb1 l) < f (zb2 l) then f (zb1 l) else f (zb2 l)) else f d := by
  unfold zrl; rw [if_pos ho]
theorem zrl_f {s : Nat → Int32} {l : Nat} {f : Nat → Nat} (ho : zop s l = false) : zrl s l f = f := by
  unfold zrl; rw [if_neg (by rw [ho]; decide)]
def zps (s : Nat → Int32) (f : Nat → Nat) : Nat → Nat → Nat
  | 0 => f
  | n + 1 => zrl s n (zps s f n)
def zmo (s : Nat → Int32) (f : Nat → Nat) : Nat → Bool
  | 0 => false
  | n + 1 => zmo s f n || (zop s n && !decide (zps s f n (zb1 n) = zps s f n (zb2 n)))
/-- what holds of labels -/
def zLI (s : Nat → Int32) (f : Nat → Nat) : Prop := (∀ c, zic s c = true → zrc s 144 c (f c)) ∧ (∀ c, zic s c = true → f c ≤ c) ∧ (∀ c, zic s c = false → f c = 64)
theorem zop_ice {s : Nat → Int32} {l : Nat} (h : zop s l = true) : zic s (zb1 l) = true ∧ zic s (zb2 l) = true ∧ s (128 + l) = nI 0 := by
  simp only [zop, Bool.and_eq_true, decide_eq_true_eq] at h
  exact ⟨h.1.1, h.1.2, h.2⟩
theorem zop_ad {s : Nat → Int32} {n l : Nat} (hl : l < n) (h : zop s l = true) : zad s n (zb1 l) (zb2 l) := ⟨l, hl, h, Or.inl ⟨rfl, rfl⟩⟩
theorem zLI_rl {s : Nat → Int32} {f : Nat → Nat} {l : Nat} (hl : l < 144) (h : zLI s f) : zLI s (zrl s l f) := by
  obtain ⟨h1, h2, h3⟩ := h
  cases ho : zop s l with
  | false => rw [zrl_f ho]; exact ⟨h1, h2, h3⟩
  | true =>
    obtain ⟨i1, i2, -⟩ := zop_ice ho
    have had := zop_ad hl ho
    have r1 : zrc s 144 (zb1 l) (if f (zb1 l) < f (zb2 l) then f (zb1 l) else f (zb2 l)) := by
      split
      · exact h1 _ i1
      · exact zrc_trans (zrc_step (zrc_refl _ _ _) had) (h1 _ i2)
    have r2 : zrc s 144 (zb2 l) (if f (zb1 l) < f (zb2 l) then f (zb1 l) else f (zb2 l)) := by
      split
      · exact zrc_trans (zrc_step (zrc_refl _ _ _) (zad_symm had)) (h1 _ i1)
      · exact h1 _ i2
    have b1 := h2 _ i1
    have b2 := h2 _ i2
    refine ⟨fun c hc => ?_, fun c hc => ?_, fun c hc => ?_⟩ <;> rw [zrl_t ho]
    · by_cases hd : c = zb1 l ∨ c = zb2 l
      · rw [if_pos hd]
        rcases hd with rfl | rfl
        · exact r1
        · exact r2
      · rw [if_neg hd]; exact h1 c hc
    · by_cases hd : c = zb1 l ∨ c = zb2 l
      · rw [if_pos hd]
        rcases hd with rfl | rfl <;> split <;> omega
      · rw [if_neg hd]; exact h2 c hc
    · have hd : ¬ (c = zb1 l ∨ c = zb2 l) := by
        rintro (rfl | rfl)
        · rw [i1] at hc; cases hc
        · rw [i2] at hc; cases hc
      rw [if_neg hd]; exact h3 c hc
theorem zLI_ps {s : Nat → Int32} {f : Nat → Nat} (h : zLI s f) : ∀ n, n ≤ 144 → zLI s (zps s f n)
  | 0, _ => h
  | n + 1, hn => zLI_rl (by omega) (zLI_ps h n (by omega))
theorem zrl_le (s : Nat → Int32) (l : Nat) (f : Nat → Nat) (c : Nat) : zrl s l f c ≤ f c := by
  cases ho : zop s l with
  | false => rw [zrl_f ho]; exact Nat.le_refl _
  | true =>
    rw [zrl_t ho]
    split
    · next hd => rcases hd with rfl | rfl <;> split <;> omega
    · exact Nat.le_refl _
theorem zps_le (s : Nat → Int32) (f : Nat → Nat) : ∀ n c, zps s f n c ≤ f c
  | 0, _ => Nat.le_refl _
  | n + 1, c => Nat.le_trans (zrl_le _ _ _ _) (zps_le s f n c)
theorem zmo_f {s : Nat → Int32} {f : Nat → Nat} : ∀ n, zmo s f n = false → zps s f n = f ∧ ∀ j, j < n → zop s j = true → f (zb1 j) = f (zb2 j)
  | 0, _ => ⟨rfl, fun j hj => absurd hj (Nat.not_lt_zero _)⟩
  | n + 1, h => by
    simp only [zmo, Bool.or_eq_false_iff] at h
    obtain ⟨h1, h2⟩ := zmo_f n h.1
    have h3 := h.2
    rw [h1] at h3
    have h4 : zop s n = true → f (zb1 n) = f (zb2 n) := by
      intro ho
      simpa [ho] using h3
    refine ⟨?_, fun j hj => ?_⟩
    · show zrl s n (zps s f n) = f
      rw [h1]
      cases ho : zop s n with
      | false => exact zrl_f ho
      | true =>
        funext d
        rw [zrl_t ho]
        have := h4 ho
        split
        · next hd => rcases hd with rfl | rfl <;> split <;> omega
        · rfl
    · by_cases hjn : j = n
      · subst hjn; exact h4
      · exact h2 j (by omega)
theorem zmo_t {s : Nat → Int32} {f : Nat → Nat} : ∀ n, zmo s f n = true → ∃ c, c < 64 ∧ zps s f n c < f c
  | 0, h => by cases h
  | n + 1, h => by
    simp only [zmo, Bool.or_eq_true, Bool.and_eq_true, Bool.not_eq_true', decide_eq_false_iff_not] at h
    rcases h with h | ⟨ho, hne⟩
    · obtain ⟨c, hc, hlt⟩ := zmo_t n h
      exact ⟨c, hc, Nat.lt_of_le_of_lt (zrl_le _ _ _ _) hlt⟩
    · obtain ⟨i1, i2, -⟩ := zop_ice ho
      have g1 := zps_le s f n (zb1 n)
      have g2 := zps_le s f n (zb2 n)
      by_cases hlt : zps s f n (zb1 n) < zps s f n (zb2 n)
      · refine ⟨zb2 n, zic_lt i2, ?_⟩
        show zrl s n (zps s f n) (zb2 n) < _
        rw [zrl_t ho, if_pos (Or.inr rfl), if_pos hlt]
        omega
      · refine ⟨zb1 n, zic_lt i1, ?_⟩
        show zrl s n (zps s f n) (zb1 n) < _
        rw [zrl_t ho, if_pos (Or.inl rfl), if_neg hlt]
        omega
theorem zrl_upd {s : Nat → Int32} {l : Nat} {f : Nat → Nat} (ho : zop s l = true) {m : Nat} (hm : m = if f (zb1 l) < f (zb2 l) then f (zb1 l) else f (zb2 l)) : upd (upd (fun c => nI (f c)) (zb1 l) (nI m)) (zb2 l) (nI m) = fun c => nI (zrl s l f c) := by
  funext d
  rw [zrl_t ho, ← hm]
  unfold upd
  by_cases h1 : d = zb1 l
  · by_cases h2 : d = zb2 l
    · rw [if_pos h2, if_pos (Or.inl h1)]
    · rw [if_neg h2, if_pos h1, if_pos (Or.inl h1)]
  · by_cases h2 : d = zb2 l
    · rw [if_pos h2, if_pos (Or.inr h2)]
    · rw [if_neg h2, if_neg h1, if_neg (fun h => h.elim h1 h2)]
theorem zLI_64 {s : Nat → Int32} {f : Nat → Nat} (h : zLI s f) (c : Nat) : f c ≤ 64 := by
  cases hc : zic s c with
  | true => have := h.2.1 c hc; have := zic_lt hc; omega
  | false => have := h.2.2 c hc; omega
section Z6D
variable {C : ZC} {M : ZM} {e : ZE} {σ : xS}
end Z6D
