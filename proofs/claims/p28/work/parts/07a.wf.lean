/-! ===== what always holds of the row ===== -/
def zW1 (s : Nat → Int32) : Prop := ∀ c, c < 64 → s c = nI 0 ∨ s c = nI 1
def zW2 (s : Nat → Int32) : Prop := ∀ c, c < 64 → ¬ s (64 + c) = -1 → s c = nI 1
def zW3 (s : Nat → Int32) : Prop := ∀ l, l < 144 → (s (128 + l) = nI 0 ∨ s (128 + l) = nI 1) ∧ ((zb1 l = 64 ∨ zb2 l = 64) → s (128 + l) = nI 0)
def zW4 (s : Nat → Int32) : Prop := ∀ l, l < 144 → zop s l = true → s (64 + zb1 l) = s (64 + zb2 l)
def zW6 (s : Nat → Int32) : Prop := ∃ a b c, s 434 = nI a ∧ a ≤ 9 ∧ s 435 = nI b ∧ 1 ≤ b ∧ b ≤ 9 ∧ s 436 = nI c ∧ 1 ≤ c ∧ c ≤ 4
def zW7 (s : Nat → Int32) : Prop := ∃ p0 p1 p2, s 418 = nI p0 ∧ s 424 = nI p1 ∧ s 430 = nI p2 ∧ s 440 = nI (p0 + p1 + p2) ∧ p0 + p1 + p2 ≤ 9999
def zWL (s : Nat → Int32) : Prop := zW1 s ∧ zOW s ∧ zW2 s ∧ zW3 s ∧ zW4 s
def zWH (s : Nat → Int32) : Prop := zXY s ∧ zW6 s ∧ zW7 s
def zWF (s : Nat → Int32) : Prop := zWL s ∧ zWH s
theorem zic_congr {s s' : Nat → Int32} (h : ∀ c, c < 64 → s' c = s c) (c : Nat) : zic s' c = zic s c := by
  unfold zic
  by_cases hc : c < 64
  · rw [h c hc]
  · simp [hc]
theorem zop_congr {s s' : Nat → Int32} (h : ∀ c, c < 64 → s' c = s c) {l : Nat} (hl : s' (128 + l) = s (128 + l)) : zop s' l = zop s l := by
  unfold zop; rw [zic_congr h, zic_congr h, hl]
theorem zWL_low {s s' : Nat → Int32} (h : ∀ j, j < 272 → s' j = s j) (hw : zWL s) : zWL s' := by
  obtain ⟨h1, h2, h3, h4, h5⟩ := hw
  refine ⟨fun c hc => ?_, fun c hc => ?_, fun c hc hn => ?_, fun l hl => ?_, fun l hl ho => ?_⟩
  · rw [h c (by omega)]; exact h1 c hc
  · unfold zon; rw [h (64 + c) (by omega)]; exact h2 c hc
  · rw [h (64 + c) (by omega)] at hn; rw [h c (by omega)]; exact h3 c hc hn
  · rw [h (128 + l) (by omega)]; exact h4 l hl
  · rw [zop_congr (fun c hc => h c (by omega)) (h (128 + l) (by omega))] at ho
    have g := zop_ice ho
    rw [h (64 + zb1 l) (by have := zic_lt g.1; omega), h (64 + zb2 l) (by have := zic_lt g.2.1; omega)]
    exact h5 l hl ho
theorem zWH_eq {s s' : Nat → Int32} (h : ∀ j, 416 ≤ j → j < 441 → j ≠ 437 → j ≠ 438 → j ≠ 439 → s' j = s j) (hw : zWH s) : zWH s' := by
  obtain ⟨h1, h2, h3⟩ := hw
  refine ⟨fun k hk => ?_, ?_, ?_⟩
  · unfold zpx zpy
    rw [h (416 + 6 * k) (by omega) (by omega) (by omega) (by omega) (by omega), h (416 + 6 * k + 1) (by omega) (by omega) (by omega) (by omega) (by omega)]
    exact h1 k hk
  · unfold zW6
    rw [h 434 (by omega) (by omega) (by omega) (by omega) (by omega), h 435 (by omega) (by omega) (by omega) (by omega) (by omega), h 436 (by omega) (by omega) (by omega) (by omega) (by omega)]
    exact h2
  · unfold zW7
    rw [h 418 (by omega) (by omega) (by omega) (by omega) (by omega), h 424 (by omega) (by omega) (by omega) (by omega) (by omega), h 430 (by omega) (by omega) (by omega) (by omega) (by omega), h 440 (by omega) (by omega) (by omega) (by omega) (by omega)]
    exact h3
/-- some cells become water -/
theorem zWL_melt {s s' : Nat → Int32} {m : Nat → Bool} (ha : ∀ c, c < 64 → s' c = if m c = true then nI 0 else s c) (hb : ∀ c, c < 64 → s' (64 + c) = if m c = true then -1 else s (64 + c)) (hc : ∀ l, l < 144 → s' (128 + l) = s (128 + l)) (hw : zWL s) : zWL s' := by
  obtain ⟨h1, h2, h3, h4, h5⟩ := hw
  have hic : ∀ c, zic s' c = true → c < 64 ∧ zic s c = true ∧ m c = false := by
    intro c h
    have hc := zic_lt h
    rw [zic_iff hc, ha c hc] at h
    cases hm : m c with
    | true => rw [hm] at h; simp at h; exact absurd h (by decide)
    | false => rw [hm] at h; rw [zic_iff hc]; exact ⟨hc, by simpa using h, rfl⟩
  refine ⟨fun c hc => ?_, fun c hc => ?_, fun c hc hn => ?_, fun l hl => ?_, fun l hl ho => ?_⟩
  · rw [ha c hc]; split
    · exact Or.inl rfl
    · exact h1 c hc
  · unfold zon; rw [hb c hc]; split
    · exact Or.inl rfl
    · exact h2 c hc
  · rw [hb c hc] at hn; rw [ha c hc]
    split at hn
    · exact absurd rfl hn
    · next hm => rw [if_neg hm]; exact h3 c hc hn
  · rw [hc l hl]; exact h4 l hl
  · obtain ⟨i1, i2, i3⟩ := zop_ice ho
    obtain ⟨g1, g2, g3⟩ := hic _ i1
    obtain ⟨k1, k2, k3⟩ := hic _ i2
    rw [hb _ g1, hb _ k1, g3, k3]
    refine h5 l hl ?_
    rw [hc l hl] at i3
    simp only [zop, g2, k2, i3]; decide
theorem zml_melt {s : Nat → Int32} {c : Nat} (hc : c ≤ 64) (hw : zWL s) : zWL (zml s c) := by
  unfold zml
  split
  · next hi =>
    have hc := zic_lt hi
    refine zWL_melt (m := fun d => decide (d = c)) (fun d hd => ?_) (fun d hd => ?_) (fun l hl => ?_) hw
    · rw [upd_n _ _ (by omega), upd_n _ _ (by omega)]
      unfold upd; simp
    · rw [upd_n _ _ (by omega)]
      by_cases h : d = c
      · subst h; rw [upd_s]; simp
      · rw [upd_n _ _ (by omega), upd_n _ _ (by omega)]; simp [h]
    · rw [upd_n _ _ (by omega), upd_n _ _ (by omega), upd_n _ _ (by omega)]
  · exact hw
theorem zcu_op {s : Nat → Int32} {l j : Nat} (h : zop (zcu s l) j = true) (hj : j < 144) : zop s j = true ∧ j ≠ l := by
  by_cases hjl : j = l
  · subst hjl
    have := (zop_ice h).2.2
    unfold zcu at this
    rw [upd_s] at this
    exact absurd this (by decide)
  · refine ⟨?_, hjl⟩
    rwa [zop_congr (s := s) (s' := zcu s l) (fun c hc => upd_n _ _ (by omega)) (upd_n _ _ (by omega))] at h
theorem zcu_ic (s : Nat → Int32) (l c : Nat) : zic (zcu s l) c = zic s c := zic_congr (fun c hc => upd_n _ _ (by omega)) c
theorem zcu_WL {s : Nat → Int32} {l : Nat} (hl : l < 144) (ho : zop s l = true) (hw : zWL s) : zWL (zcu s l) := by
  obtain ⟨h1, h2, h3, h4, h5⟩ := hw
  obtain ⟨i1, i2, -⟩ := zop_ice ho
  have i1 := zic_lt i1
  have i2 := zic_lt i2
  have e : ∀ j, j < 128 → zcu s l j = s j := fun j hj => upd_n _ _ (by omega)
  refine ⟨fun c hc => ?_, fun c hc => ?_, fun c hc hn => ?_, fun j hj => ?_, fun j hj hjo => ?_⟩
  · rw [e c (by omega)]; exact h1 c hc
  · unfold zon; rw [e (64 + c) (by omega)]; exact h2 c hc
  · rw [e (64 + c) (by omega)] at hn; rw [e c (by omega)]; exact h3 c hc hn
  · by_cases hjl : j = l
    · subst hjl
      unfold zcu; rw [upd_s]
      exact ⟨Or.inr rfl, fun h => by omega⟩
    · rw [show zcu s l (128 + j) = s (128 + j) from upd_n _ _ (by omega)]; exact h4 j hj
  · obtain ⟨g1, g2⟩ := zcu_op hjo hj
    have q := zop_ice g1
    rw [e _ (by have := zic_lt q.1; omega), e _ (by have := zic_lt q.2.1; omega)]
    exact h5 j hj g1
theorem zow_WL {s : Nat → Int32} {p k : Nat} (hp : p < 64) (hk : k < 3) (hw : zWL s) : zWL (zow s p k 64) := by
  obtain ⟨h1, h2, h3, h4, h5⟩ := hw
  have e : ∀ j, j < 64 ∨ 128 ≤ j → zow s p k 64 j = s j := fun j hj => by unfold zow; rw [if_neg (by omega)]
  have eo : ∀ c, c < 64 → zow s p k 64 (64 + c) = if zlo s c = p then nI k else s (64 + c) := fun c hc => by
    unfold zow
    rw [Nat.add_sub_cancel_left]
    by_cases h : zlo s c = p
    · rw [if_pos ⟨by omega, h⟩, if_pos h]
    · rw [if_neg (fun q => h q.2), if_neg h]
  refine ⟨fun c hc => ?_, fun c hc => ?_, fun c hc hn => ?_, fun j hj => ?_, fun j hj hjo => ?_⟩
  · rw [e c (by omega)]; exact h1 c hc
  · unfold zon; rw [eo c hc]; split
    · exact Or.inr (by rw [nI_clamp (by omega)]; exact ⟨hk, rfl⟩)
    · exact h2 c hc
  · rw [e c (by omega)]
    rw [eo c hc] at hn
    split at hn
    · next hz =>
      have := zlo_ice' (s := s) (c := c) (by omega)
      rw [zic_iff hc] at this
      simpa using this
    · exact h3 c hc hn
  · rw [e (128 + j) (by omega)]; exact h4 j hj
  · rw [zop_congr (s := s) (fun c hc => e c (by omega)) (e _ (by omega))] at hjo
    obtain ⟨i1, i2, -⟩ := zop_ice hjo
    rw [eo _ (zic_lt i1), eo _ (zic_lt i2), zlo_eq i1 (zrc_step (zrc_refl _ _ _) (zop_ad hj hjo)), h5 j hj hjo]
theorem zpr_lt {s : Nat → Int32} {a b : Nat} (ha : zic s a = true) (hb : zic s b = true) : zpr s a b < 64 := by
  unfold zpr; split
  · exact zlo_lt ha
  · exact zlo_lt hb
theorem zpt_WL {s : Nat → Int32} {k l : Nat} (hk : k < 3) (hl : l < 144) (ho : zop s l = true) (hw : zWL s) : zWL (zpt s k l) := by
  obtain ⟨i1, i2, -⟩ := zop_ice ho
  unfold zpt
  split
  · exact zcu_WL hl ho hw
  · exact zow_WL (zpr_lt (by rw [zcu_ic]; exact i1) (by rw [zcu_ic]; exact i2)) hk (zcu_WL hl ho hw)
theorem zs3_WL {s : Nat → Int32} {k l : Nat} (hk : k < 3) (hl : l < 144) (hw : zWL s) : zWL (zs3 s k l) := by
  unfold zs3
  split
  · split
    · exact zpt_WL hk hl (by assumption) hw
    · exact hw
  · exact zWL_low (fun j hj => upd_n _ _ (by omega)) (zml_melt (zb2_64 l hl) (zml_melt (zb1_64 l hl) hw))
theorem zs1_lo {s : Nat → Int32} {k l j : Nat} (hj : j < 416) : zs1 s k l j = s j := by
  unfold zs1; split
  · rfl
  · unfold zsT
    rw [upd_n _ _ (by omega), upd_n _ _ (by omega), upd_n _ _ (by omega), upd_n _ _ (by omega)]
theorem zs4_lo {s : Nat → Int32} {k x y d j : Nat} (hj : j < 416) : zs4 s k x y d j = s j := by
  unfold zs4
  rw [upd_n _ _ (by omega), upd_n _ _ (by omega), upd_n _ _ (by omega)]
theorem zst_WL {s : Nat → Int32} {k d : Nat} (hk : k < 3) (hl : zlf (zpx s k) (zpy s k) d < 144) (hw : zWL s) : zWL (zst s k d) := by
  unfold zst
  refine zWL_low (fun j hj => zs4_lo (by omega)) (zs3_WL hk hl (zWL_low (fun j hj => ?_) hw))
  unfold zs2
  rw [upd_n _ _ (by omega)]
  exact zs1_lo (by omega)
/-- what a step changes of the numbers -/
theorem zst_hi {s : Nat → Int32} {k d j : Nat} (hl : zlf (zpx s k) (zpy s k) d < 144) (hj : 416 ≤ j) (h1 : j ≠ 437) (h2 : j ≠ 439) : zst s k d j = zs4 (zs1 s k (zlf (zpx s k) (zpy s k) d)) k (zpx s k) (zpy s k) d j := by
  unfold zst
  have e : ∀ i, 416 ≤ i → i ≠ 437 → i ≠ 439 → zs3 (zs2 (zs1 s k (zlf (zpx s k) (zpy s k) d)) (zlf (zpx s k) (zpy s k) d)) k (zlf (zpx s k) (zpy s k) d) i = zs1 s k (zlf (zpx s k) (zpy s k) d) i := by
    intro i q1 q2 q3
    rw [zs3_hi hl (by omega) q2 q3]
    unfold zs2
    exact upd_n _ _ (by omega)
  unfold zs4 upd
  split
  · by_cases hk : 416 + 6 * k + 3 ≠ 437 ∧ 416 + 6 * k + 3 ≠ 439
    · rw [e _ (by omega) hk.1 hk.2]
    · exfalso; omega
  · split
    · rfl
    · split
      · rfl
      · exact e j hj h1 h2
theorem zba_0 {s : Nat → Int32} {k d : Nat} (hX : zXY s) (hk : k < 3) (h : zba s k d = 0) : zlf (zpx s k) (zpy s k) d < 144 ∧ ¬ s (416 + 6 * k + 2) < zto s (nI k) (zlf (zpx s k) (zpy s k) d) := by
  obtain ⟨-, -, g3, g4⟩ := hX k hk
  have hle := zlf_le (d := d) g3 g4
  unfold zba at h
  split at h
  · omega
  · split at h
    · omega
    · split at h
      · omega
      · split at h
        · omega
        · next h4 => exact ⟨by omega, h4⟩
theorem zst_XY {s : Nat → Int32} {k d : Nat} (hk : k < 3) (hd : d < 4) (hX : zXY s) (hl : zlf (zpx s k) (zpy s k) d < 144) : zXY (zst s k d) := by
  obtain ⟨g1, g2, g3, g4⟩ := hX k hk
  obtain ⟨t1, t2, -, -⟩ := zlf_to g3 g4 hd (by omega)
  have ex : ∀ j, j < 3 → zst s k d (416 + 6 * j) = if j = k then nI (zdx (zpx s k) d) else s (416 + 6 * j) := by
    intro j hj
    rw [zst_hi hl (by omega) (by omega) (by omega)]
    unfold zs4
    rw [upd_n _ _ (by omega), upd_n _ _ (by omega)]
    by_cases h : j = k
    · subst h; rw [upd_s, if_pos rfl]
    · rw [upd_n _ _ (by omega), if_neg h]; exact zs1_xy (i := 0) (by omega) hj
  have ey : ∀ j, j < 3 → zst s k d (416 + 6 * j + 1) = if j = k then nI (zdy (zpy s k) d) else s (416 + 6 * j + 1) := by
    intro j hj
    rw [zst_hi hl (by omega) (by omega) (by omega)]
    unfold zs4
    rw [upd_n _ _ (by omega)]
    by_cases h : j = k
    · subst h; rw [upd_s, if_pos rfl]
    · rw [upd_n _ _ (by omega), upd_n _ _ (by omega), if_neg h]; exact zs1_xy (i := 1) (by omega) hj
  intro j hj
  unfold zpx zpy
  rw [ex j hj, ey j hj]
  split
  · rw [nI_clamp (by omega), nI_clamp (by omega)]; exact ⟨rfl, rfl, t1, t2⟩
  · exact hX j hj
theorem zs4_at {s : Nat → Int32} {k x y d j i : Nat} (hi : i = 2 ∨ i = 4 ∨ i = 5) : zs4 s k x y d (416 + 6 * j + i) = s (416 + 6 * j + i) := by
  unfold zs4
  rw [upd_n _ _ (by omega), upd_n _ _ (by omega), upd_n _ _ (by omega)]
theorem zs1_p {s : Nat → Int32} {k l j : Nat} (hk : k < 3) (hj : j < 3) (hO : zOW s) : zs1 s k l (416 + 6 * j + 2) = if zto s (nI k) l ≤ nI 0 then s (416 + 6 * j + 2) else if j = k then s (416 + 6 * k + 2) - zto s (nI k) l else if j = zon s (zb1 l) then s (416 + 6 * j + 2) + zto s (nI k) l else s (416 + 6 * j + 2) := by
  unfold zs1
  split
  · rfl
  · next ht =>
    obtain ⟨i1, i2, h3, h4, h5, h6⟩ := zto_pos ht
    obtain h7 | ⟨h7, h8⟩ := hO _ (zic_lt i1)
    · exact absurd h7 h3
    have hok : zon s (zb1 l) ≠ k := fun h => h4 (by rw [h8, h])
    unfold zsT
    generalize zon s (zb1 l) = o at *
    rw [upd_n _ _ (by omega)]
    by_cases hjo : j = o
    · subst hjo
      rw [upd_s, if_neg hok, if_pos rfl]
    · rw [upd_n _ _ (by omega), upd_n _ _ (by omega)]
      by_cases hjk : j = k
      · subst hjk; rw [upd_s, if_pos rfl]
      · rw [upd_n _ _ (by omega), if_neg hjk, if_neg hjo]
theorem zst_WH {s : Nat → Int32} {k d : Nat} (hk : k < 3) (hd : d < 4) (hO : zOW s) (hw : zWH s) (hb : zba s k d = 0) : zWH (zst s k d) := by
  obtain ⟨hX, h6, h7⟩ := hw
  obtain ⟨hl, ht⟩ := zba_0 hX hk hb
  refine ⟨zst_XY hk hd hX hl, ?_, ?_⟩
  · have e : ∀ j, 434 ≤ j → j < 437 → zst s k d j = s j := fun j q1 q2 => by
      rw [zst_hi hl (by omega) (by omega) (by omega)]
      unfold zs4
      rw [upd_n _ _ (by omega), upd_n _ _ (by omega), upd_n _ _ (by omega)]
      unfold zs1; split
      · rfl
      · next ht =>
        obtain ⟨i1, i2, h3, h4, h5, h6⟩ := zto_pos ht
        obtain h7 | ⟨h7, h8⟩ := hO _ (zic_lt i1)
        · exact absurd h7 h3
        unfold zsT
        rw [upd_n _ _ (by omega), upd_n _ _ (by omega), upd_n _ _ (by omega), upd_n _ _ (by omega)]
    unfold zW6
    rw [e 434 (by omega) (by omega), e 435 (by omega) (by omega), e 436 (by omega) (by omega)]
    exact h6
  · have ep := fun j (hj : j < 3) => (show zst s k d (416 + 6 * j + 2) = zs1 s k (zlf (zpx s k) (zpy s k) d) (416 + 6 * j + 2) from by rw [zst_hi hl (by omega) (by omega) (by omega), zs4_at (by omega)]).trans (zs1_p (l := zlf (zpx s k) (zpy s k) d) hk hj hO)
    have e440 : zst s k d 440 = s 440 := by
      rw [zst_hi hl (by omega) (by omega) (by omega)]
      unfold zs4
      rw [upd_n _ _ (by omega), upd_n _ _ (by omega), upd_n _ _ (by omega)]
      unfold zs1; split
      · rfl
      · next ht =>
        obtain ⟨i1, i2, h3, h4, h5, h6⟩ := zto_pos ht
        obtain h7 | ⟨h7, h8⟩ := hO _ (zic_lt i1)
        · exact absurd h7 h3
        unfold zsT
        rw [upd_n _ _ (by omega), upd_n _ _ (by omega), upd_n _ _ (by omega), upd_n _ _ (by omega)]
    have e0 := ep 0 (by omega)
    have e1 := ep 1 (by omega)
    have e2 := ep 2 (by omega)
    obtain ⟨p0, p1, p2, q0, q1, q2, q3, q4⟩ := h7
    unfold zW7
    simp only [Nat.reduceMul, Nat.reduceAdd] at e0 e1 e2
    rw [e0, e1, e2, e440, q0, q1, q2, q3]
    by_cases hz : zto s (nI k) (zlf (zpx s k) (zpy s k) d) ≤ nI 0
    · simp only [hz, if_true]
      exact ⟨p0, p1, p2, rfl, rfl, rfl, rfl, q4⟩
    · obtain ⟨i1, i2, h3, h4, h5, h6'⟩ := zto_pos hz
      obtain h7 | ⟨h7, h8⟩ := hO _ (zic_lt i1)
      · exact absurd h7 h3
      have hok : zon s (zb1 (zlf (zpx s k) (zpy s k) d)) ≠ k := fun h => h4 (by rw [h8, h])
      obtain ⟨a, b, c, r1, r2, -⟩ := h6
      rw [h6', r1] at ht hz ⊢
      generalize zon s (zb1 (zlf (zpx s k) (zpy s k) d)) = o at *
      have hk3 : k = 0 ∨ k = 1 ∨ k = 2 := by omega
      have ho3 : o = 0 ∨ o = 1 ∨ o = 2 := by omega
      rcases hk3 with rfl | rfl | rfl
      · simp only [Nat.reduceMul, Nat.reduceAdd] at ht ⊢
        rw [q0] at ht ⊢
        have hle : a ≤ p0 := Nat.le_of_not_lt (fun h => ht (nI_lt h (by omega)))
        rcases ho3 with rfl | rfl | rfl
        · exact absurd rfl hok
        · refine ⟨p0 - a, p1 + a, p2, ?_, ?_, ?_, by congr 1; omega, by omega⟩ <;> simp [hz, pk_sub hle, nI_add]
        · refine ⟨p0 - a, p1, p2 + a, ?_, ?_, ?_, by congr 1; omega, by omega⟩ <;> simp [hz, pk_sub hle, nI_add]
      · simp only [Nat.reduceMul, Nat.reduceAdd] at ht ⊢
        rw [q1] at ht ⊢
        have hle : a ≤ p1 := Nat.le_of_not_lt (fun h => ht (nI_lt h (by omega)))
        rcases ho3 with rfl | rfl | rfl
        · refine ⟨p0 + a, p1 - a, p2, ?_, ?_, ?_, by congr 1; omega, by omega⟩ <;> simp [hz, pk_sub hle, nI_add]
        · exact absurd rfl hok
        · refine ⟨p0, p1 - a, p2 + a, ?_, ?_, ?_, by congr 1; omega, by omega⟩ <;> simp [hz, pk_sub hle, nI_add]
      · simp only [Nat.reduceMul, Nat.reduceAdd] at ht ⊢
        rw [q2] at ht ⊢
        have hle : a ≤ p2 := Nat.le_of_not_lt (fun h => ht (nI_lt h (by omega)))
        rcases ho3 with rfl | rfl | rfl
        · refine ⟨p0 + a, p1, p2 - a, ?_, ?_, ?_, by congr 1; omega, by omega⟩ <;> simp [hz, pk_sub hle, nI_add]
        · refine ⟨p0, p1 + a, p2 - a, ?_, ?_, ?_, by congr 1; omega, by omega⟩ <;> simp [hz, pk_sub hle, nI_add]
        · exact absurd rfl hok
theorem zst_WF {s : Nat → Int32} {k d : Nat} (hk : k < 3) (hd : d < 4) (hw : zWF s) (hb : zba s k d = 0) : zWF (zst s k d) :=
  ⟨zst_WL hk (zba_0 hw.2.1 hk hb).1 hw.1, zst_WH hk hd hw.1.2.1 hw.2 hb⟩
theorem zth_WF {s : Nat → Int32} (hw : zWF s) : zWF (zth s) := by
  unfold zth
  refine ⟨zWL_low (s := zmk s (ztw s) 64) (fun j hj => upd_n _ _ (by omega)) (zWL_melt (m := ztw s) (fun c hc => ?_) (fun c hc => ?_) (fun l hl => ?_) hw.1), zWH_eq (fun j h1 h2 h3 h4 h5 => ?_) hw.2⟩
  · unfold zmk; rw [if_pos hc]; simp [hc]
  · unfold zmk; rw [if_neg (by omega), if_pos (by omega), Nat.add_sub_cancel_left]; simp [hc]
  · unfold zmk; rw [if_neg (by omega), if_neg (by omega), if_neg (by omega)]
  · rw [upd_n _ _ h4]; unfold zmk; rw [if_neg (by omega), if_neg (by omega), if_neg h5]
theorem zml_WF {s : Nat → Int32} {c : Nat} (hc : c < 64) (hw : zWF s) : zWF (zml s c) :=
  ⟨zml_melt (by omega) hw.1, zWH_eq (fun j h1 h2 h3 h4 h5 => zml_hi (by omega) (by omega) h5) hw.2⟩
