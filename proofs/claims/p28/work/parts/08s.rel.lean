/-! ===== the class and the model side by side ===== -/
theorem zWF_ext {s s' : Nat → Int32} (h : ∀ j, j < 441 → s' j = s j) (hs : zWF s) : zWF s' := by
  obtain ⟨⟨h1, h2, h3, h4, h5⟩, h6, h7, h8⟩ := hs
  have hb1 : ∀ l, l < 144 → zb1 l ≤ 64 ∧ zb2 l ≤ 64 := by decide +kernel
  have hop : ∀ l, l < 144 → zop s' l = zop s l := fun l hl => by
    unfold zop
    rw [zic_congr (fun c hc => h c (by omega)), zic_congr (fun c hc => h c (by omega)), h _ (by omega)]
  refine ⟨⟨fun c hc => ?_, fun c hc => ?_, fun c hc => ?_, fun l hl => ?_, fun l hl ho => ?_⟩, fun k hk => ?_, ?_, ?_⟩
  · rw [h _ (by omega)]; exact h1 c hc
  · have : zon s' c = zon s c := by unfold zon; rw [h _ (by omega)]
    rw [this, h _ (by omega)]; exact h2 c hc
  · rw [h _ (by omega), h _ (by omega)]; exact h3 c hc
  · rw [h _ (by omega)]; exact h4 l hl
  · rw [hop l hl] at ho
    have := hb1 l hl
    rw [h _ (by omega), h _ (by omega)]; exact h5 l hl ho
  · have hx : zpx s' k = zpx s k := by unfold zpx; rw [h _ (by omega)]
    have hy : zpy s' k = zpy s k := by unfold zpy; rw [h _ (by omega)]
    rw [hx, hy, h _ (by omega), h _ (by omega)]; exact h6 k hk
  · unfold zW6
    rw [h _ (by omega), h _ (by omega), h _ (by omega)]; exact h7
  · unfold zW7
    rw [h _ (by omega), h _ (by omega), h _ (by omega), h _ (by omega)]; exact h8
def zSv (C : ZC) (o n : Nat) (P : Nat → Int32) : Prop := ∀ k, k < n → zR (C.1 (3 + (o + k) % 6)) (zsl P k) ∧ zWF (zsl P k)
theorem zSv_push {C C' : ZC} {o n : Nat} {P s : Nat → Int32} (ho : o < 6) (hn : n ≤ 6) (h : zSv C o n P) (hs : zWF s) (h1 : ∀ j, j ≠ 3 + (o + n) % 6 → C'.1 j = C.1 j) (h2 : zR (C'.1 (3 + (o + n) % 6)) s) : zSv C' (if n = 6 then (o + 1) % 6 else o) (zsvN n) (zsvP n s P) := by
  intro k hk
  unfold zsvN at hk
  unfold zsvP
  by_cases h6 : n = 6
  · subst h6
    rw [if_pos rfl] at hk ⊢
    rw [if_pos rfl]
    by_cases h5 : k = 5
    · subst h5
      have hext : ∀ j, j < 441 → zsl (zfs 2205 441 s (zfl 2205 (fun j => P (441 + j)) P)) 5 j = s j := fun j hj => by
        unfold zsl zfs
        rw [if_pos (by omega), show 441 * 5 + j - 2205 = j by omega]
      refine ⟨zR_ext hext ?_, zWF_ext hext hs⟩
      rw [show (((o + 1) % 6 + 5) % 6) = (o + 6) % 6 by omega]; exact h2
    · have hext : ∀ j, j < 441 → zsl (zfs 2205 441 s (zfl 2205 (fun j => P (441 + j)) P)) k j = zsl P (k + 1) j := fun j hj => by
        unfold zsl zfs zfl
        rw [if_neg (by omega), if_pos (by omega)]
        show P (441 + (441 * k + j)) = _
        rw [show 441 + (441 * k + j) = 441 * (k + 1) + j by omega]
      obtain ⟨g1, g2⟩ := h (k + 1) (by omega)
      refine ⟨zR_ext hext ?_, zWF_ext hext g2⟩
      rw [show (((o + 1) % 6 + k) % 6) = (o + (k + 1)) % 6 by omega, h1 _ (by omega)]; exact g1
  · rw [if_neg h6] at hk ⊢
    rw [if_neg h6]
    by_cases hkn : k = n
    · subst hkn
      have hext : ∀ j, j < 441 → zsl (zfs (441 * k) 441 s P) k j = s j := fun j hj => by
        unfold zsl zfs
        rw [if_pos (by omega), show 441 * k + j - 441 * k = j by omega]
      exact ⟨zR_ext hext h2, zWF_ext hext hs⟩
    · have hext : ∀ j, j < 441 → zsl (zfs (441 * n) 441 s P) k j = zsl P k j := fun j hj => by
        unfold zsl zfs
        rw [if_neg (by omega)]
      obtain ⟨g1, g2⟩ := h k (by omega)
      refine ⟨zR_ext hext ?_, zWF_ext hext g2⟩
      rw [h1 _ (by omega)]; exact g1
/-- the class C holds the state that the row-book M tells (0 the row, 2 the saved ones, 3 the snapshot, 4 the text, 8: 0 how many saved, 1 is there a snapshot, 2 the text's length) -/
def zKr (C : ZC) (M : ZM) (o n l kp : Nat) : Prop :=
  (o < 6 ∧ n ≤ 6 ∧ l ≤ 60 ∧ kp ≤ 1) ∧ (C.2.2.2 0 = nI l ∧ C.2.2.2 1 = nI o ∧ C.2.2.2 2 = nI n ∧ C.2.2.2 3 = nI kp) ∧ (M 8 0 = nI n ∧ M 8 1 = nI kp ∧ M 8 2 = nI l) ∧ (zR (C.1 0) (M 0) ∧ zWF (M 0)) ∧ zSv C o n (M 2) ∧ (kp = 1 → zR (C.1 2) (M 3) ∧ zWF (M 3)) ∧ ∀ j, j < l → C.2.1 j = M 4 j
theorem zKr_M {C : ZC} {M M' : ZM} {o n l kp : Nat} (h : zKr C M o n l kp) (h0 : M' 0 = M 0) (h2 : M' 2 = M 2) (h3 : M' 3 = M 3) (h4 : M' 4 = M 4) (h8 : ∀ j, j < 3 → M' 8 j = M 8 j) : zKr C M' o n l kp := by
  unfold zKr at *
  rw [h0, h2, h3, h4, h8 0 (by omega), h8 1 (by omega), h8 2 (by omega)]
  exact h
theorem zKr_C {C C' : ZC} {M : ZM} {o n l kp : Nat} (h : zKr C M o n l kp) (h1 : ∀ j, j ≠ 1 → C'.1 j = C.1 j) (h2 : C'.2.1 = C.2.1) (h3 : C'.2.2.2 = C.2.2.2) : zKr C' M o n l kp := by
  unfold zKr zSv at *
  rw [h1 0 (by omega), h1 2 (by omega), h2, h3]
  obtain ⟨a, b, c, d, f, g⟩ := h
  exact ⟨a, b, c, d, fun k hk => by rw [h1 _ (by omega)]; exact f k hk, g⟩
/-- a pond is saved, then changed -/
theorem zKr_save {C C' : ZC} {M M' : ZM} {o n l kp l' : Nat} {P' : ZP} (h : zKr C M o n l kp) (hll : l' ≤ l) (c1 : ∀ j, j ≠ 3 + (o + n) % 6 → C'.1 j = C.1 j) (c2 : zR (C'.1 (3 + (o + n) % 6)) (M 0)) (c3 : C'.2.1 = C.2.1) (c4 : C'.2.2.2 0 = nI l') (c5 : C'.2.2.2 1 = nI (if n = 6 then (o + 1) % 6 else o)) (c6 : C'.2.2.2 2 = nI (zsvN n)) (c7 : C'.2.2.2 3 = C.2.2.2 3) (hP : zR P' (M' 0)) (hW : zWF (M' 0)) (m2 : M' 2 = zsvP n (M 0) (M 2)) (m3 : M' 3 = M 3) (m4 : M' 4 = M 4) (m80 : M' 8 0 = nI (zsvN n)) (m81 : M' 8 1 = M 8 1) (m82 : M' 8 2 = nI l') : zKr (zcp C' 0 P') M' (if n = 6 then (o + 1) % 6 else o) (zsvN n) l' kp := by
  obtain ⟨⟨a1, a2, a3, a4⟩, ⟨b1, b2, b3, b4⟩, ⟨d1, d2, d3⟩, ⟨e1, e2⟩, f, g, k⟩ := h
  refine ⟨⟨?_, ?_, by omega, a4⟩, ⟨c4, c5, c6, c7.trans b4⟩, ⟨m80, m81.trans d2, m82⟩, ⟨by rw [zcp_s]; exact hP, hW⟩, ?_, ?_, ?_⟩
  · split <;> omega
  · unfold zsvN; split <;> omega
  · rw [m2]
    intro q hq
    have := zSv_push a1 a2 f e2 c1 c2 q hq
    rw [zcp_n _ _ (by omega)]; exact this
  · intro hk
    rw [zcp_n _ _ (by omega), c1 _ (by omega), m3]; exact g hk
  · intro j hj
    rw [m4, zcp_2, c3]
    exact k j (by omega)
/-- behind a save: the row s', the text's length l' -/
def zgS (M : ZM) (n : Nat) (s' : Nat → Int32) (l' : Nat) : ZM := zms (zms (zms M 0 s') 2 (zsvP n (M 0) (M 2))) 8 (upd (upd (M 8) 0 (nI (zsvN n))) 2 (nI l'))
theorem zgS_0 (M : ZM) (n : Nat) (s' : Nat → Int32) (l' : Nat) : zgS M n s' l' 0 = s' := rfl
theorem zgS_2 (M : ZM) (n : Nat) (s' : Nat → Int32) (l' : Nat) : zgS M n s' l' 2 = zsvP n (M 0) (M 2) := rfl
theorem zgS_3 (M : ZM) (n : Nat) (s' : Nat → Int32) (l' : Nat) : zgS M n s' l' 3 = M 3 := rfl
theorem zgS_4 (M : ZM) (n : Nat) (s' : Nat → Int32) (l' : Nat) : zgS M n s' l' 4 = M 4 := rfl
theorem zgS_80 (M : ZM) (n : Nat) (s' : Nat → Int32) (l' : Nat) : zgS M n s' l' 8 0 = nI (zsvN n) := rfl
theorem zgS_81 (M : ZM) (n : Nat) (s' : Nat → Int32) (l' : Nat) : zgS M n s' l' 8 1 = M 8 1 := rfl
theorem zgS_82 (M : ZM) (n : Nat) (s' : Nat → Int32) (l' : Nat) : zgS M n s' l' 8 2 = nI l' := rfl
theorem zKr_sv {C C' : ZC} {M : ZM} {o n l kp l' : Nat} {P' : ZP} {s' : Nat → Int32} (h : zKr C M o n l kp) (hll : l' ≤ l) (c1 : ∀ j, j ≠ 3 + (o + n) % 6 → C'.1 j = C.1 j) (c2 : zR (C'.1 (3 + (o + n) % 6)) (M 0)) (c3 : C'.2.1 = C.2.1) (c4 : C'.2.2.2 0 = nI l') (c5 : C'.2.2.2 1 = nI (if n = 6 then (o + 1) % 6 else o)) (c6 : C'.2.2.2 2 = nI (zsvN n)) (c7 : C'.2.2.2 3 = C.2.2.2 3) (hP : zR P' s') (hW : zWF s') : zKr (zcp C' 0 P') (zgS M n s' l') (if n = 6 then (o + 1) % 6 else o) (zsvN n) l' kp :=
  zKr_save h hll c1 c2 c3 c4 c5 c6 c7 hP hW rfl rfl rfl rfl rfl rfl
theorem zKr_n {C : ZC} {M : ZM} {o n l kp : Nat} (h : zKr C M o n l kp) : n = (M 8 0).toNatClampNeg ∧ l = (M 8 2).toNatClampNeg ∧ kp = (M 8 1).toNatClampNeg := by
  obtain ⟨⟨a1, a2, a3, a4⟩, -, ⟨d1, d2, d3⟩, -⟩ := h
  rw [d1, d2, d3, nI_clamp (by omega), nI_clamp (by omega), nI_clamp (by omega)]
  exact ⟨rfl, rfl, rfl⟩
