/-! ===== ponds: a step ===== -/
theorem zad_congr {s s' : Nat → Int32} (h : ∀ j, j < 272 → s' j = s j) {n a b : Nat} (hn : n ≤ 144) : zad s' n a b ↔ zad s n a b := by
  constructor
  · rintro ⟨l, h1, h2, h3⟩
    exact ⟨l, h1, by rw [← zop_congr (s := s) (s' := s') (fun c hc => h c (by omega)) (h (128 + l) (by omega))]; exact h2, h3⟩
  · rintro ⟨l, h1, h2, h3⟩
    exact ⟨l, h1, by rw [zop_congr (s := s) (s' := s') (fun c hc => h c (by omega)) (h (128 + l) (by omega))]; exact h2, h3⟩
theorem zrc_congr {s s' : Nat → Int32} (h : ∀ j, j < 272 → s' j = s j) {n a b : Nat} (hn : n ≤ 144) : zrc s' n a b ↔ zrc s n a b := by
  constructor
  · intro hr S h0 hs
    exact hr S h0 (fun x y hxy => hs x y ((zad_congr h hn).mp hxy))
  · intro hr S h0 hs
    exact hr S h0 (fun x y hxy => hs x y ((zad_congr h hn).mpr hxy))
theorem zlo_congr {s s' : Nat → Int32} (h : ∀ j, j < 272 → s' j = s j) (c : Nat) : zlo s' c = zlo s c := by
  unfold zlo
  rw [zic_congr (fun d hd => h d (by omega))]
  have : zfst (zrB s' 144 c) 64 = zfst (zrB s 144 c) 64 := zfst_congr (fun i _ => by
    cases h1 : zrB s 144 c i with
    | true => exact zrB_iff.mpr ((zrc_congr h (by omega)).mpr (zrB_iff.mp h1))
    | false =>
      cases h2 : zrB s' 144 c i with
      | false => rfl
      | true => rw [zrB_iff.mpr ((zrc_congr h (by omega)).mp (zrB_iff.mp h2))] at h1; cases h1)
  rw [this]
/-- the numbers of skaters aside -/
def zAg (s s' : Nat → Int32) : Prop := ∀ j, j < 416 ∨ 434 ≤ j → s' j = s j
theorem zpt_ag {s s' : Nat → Int32} (h : zAg s s') {k l : Nat} (hl : l < 144) : zAg (zpt s k l) (zpt s' k l) := by
  have hcu : zAg (zcu s l) (zcu s' l) := fun j hj => by
    unfold zcu upd
    split
    · rfl
    · exact h j hj
  have hlo := zlo_congr (s := zcu s l) (s' := zcu s' l) (fun j hj => hcu j (by omega))
  have hpr : zpr (zcu s' l) (zb1 l) (zb2 l) = zpr (zcu s l) (zb1 l) (zb2 l) := by
    unfold zpr
    simp only [hlo]
  have h64 : s' (64 + zb1 l) = s (64 + zb1 l) := h _ (by have := zb1_64 l hl; omega)
  unfold zpt
  rw [hlo, hlo, h64, hpr]
  split
  · exact hcu
  · intro j hj
    unfold zow
    rw [hlo]
    split
    · rfl
    · exact hcu j hj
theorem zpt_sk {s : Nat → Int32} {k l j : Nat} (hl : l < 144) (h1 : 416 ≤ j) : zpt s k l j = s j := zpt_hi hl (by omega)
theorem zs4_in {s s' : Nat → Int32} {k x y d j : Nat} (hk : k < 3) (h1 : 416 ≤ j) (h2 : j < 434) (h : ∀ j, 416 ≤ j → j < 434 → s' j = s j) : zs4 s' k x y d j = zs4 s k x y d j := by
  unfold zs4 upd
  split
  · rw [h _ (by omega) (by omega)]
  · split
    · rfl
    · split
      · rfl
      · exact h j h1 h2
theorem zs4_out {s : Nat → Int32} {k x y d j : Nat} (hk : k < 3) (h : j < 416 ∨ 434 ≤ j) : zs4 s k x y d j = s j := by
  unfold zs4
  rw [upd_n _ _ (by omega), upd_n _ _ (by omega), upd_n _ _ (by omega)]
/-- what leaves skaters alone can come before or behind a move -/
theorem zs4_com {G : (Nat → Int32) → Nat → Int32} {s : Nat → Int32} {k x y d : Nat} (hk : k < 3) (h1 : ∀ f j, 416 ≤ j → j < 434 → G f j = f j) (h2 : ∀ f f', zAg f f' → zAg (G f) (G f')) (j : Nat) : zs4 (G s) k x y d j = G (zs4 s k x y d) j := by
  by_cases hj : 416 ≤ j ∧ j < 434
  · rw [h1 _ j hj.1 hj.2]
    exact zs4_in hk hj.1 hj.2 (fun j a b => h1 s j a b)
  · rw [zs4_out hk (by omega)]
    exact (h2 s (zs4 s k x y d) (fun j hj => zs4_out hk hj) j (by omega)).symm
def zil (s : Nat → Int32) (l c : Nat) : Bool := (decide (c = zb1 l) || decide (c = zb2 l)) && zic s c
theorem zml_mk {s : Nat → Int32} {c : Nat} : ∀ j, zml s c j = zmk s (fun d => decide (d = c) && zic s d) 64 j := by
  intro j
  unfold zml
  cases h : zic s c with
  | false =>
    rw [if_neg (by decide)]
    have : ∀ d, (decide (d = c) && zic s d) = false := fun d => by
      by_cases hd : d = c
      · subst hd; simp [h]
      · simp [hd]
    unfold zmk
    simp only [this, Bool.false_eq_true, and_false, if_false]
    by_cases h1 : j < 64
    · simp [h1]
    · by_cases h2 : j < 128
      · simp [h1, h2]
      · by_cases h3 : j = 439
        · subst h3
          simp only [h1, h2, if_false, if_true]
          rw [zc_none (fun _ _ => rfl)]
          exact (Int32.add_zero _).symm
        · simp [h1, h2, h3]
  | true =>
    rw [if_pos rfl]
    have hc := zic_lt h
    have hcn : cnt (fun d => decide (d = c) && zic s d) 64 = 1 := by
      have : cnt (fun d => decide (d = c) && zic s d) 64 = cnt (fun d => decide (d = c)) 64 := cnt_congr (fun d _ => by
        by_cases hd : d = c
        · subst hd; simp [h]
        · simp [hd])
      rw [this, zc_one, if_pos hc]
    unfold zmk
    by_cases h3 : j = 439
    · subst h3
      rw [upd_s, if_neg (by omega), if_neg (by omega), if_pos rfl, hcn]
    · rw [upd_n _ _ h3]
      by_cases h1 : j < 64
      · rw [upd_n _ _ (by omega), if_pos h1]
        by_cases hj : j = c
        · subst hj; rw [upd_s, if_pos ⟨h1, by simp [h]⟩]
        · rw [upd_n _ _ hj, if_neg (by simp [hj])]
      · rw [if_neg h1]
        by_cases h2 : j < 128
        · rw [if_pos h2]
          by_cases hj : j = 64 + c
          · subst hj; rw [upd_s, if_pos ⟨by omega, by rw [Nat.add_sub_cancel_left]; simp [h]⟩]
          · rw [upd_n _ _ hj, upd_n _ _ (by omega), if_neg (by rintro ⟨-, q⟩; simp at q; omega)]
        · rw [if_neg h2, if_neg h3, upd_n _ _ (by omega), upd_n _ _ (by omega)]
theorem zmm_mk {s : Nat → Int32} {l : Nat} (hl : l < 144) (j : Nat) : zmm s l j = zmk s (zil s l) 64 j := by
  unfold zmm
  rw [zml_mk]
  have e1 := zml_mk (s := s) (c := zb1 l)
  have h12 := zb12 l hl
  have h2 := zb2_64 l hl
  have hic : zic (zml s (zb1 l)) (zb2 l) = zic s (zb2 l) := by
    by_cases hb : zb2 l < 64
    · rw [zic_iff hb, zic_iff hb, e1]
      unfold zmk
      rw [if_pos hb]
      have : ¬ zb2 l = zb1 l := fun q => h12 (by omega) q.symm
      simp [this]
    · rw [show zb2 l = 64 by omega, zic_64, zic_64]
  have hm2 : ∀ d, (decide (d = zb2 l) && zic (zml s (zb1 l)) d) = (decide (d = zb2 l) && zic s d) := fun d => by
    by_cases hd : d = zb2 l
    · subst hd; rw [hic]
    · simp [hd]
  have hm2' : (fun d => decide (d = zb2 l) && zic (zml s (zb1 l)) d) = fun d => decide (d = zb2 l) && zic s d := funext hm2
  rw [hm2']
  have hdis : ∀ d, ¬ ((decide (d = zb1 l) && zic s d) = true ∧ (decide (d = zb2 l) && zic s d) = true) := by
    rintro d ⟨q1, q2⟩
    simp only [Bool.and_eq_true, decide_eq_true_eq] at q1 q2
    have := zic_lt q1.2
    exact h12 (by omega) (by omega)
  have hor : ∀ d, zil s l d = ((decide (d = zb1 l) && zic s d) || (decide (d = zb2 l) && zic s d)) := fun d => by unfold zil; rw [Bool.and_or_distrib_right]
  have hcn : cnt (zil s l) 64 = cnt (fun d => decide (d = zb1 l) && zic s d) 64 + cnt (fun d => decide (d = zb2 l) && zic s d) 64 := by
    rw [← zc_or (fun d _ => hdis d)]
    exact cnt_congr (fun d _ => hor d)
  by_cases h3 : j = 439
  · subst h3
    unfold zmk
    simp only [show ¬ 439 < 64 by omega, show ¬ 439 < 128 by omega, if_false, if_true]
    rw [e1, hcn]
    unfold zmk
    simp only [show ¬ 439 < 64 by omega, show ¬ 439 < 128 by omega, if_false, if_true]
    rw [Int32.add_assoc, nI_add]
  · by_cases h1 : j < 64
    · rw [zmk_lo h1, zmk_lo h1, e1, zmk_lo h1, hor]
      cases (decide (j = zb1 l) && zic s j) <;> cases (decide (j = zb2 l) && zic s j) <;> simp
    · by_cases h2 : j < 128
      · obtain ⟨c, rfl⟩ : ∃ c, j = 64 + c := ⟨j - 64, by omega⟩
        rw [zmk_ow (by omega), zmk_ow (by omega), e1, zmk_ow (by omega), hor]
        cases (decide (c = zb1 l) && zic s c) <;> cases (decide (c = zb2 l) && zic s c) <;> simp
      · rw [zmk_hi (by omega) h3, zmk_hi (by omega) h3, e1, zmk_hi (by omega) h3]
theorem zs1_ag {s : Nat → Int32} {k l j : Nat} (hk : k < 3) (hO : zOW s) (hj : j < 416 ∨ 434 ≤ j) : zs1 s k l j = s j := by
  unfold zs1; split
  · rfl
  · next ht =>
    obtain ⟨i1, i2, h3, h4, h5, h6⟩ := zto_pos ht
    obtain h7 | ⟨h7, h8⟩ := hO _ (zic_lt i1)
    · exact absurd h7 h3
    unfold zsT
    rw [upd_n _ _ (by omega), upd_n _ _ (by omega), upd_n _ _ (by omega), upd_n _ _ (by omega)]
/-- the row as the class comes to it -/
def zsU (s : Nat → Int32) (k d : Nat) : Nat → Int32 := zs2 (zs4 (zs1 s k (zlf (zpx s k) (zpy s k) d)) k (zpx s k) (zpy s k) d) (zlf (zpx s k) (zpy s k) d)
theorem zsU_lo {s : Nat → Int32} {k d j : Nat} (hk : k < 3) (hO : zOW s) (hj : j < 272) : zsU s k d j = s j := by
  unfold zsU zs2
  rw [upd_n _ _ (by omega), zs4_out hk (by omega), zs1_ag hk hO (by omega)]
theorem zst_U {s : Nat → Int32} {k d : Nat} (hk : k < 3) (hO : zOW s) (hl : zlf (zpx s k) (zpy s k) d < 144) : ∀ j, zst s k d j = zs3 (zsU s k d) k (zlf (zpx s k) (zpy s k) d) j := by
  intro j
  unfold zst zsU
  generalize zlf (zpx s k) (zpy s k) d = l at *
  generalize zs1 s k l = w
  generalize zpx s k = x
  generalize zpy s k = y
  refine zs4_com (G := fun f => zs3 (zs2 f l) k l) hk (fun f j h1 h2 => ?_) (fun f f' hf => ?_) j
  · rw [zs3_hi hl (by omega) (by omega) (by omega)]
    unfold zs2
    exact upd_n _ _ (by omega)
  · have h2 : zAg (zs2 f l) (zs2 f' l) := fun j hj => by
      unfold zs2 upd
      split
      · rw [hf (272 + l) (by omega)]
      · exact hf j hj
    generalize zs2 f l = g at *
    generalize zs2 f' l = g' at *
    unfold zs3
    rw [h2 (272 + l) (by omega), h2 435 (by omega), zop_congr (s := g) (s' := g') (fun c hc => h2 c (by omega)) (h2 (128 + l) (by omega))]
    split
    · split
      · exact zpt_ag h2 hl
      · exact h2
    · have hil : ∀ c, zil g' l c = zil g l c := fun c => by unfold zil; rw [zic_congr (s := g) (fun c hc => h2 c (by omega))]
      have hil' : zil g' l = zil g l := funext hil
      have hmm : zAg (zmm g l) (zmm g' l) := fun j hj => by
        rw [zmm_mk hl, zmm_mk hl, hil']
        unfold zmk
        rw [h2 439 (by omega)]
        split
        · rw [h2 j (by omega)]
        · split
          · rw [h2 j (by omega)]
          · split
            · rfl
            · exact h2 j hj
      intro j hj
      unfold upd
      split
      · rw [hmm 437 (by omega)]
      · exact hmm j hj
theorem zs1_XY {s : Nat → Int32} {k l : Nat} (hX : zXY s) : zXY (zs1 s k l) := by
  intro j hj
  have h0 := zs1_xy (s := s) (k := k) (l := l) (i := 0) (by omega) hj
  have h1 := zs1_xy (s := s) (k := k) (l := l) (i := 1) (by omega) hj
  rw [Nat.add_zero] at h0
  unfold zpx zpy
  rw [h0, h1]
  exact hX j hj
