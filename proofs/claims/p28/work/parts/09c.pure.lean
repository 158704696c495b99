/-! ===== how cells, rinks, skaters, purses and counts hang together: of the row alone ===== -/
-- sums
theorem zsum_add (f g : Nat → Nat) : ∀ n, zsum (fun c => f c + g c) n = zsum f n + zsum g n
  | 0 => rfl
  | n + 1 => by simp only [zsum]; rw [zsum_add f g n]; omega
theorem zsum_0 {f : Nat → Nat} : ∀ {n : Nat}, (∀ c, c < n → f c = 0) → zsum f n = 0
  | 0, _ => rfl
  | n + 1, h => by simp only [zsum]; rw [zsum_0 (fun c hc => h c (by omega)), h n (by omega)]
theorem zsum_1 {f : Nat → Nat} {a : Nat} : ∀ {n : Nat}, a < n → (∀ c, c < n → c ≠ a → f c = 0) → zsum f n = f a
  | 0, h, _ => absurd h (Nat.not_lt_zero _)
  | n + 1, ha, h => by
    simp only [zsum]
    by_cases hn : a = n
    · subst hn
      rw [zsum_0 (fun c hc => h c (by omega) (by omega))]; omega
    · rw [zsum_1 (by omega) (fun c hc hca => h c (by omega) hca), h n (by omega) (by omega)]; omega
theorem zmx_1 {f g : Nat → Nat} {a : Nat} : ∀ {n : Nat}, a < n → (∀ c, c < n → c ≠ a → g c = f c) → f a = 0 → zmx g n = (if zmx f n < g a then g a else zmx f n)
  | 0, h, _, _ => absurd h (Nat.not_lt_zero _)
  | n + 1, ha, h, h0 => by
    by_cases hn : a = n
    · subst hn
      have e1 : zmx f (a + 1) = zmx f a := by
        show (if zmx f a < f a then f a else zmx f a) = _
        rw [h0, if_neg (Nat.not_lt_zero _)]
      show (if zmx g a < g a then g a else zmx g a) = _
      rw [e1, zmx_congr (f := g) (g := f) (fun c hc => h c (by omega) (by omega))]
    · have ih := zmx_1 (n := n) (by omega) (fun c hc hca => h c (by omega) hca) h0
      have e2 := h n (by omega) (by omega)
      show (if zmx g n < g n then g n else zmx g n) = (if (if zmx f n < f n then f n else zmx f n) < g a then g a else (if zmx f n < f n then f n else zmx f n))
      rw [ih, e2]
      (repeat' split) <;> omega
-- ranks
theorem zrk_s {p : Nat → Bool} {q : Nat} (h : q < cnt p 64) : zrk p q < 64 ∧ p (zrk p q) = true ∧ cnt p (zrk p q) = q := by
  have hlt : zrk p q < 64 := by
    refine Nat.lt_of_le_of_ne (zrk_le p q) (fun h6 => ?_)
    have := zrk_cnt (p := p) (r := q) 64 (by omega)
    omega
  have := zfst_p (fun c => p c && decide (cnt p c = q)) 64 hlt
  simp only [Bool.and_eq_true, decide_eq_true_eq] at this
  exact ⟨hlt, this.1, this.2⟩
theorem zrk_e (p : Nat → Bool) : zrk p (cnt p 64) = 64 := by
  refine zfst_none (fun j hj => ?_)
  cases hp : p j with
  | false => rfl
  | true =>
    have := zcnt_st hp hj
    simp only [Bool.true_and]
    exact decide_eq_false (by omega)
theorem zrk_u {p : Nat → Bool} {q c : Nat} (hc : c < 64) (hp : p c = true) (h : cnt p c = q) : zrk p q = c := by
  have hlt : q < cnt p 64 := by have := zcnt_st hp hc; omega
  obtain ⟨h1, h2, h3⟩ := zrk_s hlt
  refine Nat.le_antisymm (Nat.le_of_not_lt (fun g => ?_)) (Nat.le_of_not_lt (fun g => ?_))
  · have := zcnt_st hp g; omega
  · have := zcnt_st h2 g; omega
theorem zrk_up {p : Nat → Bool} {q : Nat} (h : q + 1 < cnt p 64) : zrk p q < zrk p (q + 1) := by
  obtain ⟨h1, h2, h3⟩ := zrk_s (p := p) (q := q) (by omega)
  obtain ⟨g1, g2, g3⟩ := zrk_s h
  refine Nat.lt_of_not_le (fun g => ?_)
  have := zcnt_up (p := p) _ g
  omega
/-- those of the first k ranks -/
def zfk (p : Nat → Bool) (g : Nat → Nat) (k c : Nat) : Nat := if p c = true ∧ cnt p c < k then g c else 0
theorem zfk_0 (p : Nat → Bool) (g : Nat → Nat) (c : Nat) : zfk p g 0 c = 0 := if_neg (fun h => Nat.not_lt_zero _ h.2)
theorem zfk_s {p : Nat → Bool} {g : Nat → Nat} {k : Nat} (h : k < cnt p 64) : zsum (zfk p g (k + 1)) 64 = zsum (zfk p g k) 64 + g (zrk p k) ∧ zmx (zfk p g (k + 1)) 64 = (if zmx (zfk p g k) 64 < g (zrk p k) then g (zrk p k) else zmx (zfk p g k) 64) := by
  obtain ⟨h1, h2, h3⟩ := zrk_s h
  have hother : ∀ c, c < 64 → c ≠ zrk p k → zfk p g (k + 1) c = zfk p g k c := by
    intro c hc hca
    unfold zfk
    by_cases hp : p c = true
    · have hne : cnt p c ≠ k := fun q => hca (zrk_u hc hp q).symm
      by_cases hlt : cnt p c < k
      · rw [if_pos ⟨hp, by omega⟩, if_pos ⟨hp, hlt⟩]
      · rw [if_neg (fun q => by omega), if_neg (fun q => hlt q.2)]
    · rw [if_neg (fun q => hp q.1), if_neg (fun q => hp q.1)]
  have e1 : zfk p g (k + 1) (zrk p k) = g (zrk p k) := if_pos ⟨h2, by omega⟩
  have e0 : zfk p g k (zrk p k) = 0 := if_neg (fun q => by omega)
  constructor
  · have hs : zsum (zfk p g (k + 1)) 64 = zsum (fun c => zfk p g k c + (if c = zrk p k then g (zrk p k) else 0)) 64 := zsum_congr (fun c hc => by
      by_cases hca : c = zrk p k
      · rw [if_pos hca, hca, e1, e0]; omega
      · rw [if_neg hca, hother c hc hca]; omega)
    rw [hs, zsum_add, zsum_1 (f := fun c => if c = zrk p k then g (zrk p k) else 0) h1 (fun c _ hca => if_neg hca), if_pos rfl]
  · have := zmx_1 (f := zfk p g k) (g := zfk p g (k + 1)) h1 hother e0
    rw [this, e1]
theorem zfk_e {p : Nat → Bool} {g : Nat → Nat} {c : Nat} (hc : c < 64) : zfk p g (cnt p 64) c = if p c = true then g c else 0 := by
  unfold zfk
  by_cases hp : p c = true
  · rw [if_pos ⟨hp, zcnt_st hp hc⟩, if_pos hp]
  · rw [if_neg (fun q => hp q.1), if_neg hp]
-- rinks part the ice
theorem zrs_pos {s : Nat → Int32} {c : Nat} (h : zrt s c = true) : 0 < zrs s c := by
  have h1 := zrt_iff.mp h
  exact zc_pos (zic_lt h1.1) (decide_eq_true h1.2)
theorem zrs_le (s : Nat → Int32) (c : Nat) : zrs s c ≤ 64 := cnt_le _ _
theorem zlo_rt {s : Nat → Int32} {c : Nat} (h : zic s c = true) : zrt s (zlo s c) = true := zrt_iff.mpr ⟨zlo_ice h, zlo_idem h⟩
theorem zdc_n {s : Nat → Int32} {P : Nat → Bool} : ∀ n, n ≤ 64 → zsum (fun c => if zrt s c = true ∧ P c = true then zrs s c else 0) n = cnt (fun d => (zic s d && P (zlo s d)) && decide (zlo s d < n)) 64
  | 0, _ => by
    rw [zc_none (fun i _ => by simp)]
    rfl
  | n + 1, hn => by
    simp only [zsum]
    rw [zdc_n n (by omega)]
    have hsplit : cnt (fun d => (zic s d && P (zlo s d)) && decide (zlo s d < n + 1)) 64 = cnt (fun d => ((zic s d && P (zlo s d)) && decide (zlo s d < n)) || ((zic s d && P (zlo s d)) && decide (zlo s d = n))) 64 := cnt_congr (fun d _ => by
      by_cases h1 : zlo s d < n
      · have h2 : zlo s d < n + 1 := by omega
        have h3 : ¬ zlo s d = n := by omega
        simp [h1, h2, h3]
      · by_cases h3 : zlo s d = n
        · simp [h3]
        · have h2 : ¬ zlo s d < n + 1 := by omega
          simp [h1, h2, h3])
    rw [hsplit, zc_or (fun d _ h => by
      simp only [Bool.and_eq_true, decide_eq_true_eq] at h
      omega)]
    congr 1
    by_cases hr : zrt s n = true ∧ P n = true
    · rw [if_pos hr]
      unfold zrs
      refine cnt_congr (fun d _ => ?_)
      by_cases h3 : zlo s d = n
      · have hi : zic s d = true := zlo_ice' (by omega)
        rw [h3, hi, hr.2]; simp
      · simp [h3]
    · rw [if_neg hr]
      refine (zc_none (fun d _ => ?_)).symm
      by_cases h3 : zlo s d = n
      · cases hi : zic s d with
        | false => rfl
        | true =>
          have := zlo_rt hi
          rw [h3] at this ⊢
          cases hp : P n with
          | false => rfl
          | true => exact absurd ⟨this, hp⟩ hr
      · simp [h3]
theorem zdcs {s : Nat → Int32} {P : Nat → Bool} : zsum (fun c => if zrt s c = true ∧ P c = true then zrs s c else 0) 64 = cnt (fun d => zic s d && P (zlo s d)) 64 := by
  rw [zdc_n 64 (Nat.le_refl _)]
  refine cnt_congr (fun d _ => ?_)
  cases hi : zic s d with
  | false => rfl
  | true =>
    have := zlo_lt hi
    simp [this]
theorem zdc_ice (s : Nat → Int32) : zsum (fun c => if zrt s c = true then zrs s c else 0) 64 = cnt (zic s) 64 := by
  have h := zdcs (s := s) (P := fun _ => true)
  rw [show (fun d => zic s d && (fun _ => true) (zlo s d)) = zic s from funext (fun d => by simp)] at h
  rw [← h]
  exact zsum_congr (fun c _ => by simp)
theorem zoc_ice {s : Nat → Int32} (hs : zWF s) {c k : Nat} (hc : c < 64) (h : s (64 + c) = nI k) (hk : k < 3) : zic s c = true := by
  rw [zic_iff hc]
  refine decide_eq_true (hs.1.2.2.1 c hc (fun h3 => ?_))
  rw [h] at h3
  have := zm_ne (a := k) (by omega)
  rw [h3] at this
  exact this.mp rfl
/-- what a skater owns are whole rinks -/
theorem zdc_own {s : Nat → Int32} (hs : zWF s) {k : Nat} (hk : k < 3) : zsum (fun c => if zrt s c = true ∧ s (64 + c) = nI k then zrs s c else 0) 64 = zoc s k := by
  have h := zdcs (s := s) (P := fun c => decide (s (64 + c) = nI k))
  have e : zsum (fun c => if zrt s c = true ∧ s (64 + c) = nI k then zrs s c else 0) 64 = zsum (fun c => if zrt s c = true ∧ decide (s (64 + c) = nI k) = true then zrs s c else 0) 64 := zsum_congr (fun c _ => by simp)
  rw [e, h]
  unfold zoc
  refine cnt_congr (fun d hd => ?_)
  cases hi : zic s d with
  | true => rw [zow_lo hs.1.2.2.2.2 hi]; rfl
  | false =>
    by_cases hq : s (64 + d) = nI k
    · rw [zoc_ice hs hd hq hk] at hi; cases hi
    · simp [hq]
theorem zoc_rk {s : Nat → Int32} (k : Nat) : cnt (fun c => zrt s c && decide (s (64 + c) = nI k)) 64 ≤ zoc s k := zc_mono (fun i _ h => by
  simp only [Bool.and_eq_true] at h
  exact h.2)
theorem zown3 {s : Nat → Int32} (hs : zWF s) {c : Nat} (hc : c < 64) : (s (64 + c) = -1 ∧ decide (s (64 + c) = nI 0) = false ∧ decide (s (64 + c) = nI 1) = false ∧ decide (s (64 + c) = nI 2) = false) ∨ (s (64 + c) ≠ -1 ∧ zic s c = true ∧ ((s (64 + c) = nI 0) ∨ (s (64 + c) = nI 1) ∨ (s (64 + c) = nI 2))) := by
  rcases hs.1.2.1 c hc with h | ⟨h1, h2⟩
  · refine Or.inl ⟨h, ?_, ?_, ?_⟩ <;> (rw [h]; decide)
  · have h3 : zon s c = 0 ∨ zon s c = 1 ∨ zon s c = 2 := by omega
    have hi := zoc_ice hs hc h2 h1
    have hne : s (64 + c) ≠ -1 := fun q => by
      rw [h2] at q
      have := zm_ne (a := zon s c) (by omega)
      exact this.mp q
    refine Or.inr ⟨hne, hi, ?_⟩
    rcases h3 with h3 | h3 | h3 <;> rw [h3] at h2
    · exact Or.inl h2
    · exact Or.inr (Or.inl h2)
    · exact Or.inr (Or.inr h2)
theorem nI_n01 : ¬ nI 0 = nI 1 ∧ ¬ nI 0 = nI 2 ∧ ¬ nI 1 = nI 2 ∧ ¬ nI 1 = nI 0 ∧ ¬ nI 2 = nI 0 ∧ ¬ nI 2 = nI 1 := by decide
theorem zsum3 {s : Nat → Int32} (hs : zWF s) (p : Nat → Bool) : cnt (fun c => p c && decide (s (64 + c) = nI 0)) 64 + cnt (fun c => p c && decide (s (64 + c) = nI 1)) 64 + cnt (fun c => p c && decide (s (64 + c) = nI 2)) 64 = cnt (fun c => p c && !decide (s (64 + c) = -1)) 64 := by
  obtain ⟨n1, n2, n3, n4, n5, n6⟩ := nI_n01
  rw [← zc_or (fun i _ h => by
    simp only [Bool.and_eq_true, decide_eq_true_eq] at h
    rw [h.1.2] at h
    exact n1 h.2.2), ← zc_or (fun i _ h => by
    simp only [Bool.and_eq_true, Bool.or_eq_true, decide_eq_true_eq] at h
    obtain ⟨h1, -, h2⟩ := h
    rw [h2] at h1
    rcases h1 with ⟨-, q⟩ | ⟨-, q⟩
    · exact n5 q
    · exact n6 q)]
  refine cnt_congr (fun c hc => ?_)
  rcases zown3 hs hc with ⟨h1, h2, h3, h4⟩ | ⟨h1, -, h2 | h2 | h2⟩
  · rw [h2, h3, h4, decide_eq_true h1]; cases p c <;> rfl
  · rw [decide_eq_false h1, h2, decide_eq_false n1, decide_eq_false n2]; cases p c <;> rfl
  · rw [decide_eq_false h1, h2, decide_eq_false n3, decide_eq_false n4]; cases p c <;> rfl
  · rw [decide_eq_false h1, h2, decide_eq_false n5, decide_eq_false n6]; cases p c <;> rfl
theorem zown_all {s : Nat → Int32} (hs : zWF s) : zoc s 0 + zoc s 1 + zoc s 2 = cnt (fun c => zic s c && !decide (s (64 + c) = -1)) 64 := by
  have h := zsum3 hs (zic s)
  have e : ∀ k, k < 3 → cnt (fun c => zic s c && decide (s (64 + c) = nI k)) 64 = zoc s k := fun k hk => cnt_congr (fun c hc => by
    by_cases hq : s (64 + c) = nI k
    · rw [zoc_ice hs hc hq hk]; rfl
    · simp [hq])
  rw [e 0 (by omega), e 1 (by omega), e 2 (by omega)] at h
  exact h
-- rinks are counted in two ways
noncomputable def zln (s : Nat → Int32) (n c : Nat) : Nat := zfst (zrB s n c) 64
theorem zln_le {s : Nat → Int32} {n c : Nat} : zln s n c ≤ c := zfst_of (zrB_iff.mpr (zrc_refl s n c))
theorem zln_rc {s : Nat → Int32} {n c : Nat} (hc : c < 64) : zrc s n c (zln s n c) := zrB_iff.mp (zfst_p (zrB s n c) 64 (Nat.lt_of_le_of_lt zln_le hc))
theorem zln_min {s : Nat → Int32} {n c d : Nat} (h : zrc s n c d) : zln s n c ≤ d := zfst_of (zrB_iff.mpr h)
theorem zln_eq {s : Nat → Int32} {n c d : Nat} (hc : c < 64) (hd : d < 64) (h : zrc s n c d) : zln s n c = zln s n d :=
  Nat.le_antisymm (zln_min (zrc_trans h (zln_rc hd))) (zln_min (zrc_trans (zrc_symm h) (zln_rc hc)))
noncomputable def zrn1 (s : Nat → Int32) (n c : Nat) : Bool := zic s c && decide (zln s n c = c)
theorem zrn1_0 (s : Nat → Int32) : cnt (zrn1 s 0) 64 = cnt (zic s) 64 := cnt_congr (fun c hc => by
  unfold zrn1
  have : zln s 0 c = c := (zrc_0.mp (zln_rc hc)).symm
  simp [this])
theorem zrn1_144 (s : Nat → Int32) : cnt (zrn1 s 144) 64 = cnt (zrt s) 64 := cnt_congr (fun c _ => by
  unfold zrn1 zrt
  cases hi : zic s c with
  | false => rw [Bool.false_and, Bool.false_and]
  | true =>
    have : zlo s c = zln s 144 c := by unfold zlo zln; rw [if_pos hi]
    rw [this])
theorem zrn1_same {s : Nat → Int32} {n : Nat} (h : ∀ c d, zrc s (n + 1) c d ↔ zrc s n c d) : cnt (zrn1 s (n + 1)) 64 = cnt (zrn1 s n) 64 := cnt_congr (fun c _ => by
  unfold zrn1 zln
  rw [zfst_congr (q := zrB s n c) (fun i _ => by
    rw [Bool.eq_iff_iff, zrB_iff, zrB_iff]
    exact h c i)])
theorem zrn1_merge {s : Nat → Int32} {n : Nat} (ho : zop s n = true) (hn : ¬ zrc s n (zb1 n) (zb2 n)) : cnt (zrn1 s (n + 1)) 64 + 1 = cnt (zrn1 s n) 64 := by
  obtain ⟨i1, i2, -⟩ := zop_ice ho
  have l1 := zic_lt i1
  have l2 := zic_lt i2
  have r1 := zln_rc (s := s) (n := n) l1
  have r2 := zln_rc (s := s) (n := n) l2
  have m1 : zln s n (zb1 n) < 64 := Nat.lt_of_le_of_lt zln_le l1
  have m2 : zln s n (zb2 n) < 64 := Nat.lt_of_le_of_lt zln_le l2
  have hne : zln s n (zb1 n) ≠ zln s n (zb2 n) := fun h => hn (zrc_trans r1 (by rw [h]; exact zrc_symm r2))
  -- the greater of the two lowest cells is one no more
  have key : ∃ g, g < 64 ∧ zrn1 s n g = true ∧ ∀ c, c < 64 → zrn1 s (n + 1) c = (zrn1 s n c && !decide (c = g)) := by
    have hsym : ∀ a b, ((a = zb1 n ∧ b = zb2 n) ∨ (a = zb2 n ∧ b = zb1 n)) → zln s n a < zln s n b → ∃ g, g < 64 ∧ zrn1 s n g = true ∧ ∀ c, c < 64 → zrn1 s (n + 1) c = (zrn1 s n c && !decide (c = g)) := by
      intro a b hab hlt
      have ia : zic s a = true := by rcases hab with ⟨rfl, -⟩ | ⟨rfl, -⟩ <;> assumption
      have ib : zic s b = true := by rcases hab with ⟨-, rfl⟩ | ⟨-, rfl⟩ <;> assumption
      have la := zic_lt ia
      have lb := zic_lt ib
      have ra := zln_rc (s := s) (n := n) la
      have rb := zln_rc (s := s) (n := n) lb
      have hsucc : ∀ c d, zrc s (n + 1) c d ↔ zrc s n c d ∨ ((zrc s n c a ∧ zrc s n b d) ∨ (zrc s n c b ∧ zrc s n a d)) := by
        intro c d
        rw [zrc_succ]
        rcases hab with ⟨rfl, rfl⟩ | ⟨rfl, rfl⟩
        · simp only [ho, true_and]
        · simp only [ho, true_and]
          constructor
          · rintro (h | h | h)
            · exact Or.inl h
            · exact Or.inr (Or.inr h)
            · exact Or.inr (Or.inl h)
          · rintro (h | h | h)
            · exact Or.inl h
            · exact Or.inr (Or.inr h)
            · exact Or.inr (Or.inl h)
      have hgb : zln s n b < 64 := Nat.lt_of_le_of_lt zln_le lb
      have hgl : zln s n (zln s n b) = zln s n b := (zln_eq lb hgb rb).symm
      refine ⟨zln s n b, hgb, ?_, ?_⟩
      · unfold zrn1
        rw [zrc_ice rb ib, hgl]; simp
      · intro c hc
        unfold zrn1
        cases hi : zic s c with
        | false => rw [Bool.false_and, Bool.false_and, Bool.false_and]
        | true =>
          simp only [Bool.true_and]
          by_cases hcg : c = zln s n b
          · have h1 : zrc s (n + 1) (zln s n b) (zln s n a) := (hsucc _ _).mpr (Or.inr (Or.inr ⟨zrc_symm rb, ra⟩))
            have h2 := zln_min h1
            rw [hcg, decide_eq_false (p := zln s (n + 1) (zln s n b) = zln s n b) (by omega), decide_eq_true (p := zln s n b = zln s n b) rfl, Bool.not_true, Bool.and_false]
          · have e : (zln s (n + 1) c = c) ↔ (zln s n c = c) := by
              constructor
              · intro h
                refine Nat.le_antisymm zln_le (Nat.le_of_not_lt (fun hh => ?_))
                have : zln s (n + 1) c ≤ zln s n c := zln_min (zrc_mono (Nat.le_succ n) (zln_rc (s := s) (n := n) hc))
                omega
              · intro h
                refine Nat.le_antisymm zln_le (Nat.le_of_not_lt (fun hh => ?_))
                rcases (hsucc _ _).mp (zln_rc (s := s) (n := n + 1) hc) with q | ⟨q1, q2⟩ | ⟨q1, q2⟩
                · have := zln_min q; omega
                · have e1 := zln_eq hc la q1
                  have e2 := zln_min q2
                  omega
                · have e1 := zln_eq hc lb q1
                  omega
            rw [decide_eq_false (p := c = zln s n b) hcg]
            simp only [Bool.not_false, Bool.and_true]
            exact decide_eq_decide.mpr e
    rcases Nat.lt_or_ge (zln s n (zb1 n)) (zln s n (zb2 n)) with h | h
    · exact hsym _ _ (Or.inl ⟨rfl, rfl⟩) h
    · exact hsym _ _ (Or.inr ⟨rfl, rfl⟩) (by omega)
  obtain ⟨g, g1, g2, g3⟩ := key
  have h1 := zc_split (zrn1 s n) (fun c => decide (c = g)) 64
  have h2 : cnt (fun i => zrn1 s n i && decide (i = g)) 64 = 1 := by
    rw [cnt_congr (g := fun d => decide (d = g)) (fun i _ => by
      by_cases h : i = g
      · subst h; simp [g2]
      · simp [h]), zc_one, if_pos g1]
  have h3 : cnt (zrn1 s (n + 1)) 64 = cnt (fun i => zrn1 s n i && !decide (i = g)) 64 := cnt_congr (fun i hi => g3 i hi)
  omega
theorem nI_m1 {a b : Nat} (h : a + 1 = b) : nI b + -1 = nI a := by
  subst h
  exact pk_m1 a
theorem zjc_all (s : Nat → Int32) : ∀ n, zjc s n = nI (cnt (zrn1 s n) 64)
  | 0 => by rw [zrn1_0]; rfl
  | n + 1 => by
    have ih := zjc_all s n
    cases ho : zop s n with
    | false =>
      rw [zjc_f ho, ih, zrn1_same (fun c d => by rw [zrc_succ, ho]; simp)]
    | true =>
      by_cases hr : zrc s n (zb1 n) (zb2 n)
      · rw [zjc_y hr, ih, zrn1_same (fun c d => ?_)]
        rw [zrc_succ]
        constructor
        · rintro (h | ⟨-, ⟨h1, h2⟩ | ⟨h1, h2⟩⟩)
          · exact h
          · exact zrc_trans h1 (zrc_trans hr h2)
          · exact zrc_trans h1 (zrc_trans (zrc_symm hr) h2)
        · exact Or.inl
      · rw [zjc_n ho hr, ih]
        exact nI_m1 (zrn1_merge ho hr)
theorem zjc_rt (s : Nat → Int32) : zjc s 144 = nI (cnt (zrt s) 64) := by rw [zjc_all, zrn1_144]
-- thaws
theorem zwb_le (s : Nat → Int32) (c : Nat) : zwb s c ≤ 4 := by
  have h : ∀ b, zN b ≤ 1 := fun b => by cases b <;> decide
  unfold zwb
  have h0 := h (zwt s (zn4 c 0))
  have h1 := h (zwt s (zn4 c 1))
  have h2 := h (zwt s (zn4 c 2))
  have h3 := h (zwt s (zn4 c 3))
  omega
theorem zcm_le2 (s : Nat → Int32) : ∀ j, (∀ i, i < j → zcm s i = false) → cnt (zic (thn s j)) 64 + j ≤ cnt (zic s) 64
  | 0, _ => Nat.le_refl _
  | j + 1, h => by
    have ih := zcm_le2 s j (fun i hi => h i (by omega))
    have h1 := zth_cnt (thn s j)
    have h3 := zcm_f (h j (by omega))
    show cnt (zic (zth (thn s j))) 64 + (j + 1) ≤ _
    omega
theorem zca_lt {s : Nat → Int32} (hs : zWF s) : zca s < 64 := by
  have h1 := zcm_le2 s (zca s) (fun i hi => zca_min s hi)
  have h2 := cnt_le (zic s) 64
  by_cases hf : cnt (zic s) 64 = 64
  · have hall : ∀ c, c < 64 → zic s c = true := fun c hc => by
      cases hi : zic s c with
      | true => rfl
      | false =>
        have := zc_lt (f := zic s) (g := fun _ => true) (j := c) hi rfl hc (fun _ _ _ => rfl)
        have h3 := cnt_le (fun _ => true) 64
        omega
    have hw : ∀ d, zwt s d = false := fun d => by
      unfold zwt
      by_cases hd : d < 64
      · have := hall d hd
        rw [zic_iff hd] at this
        have h10 : ¬ nI 1 = nI 0 := by decide
        rw [of_decide_eq_true this]; simp [h10]
      · simp [hd]
    have hb : ∀ c, zwb s c = 0 := fun c => by
      unfold zwb
      rw [hw, hw, hw, hw]; decide
    obtain ⟨a, b, w, -, -, -, -, -, w1, w2, w3⟩ := hs.2.2.1
    have hz : cnt (ztw s) 64 = 0 := zc_none (fun c _ => by
      unfold ztw
      have : decide (nI 0 < nI w) = true := decide_eq_true (nI_lt (by omega) (by omega))
      rw [hb, w1, this]
      simp)
    have : zca s = 0 := zfst_eq (by omega) (decide_eq_true hz) (fun i hi => absurd hi (Nat.not_lt_zero _))
    omega
  · omega
theorem zwa_ice {s : Nat → Int32} {c : Nat} (h : zic s c = true) : zwa s c = -1 ∨ ∃ k, 0 < k ∧ k < 2 ^ 31 ∧ zwa s c = nI k := by
  unfold zwa
  rw [if_pos h]
  split
  · exact Or.inl rfl
  · have := zcw_le s c
    exact Or.inr ⟨zcw s c + 1, by omega, by omega, rfl⟩
-- lines
theorem zcut_le {s : Nat → Int32} (hs : zWF s) : cnt (fun l => decide (s (128 + l) = nI 1)) 144 ≤ 112 := by
  have h1 : cnt (fun l => decide (s (128 + l) = nI 1)) 144 ≤ cnt (fun l => !(decide (zb1 l = 64) || decide (zb2 l = 64))) 144 := zc_mono (fun l hl h => by
    have h3 := (hs.1.2.2.2.1 l hl).2
    have h4 := of_decide_eq_true h
    by_cases hb : zb1 l = 64 ∨ zb2 l = 64
    · have := h3 hb
      rw [this] at h4
      exact absurd h4 (by decide)
    · simp only [not_or] at hb
      simp [hb.1, hb.2])
  have h2 : cnt (fun l => !(decide (zb1 l = 64) || decide (zb2 l = 64))) 144 ≤ 112 := by decide +kernel
  omega
theorem zeast {s : Nat → Int32} (hs : zWF s) {x y : Nat} (hx : x < 7) (hy : y < 8) (h1 : zic s (8 * y + x) = true) (h2 : zic s (8 * y + (x + 1)) = true) (h3 : ¬ s (128 + (72 + 9 * y + (x + 1))) = nI 1) : zlo s (8 * y + (x + 1)) = zlo s (8 * y + x) := by
  have hl : 72 + 9 * y + (x + 1) < 144 := by omega
  have b1 : zb1 (72 + 9 * y + (x + 1)) = 8 * y + x := by
    unfold zb1
    rw [if_neg (by omega), if_pos (by omega)]
    omega
  have b2 : zb2 (72 + 9 * y + (x + 1)) = 8 * y + (x + 1) := by
    unfold zb2
    rw [if_neg (by omega), if_pos (by omega)]
    omega
  have h0 : s (128 + (72 + 9 * y + (x + 1))) = nI 0 := ((hs.1.2.2.2.1 _ hl).1).elim id (fun q => absurd q h3)
  have ho : zop s (72 + 9 * y + (x + 1)) = true := by
    unfold zop
    rw [b1, b2, h1, h2, h0]; decide
  exact (zlo_eq h1 (zrc_step (zrc_refl _ _ _) ⟨_, hl, ho, Or.inl ⟨b1.symm, b2.symm⟩⟩)).symm
