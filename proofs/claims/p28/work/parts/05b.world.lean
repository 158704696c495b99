/-! ===== the world as a row of numbers: sets, counts, least elements, what is reached ===== -/
def zfst (p : Nat → Bool) : Nat → Nat
  | 0 => 0
  | n + 1 => if zfst p n < n then zfst p n else if p n = true then n else n + 1
theorem zfst_le (p : Nat → Bool) : ∀ n, zfst p n ≤ n
  | 0 => Nat.le_refl _
  | n + 1 => by
    have := zfst_le p n
    simp only [zfst]
    split
    · omega
    · split <;> omega
theorem zfst_min (p : Nat → Bool) : ∀ n j, j < zfst p n → p j = false
  | 0, j, h => absurd h (Nat.not_lt_zero _)
  | n + 1, j, h => by
    have ih := zfst_min p n
    have hl := zfst_le p n
    simp only [zfst] at h
    split at h
    · exact ih j h
    · split at h
      · exact ih j (by omega)
      · next h1 h2 =>
        by_cases hj : j < n
        · exact ih j (by omega)
        · have : j = n := by omega
          subst this
          simpa using h2
theorem zfst_p (p : Nat → Bool) : ∀ n, zfst p n < n → p (zfst p n) = true
  | 0, h => absurd h (Nat.not_lt_zero _)
  | n + 1, h => by
    have ih := zfst_p p n
    simp only [zfst] at h ⊢
    split at h
    · next h1 => rw [if_pos h1]; exact ih h1
    · next h1 =>
      rw [if_neg h1]
      split at h
      · next h2 => rw [if_pos h2]; exact h2
      · omega
theorem zfst_eq {p : Nat → Bool} {n j : Nat} (hj : j < n) (hp : p j = true) (hm : ∀ i, i < j → p i = false) : zfst p n = j := by
  have h1 : zfst p n ≤ j := Nat.le_of_not_lt (fun h => by rw [zfst_min p n j h] at hp; cases hp)
  have h2 : ¬ zfst p n < j := fun h => by
    have := zfst_p p n (by omega)
    rw [hm _ h] at this; cases this
  omega
theorem zfst_of {p : Nat → Bool} {n j : Nat} (hp : p j = true) : zfst p n ≤ j :=
  Nat.le_of_not_lt (fun h => by rw [zfst_min p n j h] at hp; cases hp)
theorem zfst_none {p : Nat → Bool} {n : Nat} (h : ∀ j, j < n → p j = false) : zfst p n = n := by
  have h1 := zfst_le p n
  have h2 : ¬ zfst p n < n := fun h3 => by
    have := zfst_p p n h3
    rw [h _ h3] at this; cases this
  omega
theorem zfst_congr {p q : Nat → Bool} : ∀ {n : Nat}, (∀ i, i < n → p i = q i) → zfst p n = zfst q n
  | 0, _ => rfl
  | n + 1, h => by
    simp only [zfst]
    rw [zfst_congr (fun i hi => h i (by omega)), h n (by omega)]
-- counts
theorem zc_1 {p : Nat → Bool} {k : Nat} (h : p k = true) : cnt p k + 1 = cnt p (k + 1) := by simp only [cnt, h, if_true]
theorem zc_0 {p : Nat → Bool} {k : Nat} (h : p k = false) : cnt p (k + 1) = cnt p k := by simp [cnt, h]
theorem zc_0' {p : Nat → Bool} {k : Nat} (h : p k = false) : cnt p k + 0 = cnt p (k + 1) := by simp [cnt, h]
theorem zc_mono {f g : Nat → Bool} : ∀ {n : Nat}, (∀ i, i < n → f i = true → g i = true) → cnt f n ≤ cnt g n
  | 0, _ => Nat.le_refl _
  | n + 1, h => by
    have ih := zc_mono (f := f) (g := g) (n := n) (fun i hi => h i (by omega))
    have h2 := h n (by omega)
    simp only [cnt]
    by_cases hf : f n = true
    · rw [if_pos hf, if_pos (h2 hf)]; omega
    · rw [if_neg hf]; omega
theorem zc_lt {f g : Nat → Bool} {j : Nat} (hf : f j = false) (hg : g j = true) : ∀ {n : Nat}, j < n → (∀ i, i < n → f i = true → g i = true) → cnt f n < cnt g n
  | 0, hj, _ => absurd hj (Nat.not_lt_zero _)
  | n + 1, hj, h => by
    simp only [cnt]
    by_cases hn : j = n
    · subst hn
      have ih := zc_mono (f := f) (g := g) (n := j) (fun i hi => h i (by omega))
      rw [if_neg (by rw [hf]; decide), if_pos hg]; omega
    · have ih := zc_lt hf hg (n := n) (by omega) (fun i hi => h i (by omega))
      have h2 := h n (by omega)
      by_cases hfn : f n = true
      · rw [if_pos hfn, if_pos (h2 hfn)]; omega
      · rw [if_neg hfn]; omega
theorem zc_none {f : Nat → Bool} {n : Nat} (h : ∀ i, i < n → f i = false) : cnt f n = 0 := by
  have : cnt f n = cnt (fun _ => false) n := cnt_congr h
  rw [this]
  clear this h
  induction n with
  | zero => rfl
  | succ n ih => simp only [cnt, ih]; rfl
theorem zc_pos {f : Nat → Bool} {n j : Nat} (hj : j < n) (h : f j = true) : 0 < cnt f n := by
  have := zc_lt (f := fun _ => false) (g := f) (j := j) rfl h (n := n) hj (fun i _ hi => by cases hi)
  omega
theorem zc_none' {f : Nat → Bool} {n : Nat} (h : cnt f n = 0) : ∀ i, i < n → f i = false := by
  intro i hi
  cases hfi : f i with
  | false => rfl
  | true => have := zc_pos hi hfi; omega
theorem zc_or {f g : Nat → Bool} : ∀ {n : Nat}, (∀ i, i < n → ¬ (f i = true ∧ g i = true)) → cnt (fun i => f i || g i) n = cnt f n + cnt g n
  | 0, _ => rfl
  | n + 1, h => by
    have ih := zc_or (f := f) (g := g) (n := n) (fun i hi => h i (by omega))
    have h2 := h n (by omega)
    simp only [cnt, ih]
    rcases Bool.eq_false_or_eq_true (f n) with hf | hf <;> rcases Bool.eq_false_or_eq_true (g n) with hg | hg <;> simp [hf, hg] at h2 ⊢ <;> omega
theorem zc_split (f g : Nat → Bool) : ∀ n, cnt f n = cnt (fun i => f i && g i) n + cnt (fun i => f i && !g i) n
  | 0 => rfl
  | n + 1 => by
    have ih := zc_split f g n
    simp only [cnt]
    rw [ih]
    rcases Bool.eq_false_or_eq_true (f n) with hf | hf <;> rcases Bool.eq_false_or_eq_true (g n) with hg | hg <;> simp [hf, hg] <;> omega
theorem zc_one (j : Nat) : ∀ n, cnt (fun i => decide (i = j)) n = if j < n then 1 else 0
  | 0 => rfl
  | n + 1 => by
    have ih := zc_one j n
    simp only [cnt, ih, decide_eq_true_eq]
    by_cases h1 : n = j
    · subst h1; simp
    · by_cases h2 : j < n
      · simp [h1, h2, Nat.lt_succ_of_lt h2]
      · simp [h1, h2]; omega
theorem zc_full {f : Nat → Bool} {n : Nat} (h : ∀ i, i < n → f i = true) : cnt f n = n := by
  have h1 := zc_split (fun _ => true) f n
  induction n with
  | zero => rfl
  | succ n ih => simp only [cnt, h n (by omega), if_true]; rw [ih (fun i hi => h i (by omega)) (zc_split _ _ _)]
-- sums
def zsum (f : Nat → Nat) : Nat → Nat
  | 0 => 0
  | n + 1 => zsum f n + f n
theorem zsum_le {f g : Nat → Nat} : ∀ {n : Nat}, (∀ i, i < n → f i ≤ g i) → zsum f n ≤ zsum g n
  | 0, _ => Nat.le_refl _
  | n + 1, h => by
    have ih := zsum_le (f := f) (g := g) (n := n) (fun i hi => h i (by omega))
    have := h n (by omega)
    simp only [zsum]; omega
theorem zsum_lt {f g : Nat → Nat} {j : Nat} (hlt : f j < g j) : ∀ {n : Nat}, j < n → (∀ i, i < n → f i ≤ g i) → zsum f n < zsum g n
  | 0, hj, _ => absurd hj (Nat.not_lt_zero _)
  | n + 1, hj, h => by
    simp only [zsum]
    by_cases hn : j = n
    · subst hn
      have ih := zsum_le (f := f) (g := g) (n := j) (fun i hi => h i (by omega))
      omega
    · have ih := zsum_lt hlt (n := n) (by omega) (fun i hi => h i (by omega))
      have := h n (by omega)
      omega
theorem zsum_congr {f g : Nat → Nat} : ∀ {n : Nat}, (∀ i, i < n → f i = g i) → zsum f n = zsum g n
  | 0, _ => rfl
  | n + 1, h => by simp only [zsum]; rw [zsum_congr (fun i hi => h i (by omega)), h n (by omega)]
-- the world
def zic (s : Nat → Int32) (c : Nat) : Bool := decide (c < 64) && decide (s c = nI 1)
/-- the cells beside a line (64: none) -/
def zb1 (l : Nat) : Nat := if l < 72 then (if 8 ≤ l then l - 8 else 64) else (if 1 ≤ (l - 72) % 9 then 8 * ((l - 72) / 9) + (l - 72) % 9 - 1 else 64)
def zb2 (l : Nat) : Nat := if l < 72 then (if l < 64 then l else 64) else (if (l - 72) % 9 < 8 then 8 * ((l - 72) / 9) + (l - 72) % 9 else 64)
def zop (s : Nat → Int32) (l : Nat) : Bool := (zic s (zb1 l) && zic s (zb2 l)) && decide (s (128 + l) = nI 0)
theorem zic_lt {s : Nat → Int32} {c : Nat} (h : zic s c = true) : c < 64 := by
  unfold zic at h; simp only [Bool.and_eq_true, decide_eq_true_eq] at h; exact h.1
theorem zic_64 (s : Nat → Int32) : zic s 64 = false := by unfold zic; simp
theorem zic_iff {s : Nat → Int32} {c : Nat} (hc : c < 64) : zic s c = decide (s c = nI 1) := by unfold zic; simp [hc]
/-- beside each other, by an open line below n -/
def zad (s : Nat → Int32) (n a b : Nat) : Prop := ∃ l, l < n ∧ zop s l = true ∧ ((a = zb1 l ∧ b = zb2 l) ∨ (a = zb2 l ∧ b = zb1 l))
def zrc (s : Nat → Int32) (n a b : Nat) : Prop := ∀ S : Nat → Prop, S a → (∀ x y, zad s n x y → S x → S y) → S b
theorem zad_symm {s : Nat → Int32} {n a b : Nat} (h : zad s n a b) : zad s n b a := by
  obtain ⟨l, h1, h2, h3⟩ := h
  exact ⟨l, h1, h2, h3.elim (fun q => Or.inr ⟨q.2, q.1⟩) (fun q => Or.inl ⟨q.2, q.1⟩)⟩
theorem zrc_refl (s : Nat → Int32) (n a : Nat) : zrc s n a a := fun _ h _ => h
theorem zrc_step {s : Nat → Int32} {n a b c : Nat} (h : zrc s n a b) (h2 : zad s n b c) : zrc s n a c := fun S h0 hs => hs _ _ h2 (h S h0 hs)
theorem zrc_trans {s : Nat → Int32} {n a b c : Nat} (h : zrc s n a b) (h2 : zrc s n b c) : zrc s n a c := fun S h0 hs => h2 S (h S h0 hs) hs
theorem zrc_symm {s : Nat → Int32} {n a b : Nat} (h : zrc s n a b) : zrc s n b a := by
  refine h (fun x => zrc s n x a) (zrc_refl s n a) (fun x y hxy hx => ?_)
  exact zrc_trans (zrc_step (zrc_refl s n y) (zad_symm hxy)) hx
theorem zad_mono {s : Nat → Int32} {n m a b : Nat} (hnm : n ≤ m) (h : zad s n a b) : zad s m a b := by
  obtain ⟨l, h1, h2⟩ := h
  exact ⟨l, by omega, h2⟩
theorem zrc_mono {s : Nat → Int32} {n m a b : Nat} (hnm : n ≤ m) (h : zrc s n a b) : zrc s m a b := fun S h0 hs => h S h0 (fun x y hxy => hs x y (zad_mono hnm hxy))
theorem zad_ice {s : Nat → Int32} {n a b : Nat} (h : zad s n a b) : zic s a = true ∧ zic s b = true := by
  obtain ⟨l, -, h2, h3⟩ := h
  simp only [zop, Bool.and_eq_true] at h2
  rcases h3 with ⟨rfl, rfl⟩ | ⟨rfl, rfl⟩
  · exact ⟨h2.1.1, h2.1.2⟩
  · exact ⟨h2.1.2, h2.1.1⟩
theorem zrc_ice {s : Nat → Int32} {n a b : Nat} (h : zrc s n a b) (ha : zic s a = true) : zic s b = true :=
  h (fun x => zic s x = true) ha (fun _ _ hxy _ => (zad_ice hxy).2)
noncomputable def zrB (s : Nat → Int32) (n a b : Nat) : Bool := @decide (zrc s n a b) (Classical.propDecidable _)
theorem zrB_iff {s : Nat → Int32} {n a b : Nat} : zrB s n a b = true ↔ zrc s n a b := @decide_eq_true_iff _ (Classical.propDecidable _)
/-- the lowest cell of a cell's rink; 64 of water -/
noncomputable def zlo (s : Nat → Int32) (c : Nat) : Nat := if zic s c = true then zfst (zrB s 144 c) 64 else 64
theorem zlo_w {s : Nat → Int32} {c : Nat} (h : zic s c = false) : zlo s c = 64 := by unfold zlo; simp [h]
theorem zlo_lt {s : Nat → Int32} {c : Nat} (h : zic s c = true) : zlo s c < 64 := by
  unfold zlo
  rw [if_pos h]
  exact Nat.lt_of_le_of_lt (zfst_of (zrB_iff.mpr (zrc_refl s 144 c))) (zic_lt h)
theorem zlo_le {s : Nat → Int32} {c : Nat} (h : zic s c = true) : zlo s c ≤ c := by
  unfold zlo
  rw [if_pos h]
  exact zfst_of (zrB_iff.mpr (zrc_refl s 144 c))
theorem zlo_64 {s : Nat → Int32} {c : Nat} : zlo s c ≤ 64 := by
  unfold zlo; split
  · exact zfst_le _ _
  · exact Nat.le_refl _
theorem zlo_rc {s : Nat → Int32} {c : Nat} (h : zic s c = true) : zrc s 144 c (zlo s c) := by
  have h1 := zlo_lt h
  unfold zlo at h1 ⊢
  rw [if_pos h] at h1 ⊢
  exact zrB_iff.mp (zfst_p _ _ h1)
theorem zlo_min {s : Nat → Int32} {c d : Nat} (h : zic s c = true) (hd : zrc s 144 c d) : zlo s c ≤ d := by
  unfold zlo
  rw [if_pos h]
  exact zfst_of (zrB_iff.mpr hd)
theorem zlo_ice {s : Nat → Int32} {c : Nat} (h : zic s c = true) : zic s (zlo s c) = true := zrc_ice (zlo_rc h) h
theorem zlo_eq {s : Nat → Int32} {c d : Nat} (h : zic s c = true) (hd : zrc s 144 c d) : zlo s c = zlo s d := by
  have h2 := zrc_ice hd h
  exact Nat.le_antisymm (zlo_min h (zrc_trans hd (zlo_rc h2))) (zlo_min h2 (zrc_trans (zrc_symm hd) (zlo_rc h)))
theorem zlo_iff {s : Nat → Int32} {c d : Nat} (hc : zic s c = true) (hd : zic s d = true) : zlo s c = zlo s d ↔ zrc s 144 c d := by
  constructor
  · intro h
    have h1 := zlo_rc hc
    rw [h] at h1
    exact zrc_trans h1 (zrc_symm (zlo_rc hd))
  · exact zlo_eq hc
theorem zlo_idem {s : Nat → Int32} {c : Nat} (h : zic s c = true) : zlo s (zlo s c) = zlo s c := (zlo_eq h (zlo_rc h)).symm
theorem zlo_ice' {s : Nat → Int32} {c : Nat} (h : zlo s c < 64) : zic s c = true := by
  cases hc : zic s c with
  | true => rfl
  | false => rw [zlo_w hc] at h; omega
/-- what labels come to -/
theorem zlo_char {s : Nat → Int32} {f : Nat → Nat} (h1 : ∀ c, zic s c = true → zrc s 144 c (f c)) (h2 : ∀ c, zic s c = true → f c ≤ c) (h3 : ∀ l, l < 144 → zop s l = true → f (zb1 l) = f (zb2 l)) {c : Nat} (hc : zic s c = true) : f c = zlo s c := by
  have h4 : ∀ d, zrc s 144 c d → f c = f d := fun d hd => hd (fun x => f c = f x) rfl (fun x y hxy hx => by
    obtain ⟨l, g1, g2, g3⟩ := hxy
    have := h3 l g1 g2
    rcases g3 with ⟨rfl, rfl⟩ | ⟨rfl, rfl⟩
    · exact hx.trans this
    · exact hx.trans this.symm)
  have h5 := h4 _ (zlo_rc hc)
  have h6 := h2 _ (zlo_ice hc)
  have h7 := zlo_min hc (h1 c hc)
  omega
/-- the lowest cells of rinks -/
noncomputable def zrt (s : Nat → Int32) (c : Nat) : Bool := zic s c && decide (zlo s c = c)
