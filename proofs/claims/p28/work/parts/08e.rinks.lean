/-! ===== ponds: rinks ===== -/
def zoN (s : Nat → Int32) (c : Nat) : Bool := (zic s c && (decide (8 ≤ c) && zic s (c - 8))) && !zcN s c
def zoW (s : Nat → Int32) (c : Nat) : Bool := (zic s c && (decide (¬ c % 8 = 0) && zic s (c - 1))) && !zcW s c
/-- what is wider by a round -/
def zwi (s : Nat → Int32) (p : Nat → Bool) (d : Nat) : Bool := (((p d || (decide (8 + d < 64) && (p (8 + d) && zoN s (8 + d)))) || ((decide (8 ≤ d) && p (d - 8)) && zoN s d)) || (decide (¬ d % 8 = 7) && (p (d + 1) && zoW s (d + 1)))) || ((decide (¬ d % 8 = 0) && p (d - 1)) && zoW s d)
def zrn (s : Nat → Int32) (a : Nat) : Nat → Nat → Bool
  | 0 => fun d => decide (d = a) && zic s d
  | n + 1 => zwi s (zrn s a n)
theorem zoN_ad {s : Nat → Int32} {c : Nat} (hc : c < 64) (h3 : zW3 s) (h : zoN s c = true) : zad s 144 (c - 8) c := by
  unfold zoN at h
  simp only [Bool.and_eq_true, Bool.not_eq_true', decide_eq_true_eq] at h
  obtain ⟨⟨h1, h8, h2⟩, h4⟩ := h
  have hb1 : zb1 c = c - 8 := by unfold zb1; rw [if_pos (by omega), if_pos h8]
  have hb2 : zb2 c = c := zb2_E hc
  have hcut : s (128 + c) = nI 0 := by
    rcases (h3 c (by omega)).1 with h | h
    · exact h
    · unfold zcN at h4; rw [h] at h4; exact absurd h4 (by decide)
  refine ⟨c, by omega, ?_, Or.inl ⟨hb1.symm, hb2.symm⟩⟩
  unfold zop
  rw [hb1, hb2, h1, h2, hcut]; decide
theorem zoW_ad {s : Nat → Int32} {c : Nat} (hc : c < 64) (h3 : zW3 s) (h : zoW s c = true) : zad s 144 (c - 1) c := by
  unfold zoW at h
  simp only [Bool.and_eq_true, Bool.not_eq_true', decide_eq_true_eq] at h
  obtain ⟨⟨h1, h8, h2⟩, h4⟩ := h
  have hb1 : zb1 (72 + 9 * (c / 8) + c % 8) = c - 1 := by
    unfold zb1
    rw [if_neg (by omega), show (72 + 9 * (c / 8) + c % 8 - 72) = 9 * (c / 8) + c % 8 by omega, if_pos (by omega)]
    omega
  have hb2 : zb2 (72 + 9 * (c / 8) + c % 8) = c := by
    unfold zb2
    rw [if_neg (by omega), show (72 + 9 * (c / 8) + c % 8 - 72) = 9 * (c / 8) + c % 8 by omega, if_pos (by omega)]
    omega
  have hcut : s (128 + (72 + 9 * (c / 8) + c % 8)) = nI 0 := by
    rcases (h3 (72 + 9 * (c / 8) + c % 8) (by omega)).1 with h | h
    · exact h
    · unfold zcW at h4; rw [h] at h4; exact absurd h4 (by decide)
  refine ⟨72 + 9 * (c / 8) + c % 8, by omega, ?_, Or.inl ⟨hb1.symm, hb2.symm⟩⟩
  unfold zop
  rw [hb1, hb2, h1, h2, hcut]; decide
/-- by a mask from line to line -/
theorem zad_mask {s : Nat → Int32} {x y : Nat} (h : zad s 144 x y) : (8 ≤ y ∧ x = y - 8 ∧ zoN s y = true) ∨ (8 ≤ x ∧ y = x - 8 ∧ zoN s x = true) ∨ (¬ y % 8 = 0 ∧ x = y - 1 ∧ zoW s y = true) ∨ (¬ x % 8 = 0 ∧ y = x - 1 ∧ zoW s x = true) := by
  obtain ⟨l, hl, ho, hp⟩ := h
  obtain ⟨i1, i2, i3⟩ := zop_ice ho
  have g1 := zic_lt i1
  have g2 := zic_lt i2
  have key : (l < 72 ∧ 8 ≤ zb2 l ∧ zb1 l = zb2 l - 8 ∧ zoN s (zb2 l) = true) ∨ (¬ zb2 l % 8 = 0 ∧ zb1 l = zb2 l - 1 ∧ zoW s (zb2 l) = true) := by
    by_cases h72 : l < 72
    · have e2 : zb2 l = l := by
        refine zb2_E ?_
        unfold zb2 at g2
        rw [if_pos h72] at g2
        split at g2
        · assumption
        · omega
      have e1 : 8 ≤ l ∧ zb1 l = l - 8 := by
        unfold zb1 at g1 ⊢
        rw [if_pos h72] at g1 ⊢
        split at g1
        · next h8 => rw [if_pos h8]; exact ⟨h8, rfl⟩
        · omega
      refine Or.inl ⟨h72, by omega, by rw [e2]; exact e1.2, ?_⟩
      unfold zoN zcN
      rw [e1.2] at i1
      rw [e2] at i2 ⊢
      rw [i1, i2, i3]
      simp [e1.1]; decide
    · have e2 := zb2_S (by omega) g2
      have e1 : ¬ zb2 l % 8 = 0 ∧ zb1 l = zb2 l - 1 := by
        unfold zb1 at g1 ⊢
        rw [if_neg h72] at g1 ⊢
        split at g1
        · next h8 => rw [if_pos h8]; omega
        · omega
      refine Or.inr ⟨e1.1, e1.2, ?_⟩
      unfold zoW zcW
      rw [e2, i2, i3, ← e1.2, i1]
      simp [e1.1]; decide
  rcases hp with ⟨rfl, rfl⟩ | ⟨rfl, rfl⟩
  · rcases key with ⟨-, k1, k2, k3⟩ | ⟨k1, k2, k3⟩
    · exact Or.inl ⟨k1, k2, k3⟩
    · exact Or.inr (Or.inr (Or.inl ⟨k1, k2, k3⟩))
  · rcases key with ⟨-, k1, k2, k3⟩ | ⟨k1, k2, k3⟩
    · exact Or.inr (Or.inl ⟨k1, k2, k3⟩)
    · exact Or.inr (Or.inr (Or.inr ⟨k1, k2, k3⟩))
theorem zwi_sub {s : Nat → Int32} {p : Nat → Bool} {d : Nat} (h : p d = true) : zwi s p d = true := by
  unfold zwi; simp [h]
theorem zwi_ad {s : Nat → Int32} {p : Nat → Bool} {x y : Nat} (hp : p x = true) (h : zad s 144 x y) : zwi s p y = true := by
  have hx := zic_lt (zad_ice h).1
  have hy := zic_lt (zad_ice h).2
  unfold zwi
  rcases zad_mask h with ⟨h1, rfl, h2⟩ | ⟨h1, rfl, h2⟩ | ⟨h1, rfl, h2⟩ | ⟨h1, rfl, h2⟩
  · simp [hp, h1, h2]
  · have e : 8 + (x - 8) = x := by omega
    simp [e, hp, h2, hx]
  · simp [hp, h1, h2]
  · have e : x - 1 + 1 = x := by omega
    have e2 : ¬ (x - 1) % 8 = 7 := by omega
    simp [e, e2, hp, h2]
theorem zwi_inv {s : Nat → Int32} {p : Nat → Bool} {d : Nat} (hd : d < 64) (h3 : zW3 s) (h : zwi s p d = true) : p d = true ∨ ∃ x, x < 64 ∧ p x = true ∧ zad s 144 x d := by
  unfold zwi at h
  simp only [Bool.or_eq_true, Bool.and_eq_true, decide_eq_true_eq] at h
  rcases h with (((h | ⟨h1, h2, h4⟩) | ⟨⟨h1, h2⟩, h4⟩) | ⟨h1, h2, h4⟩) | ⟨⟨h1, h2⟩, h4⟩
  · exact Or.inl h
  · have := zoN_ad h1 h3 h4
    rw [show 8 + d - 8 = d by omega] at this
    exact Or.inr ⟨8 + d, h1, h2, zad_symm this⟩
  · exact Or.inr ⟨d - 8, by omega, h2, zoN_ad hd h3 h4⟩
  · have := zoW_ad (c := d + 1) (by omega) h3 h4
    rw [show d + 1 - 1 = d by omega] at this
    exact Or.inr ⟨d + 1, by omega, h2, zad_symm this⟩
  · exact Or.inr ⟨d - 1, by omega, h2, zoW_ad hd h3 h4⟩
theorem zrn_rc {s : Nat → Int32} {a : Nat} (h3 : zW3 s) : ∀ n d, d < 64 → zrn s a n d = true → zic s a = true ∧ zrc s 144 a d
  | 0, d, _, h => by
    simp only [zrn, Bool.and_eq_true, decide_eq_true_eq] at h
    obtain ⟨rfl, h⟩ := h
    exact ⟨h, zrc_refl _ _ _⟩
  | n + 1, d, hd, h => by
    rcases zwi_inv hd h3 h with h | ⟨x, hx, h1, h2⟩
    · exact zrn_rc h3 n d hd h
    · obtain ⟨q1, q2⟩ := zrn_rc h3 n x hx h1
      exact ⟨q1, zrc_step q2 h2⟩
def zsb (s : Nat → Int32) (a k : Nat) : Bool := decide (jset (zrn s a (k + 1)) = jset (zrn s a k))
def zrF (s : Nat → Int32) (a : Nat) : Nat := zfst (zsb s a) 64
theorem zrn_cnt {s : Nat → Int32} {a : Nat} : ∀ k, (∀ j, j < k → zsb s a j = false) → cnt (zrn s a 0) 64 + k ≤ cnt (zrn s a k) 64
  | 0, _ => Nat.le_refl _
  | k + 1, h => by
    have ih := zrn_cnt (s := s) (a := a) k (fun j hj => h j (by omega))
    have hk := h k (by omega)
    unfold zsb at hk
    have hne := of_decide_eq_false hk
    have : ∃ c, c < 64 ∧ zrn s a k c = false ∧ zrn s a (k + 1) c = true := by
      refine Classical.byContradiction (fun hn => hne (js_congr (fun c hc => ?_)))
      cases h1 : zrn s a k c with
      | true => exact zwi_sub h1
      | false =>
        cases h2 : zrn s a (k + 1) c with
        | false => rfl
        | true => exact absurd ⟨c, hc, h1, h2⟩ hn
    obtain ⟨c, hc, h1, h2⟩ := this
    have := zc_lt h1 h2 hc (fun i _ hi => zwi_sub hi)
    omega
theorem zrF_lt {s : Nat → Int32} {a : Nat} (ha : a < 64) (h3 : zW3 s) : zrF s a < 64 := by
  refine Nat.lt_of_not_le (fun h => ?_)
  have hall : ∀ j, j < 64 → zsb s a j = false := fun j hj => zfst_min (zsb s a) 64 j (by unfold zrF at h; omega)
  have h1 := zrn_cnt 64 hall
  have h2 := cnt_le (zrn s a 64) 64
  have h0 : cnt (zrn s a 0) 64 = 0 := by omega
  have hz : ∀ n d, d < 64 → zrn s a n d = false := by
    intro n d hd
    cases h : zrn s a n d with
    | false => rfl
    | true =>
      have q := (zrn_rc h3 n d hd h).1
      have := zc_none' h0 a ha
      simp only [zrn, decide_true, Bool.true_and] at this
      rw [q] at this; cases this
  have := hall 0 (by omega)
  unfold zsb at this
  exact (of_decide_eq_false this) (js_congr (fun c hc => by rw [hz _ c hc, hz _ c hc]))
/-- the rink of a cell, told by lowest cells -/
noncomputable def zrq (s : Nat → Int32) (a d : Nat) : Bool := zic s a && decide (zlo s d = zlo s a)
theorem zrF_eq {s : Nat → Int32} {a : Nat} (ha : a < 64) (h3 : zW3 s) : jset (zrn s a (zrF s a)) = jset (zrq s a) := by
  have hst := zfst_p (zsb s a) 64 (zrF_lt ha h3)
  change zsb s a (zrF s a) = true at hst
  unfold zsb at hst
  have heq := js_inj (of_decide_eq_true hst)
  have hmono : ∀ n, zic s a = true → zrn s a n a = true := by
    intro n hi
    induction n with
    | zero => simp [zrn, hi]
    | succ n ih => exact zwi_sub ih
  refine js_congr (fun d hd => ?_)
  unfold zrq
  cases h : zrn s a (zrF s a) d with
  | true =>
    obtain ⟨q1, q2⟩ := zrn_rc h3 _ d hd h
    rw [q1, zlo_eq q1 q2]; simp
  | false =>
    cases hi : zic s a with
    | false => rfl
    | true =>
      refine (Bool.and_eq_false_iff.mpr (Or.inr (decide_eq_false (fun hz => ?_)))).symm
      have hlt := zlo_lt hi
      have hdi := zlo_ice' (s := s) (c := d) (by omega)
      have hrc := (zlo_iff hi hdi).mp hz.symm
      have : d < 64 → zrn s a (zrF s a) d = true := by
        refine hrc (fun y => y < 64 → zrn s a (zrF s a) y = true) (fun _ => hmono _ hi) (fun x y hxy hx hy => ?_)
        have hx64 := zic_lt (zad_ice hxy).1
        rw [← heq y hy]
        exact zwi_ad (hx hx64) hxy
      rw [this hd] at h; cases h
section Z8E
variable {C : ZC} {M : ZM} {e : ZE} {σ : xS} {i : Nat} {s : Nat → Int32}
theorem c_rinkOf {a : Nat} (hi : i < 9) (hR : zR (C.1 i) s) (h3 : zW3 s) (ha : a < 64) : xC1 mX2_rinkOf [.ref (zbp i), .long (jset (fun d => decide (d = a)))] (zH C M e) = some (.inl (some (.long (jset (zrq s a)))), zH C M e) := by
  have hN : jset (fun c => (zic s c && (decide (8 ≤ c) && zic s (c - 8))) && !zcN s c) = jset (zoN s) := rfl
  have hW : jset (fun c => (zic s c && (decide (¬ c % 8 = 0) && zic s (c - 1))) && !zcW s c) = jset (zoW s) := rfl
  have h0 : jset (fun c => decide (c = a) && zic s c) = jset (zrn s a 0) := rfl
  rw [← zrF_eq ha h3]
  have hlt := zrF_lt ha h3
  have hmin := fun j (hj : j < zrF s a) => zfst_min (zsb s a) 64 j hj
  have hst := zfst_p (zsb s a) 64 hlt
  change zsb s a (zrF s a) = true at hst
  unfold zsb at hst hmin
  have hst := of_decide_eq_true hst
  have hstep : ∀ k, jset (fun d => (((zrn s a k d || (decide (8 + d < 64) && (zrn s a k (8 + d) && zoN s (8 + d)))) || ((decide (8 ≤ d) && zrn s a k (d - 8)) && zoN s d)) || (decide (¬ d % 8 = 7) && (zrn s a k (d + 1) && zoW s (d + 1)))) || ((decide (¬ d % 8 = 0) && zrn s a k (d - 1)) && zoW s d)) = jset (zrn s a (k + 1)) := fun k => rfl
  simp (disch := omega) only [e_X2_rinkOf, r_X2_rinkOf_0, r_X2_rinkOf_1, r_X2_rinkOf_4, r_X2_rinkOf_5, r_X2_rinkOf_8, r_X2_rinkOf_11, r_X2_rinkOf_12, r_X2_rinkOf_13, r_X2_rinkOf_16, r_X2_rinkOf_19, r_X2_rinkOf_20, r_X2_rinkOf_21, r_X2_rinkOf_22, r_X2_rinkOf_23, r_X2_rinkOf_26, r_X2_rinkOf_27, r_X2_rinkOf_30, r_X2_rinkOf_33, r_X2_rinkOf_34, r_X2_rinkOf_35, r_X2_rinkOf_38, r_X2_rinkOf_41, r_X2_rinkOf_42, r_X2_rinkOf_43, r_X2_rinkOf_45, r_X2_rinkOf_46, r_X2_rinkOf_47, r_X2_rinkOf_50, r_X2_rinkOf_51, r_X2_rinkOf_53, r_X2_rinkOf_54, ↓glI0, ↓glL0, ↓glF0, ↓glD0, ↓glA0, ↓glI1, ↓glL1, ↓glF1, ↓glD1, ↓glA1, ↓glI2, ↓glL2, ↓glF2, ↓glD2, ↓glA2, ↓glI3, ↓glL3, ↓glF3, ↓glD3, ↓glA3, ↓glI4, ↓glL4, ↓glF4, ↓glD4, ↓glA4, ↓glI5, ↓glL5, ↓glF5, ↓glD5, ↓glA5, ↓glI6, ↓glL6, ↓glF6, ↓glD6, ↓glA6, ↓glI7, ↓glL7, ↓glF7, ↓glD7, ↓glA7, ↓glI8, ↓glL8, ↓glF8, ↓glD8, ↓glA8, ↓glI9, ↓glL9, ↓glF9, ↓glD9, ↓glA9, ↓glI10, ↓glL10, ↓glF10, ↓glD10, ↓glA10, ↓glI11, ↓glL11, ↓glF11, ↓glD11, ↓glA11, ↓glI12, ↓glL12, ↓glF12, ↓glD12, ↓glA12, ↓glI13, ↓glL13, ↓glF13, ↓glD13, ↓glA13, ↓glI14, ↓glL14, ↓glF14, ↓glD14, ↓glA14, ↓glI15, ↓glL15, ↓glF15, ↓glD15, ↓glA15, ↓glI16, ↓glL16, ↓glF16, ↓glD16, ↓glA16, ↓glI17, ↓glL17, ↓glF17, ↓glD17, ↓glA17, ↓glI18, ↓glL18, ↓glF18, ↓glD18, ↓glA18, ↓glI19, ↓glL19, ↓glF19, ↓glD19, ↓glA19, ↓glI20, ↓glL20, ↓glF20, ↓glD20, ↓glA20, ↓glI21, ↓glL21, ↓glF21, ↓glD21, ↓glA21, ↓glI22, ↓glL22, ↓glF22, ↓glD22, ↓glA22, ↓glI23, ↓glL23, ↓glF23, ↓glD23, ↓glA23, ↓glI24, ↓glL24, ↓glF24, ↓glD24, ↓glA24, ↓bs0, ↓bs1, ↓bs2, ↓bs3, ↓bs4, ↓bs5, ↓bs6, ↓bs7, ↓bs8, ↓bs9, ↓bs10, ↓bs11, ↓bs12, ↓bs13, ↓bs14, ↓bs15, ↓bs16, ↓bs17, ↓bs18, ↓bs19, ↓bs20, ↓bs21, ↓bs22, ↓bs23, ↓bs24, ↓bw0, ↓bw1, ↓bw2, ↓bw3, ↓bw4, ↓bw5, ↓bw6, ↓bw7, ↓bw8, ↓bw9, ↓bw10, ↓bw11, ↓bw13, ↓bw14, ↓bw15, ↓bw16, ↓bw17, ↓bw18, ↓bw19, ↓bw20, ↓bw21, ↓bw22, ↓bw23, ↓bw24, lk0, lkI, lkA, lkL, lkD, lkF, gI1, gL1, gF1, gD1, gA1, xw0, xwI, xwA, xwL, xwD, xwF, vtS, vtN, Option.bind_some, true_or, or_true, ↓reduceIte, if_true, if_false, yC_s, yV_s, Nat.reduceAdd, Nat.reduceLeDiff, Nat.zero_le, not_true_eq_false, not_false_eq_true, eq_self, true_and, and_true, nI_add, pk_mul, nI_clamp, pk_sub, pk_div, zmod, zn_m1, zn_leT, zn_leF, zn_ltT, zn_ltF, zn_eqF, zn_in, zn_0le, zn_nlt0, zn_pos, zn_npos, zn_le0F, zn_le0T, zn_0F, zn_0T, nI_0i, zq_lt0, zq_le0, zq_0le, zq_11, bI_eq0c, bI_01c, zm_lt0, zm_0le, zm_ne, zm_ne2, zm_le0, bI_eq0, bI_ne0, zfit_b, zfit_0, zfit_1, z01_0, z01_1, Bool.false_eq_true, Bool.true_eq_false, Nat.zero_add, ztr_lt, Nat.add_zero, Nat.reduceMul, zms_s, zms_n, zms_zms, zso_1_0, zso_2_0, zso_2_1, zso_3_0, zso_3_1, zso_3_2, zso_4_0, zso_4_1, zso_4_2, zso_4_3, zso_5_0, zso_5_1, zso_5_2, zso_5_3, zso_5_4, zso_6_0, zso_6_1, zso_6_2, zso_6_3, zso_6_4, zso_6_5, zso_7_0, zso_7_1, zso_7_2, zso_7_3, zso_7_4, zso_7_5, zso_7_6, zso_8_0, zso_8_1, zso_8_2, zso_8_3, zso_8_4, zso_8_5, zso_8_6, zso_8_7, zcp_s, zcp_n, zcp_zcp, zcp_2, upd_s, upd_n, updL_s, updL_n, zsS_1, zsS_2, zsS_3, zsS_4, zsL_1, zsL_2, zsL_3, zsL_4, bI_01b, yw_X0_placeBehind_1_0, yw_X0_placeBehind_1_1, yw_X0_placeBehind_1_2, yw_X0_placeBehind_1_3, yw_X0_placeBehind_1_4, yw_X1_leading_1_0, yw_X1_leading_1_1, yw_X1_leading_1_2, yw_X1_leading_1_3, yw_X1_leading_1_4, yw_X6_thawingCells_59_0, yw_X6_thawingCells_59_1, yw_X6_thawingCells_59_2, yw_X6_thawingCells_59_3, yw_X6_thawingCells_59_4, yw_X6_stateNumber_1_0, yw_X6_stateNumber_1_1, yw_X6_stateNumber_1_2, yw_X6_stateNumber_1_3, yw_X6_stateNumber_1_4, yw_X6_stateNumber_1_5, yw_X6_stateNumber_1_6, yw_X6_stateNumber_1_7, yw_X6_stateNumber_1_8, yw_X6_stateNumber_1_9, yw_X6_stateNumber_1_10, yw_X6_stateNumber_1_11, yw_X6_cellNumber_1_0, yw_X6_cellNumber_1_1, yw_X6_cellNumber_1_2, yw_X6_cellNumber_1_3, yw_X6_cellNumber_1_4, yw_X6_cellNumber_1_5, yw_X6_skaterNumber_11_0, yw_X6_skaterNumber_11_1, yw_X6_skaterNumber_11_2, yw_X6_skaterNumber_11_3, yw_X6_skaterNumber_11_4, yw_X6_skaterNumber_11_5, yw_X6_skaterNumber_11_6, yw_X6_skaterNumber_11_7, yw_X6_skaterNumber_11_8, yw_X6_ifGlided_77_0, yw_X6_ifGlided_77_1, yw_X6_ifGlided_77_2, yw_X6_ifGlided_77_3, zk_p, zk_s, zk_0, zk_22, zk_66, zk_68, zskr_k, zpor_k, zu_W, zu_Wc, zu_T, zu_Tc, zu_67, zu_69, ↓zb_q_W, ↓zb_q_T, ↓zb_q_K, ↓zb_q_23, ↓zb_q_67, ↓zb_q_69, ↓zb_f_p0, ↓zb_g_p0, ↓zb_f_p1, ↓zb_g_p1, ↓zb_f_p2, ↓zb_g_p2, ↓zb_f_p3, ↓zb_f_p4, ↓zb_f_p5, ↓zb_f_p6, ↓zb_g_p6, ↓zb_f_p7, ↓zb_g_p7, ↓zb_f_p8, ↓zb_g_p8, ↓zb_f_p9, ↓zb_g_p9, ↓zb_f_s0, ↓zb_g_s0, ↓zb_f_s1, ↓zb_g_s1, ↓zb_f_s2, ↓zb_g_s2, ↓zb_f_s3, ↓zb_g_s3, ↓zb_f_s4, ↓zb_g_s4, ↓zb_f_s5, ↓zb_g_s5, ↓zb_f_s6, ↓zb_g_s6, ↓zb_f_c0, ↓zb_f_c1, ↓zb_f_c2, ↓zb_f_c3, ↓zb_f_c4, ↓zb_f_c5, ↓zb_f_c6, ↓zb_g_c6, ↓zb_f_d0, ↓zb_f_d1, ↓zb_g_d1, ↓zb_f_d2, ↓zb_g_d2, ↓zb_f_t0, ↓zb_f_t1, ↓zb_g_t1, ↓zb_f_j0, hR.1, hR.2.2.1, hR.2.2.2.1, q_southOf, q_eastOf, js_S, js_E, js_not, js_and, hN, hW, h0]
  refine zloopV (zrF s a) (fun k v => xR mX2_rinkOf 56 [some (.ref (zbp i)), some (.long (jset (fun d => decide (d = a)))), none, some (.long (jset (zoN s))), none, some (.long (jset (zoW s))), none, some (.long (jset (zrn s a k))), none, some (.int (nI k)), v, none] [] (zH C M e)) (fun k v r hk hr => ?_) _ (fun v => ?_) none
  · have hne := of_decide_eq_false (hmin k hk)
    simp (disch := omega) only [r_X2_rinkOf_56, r_X2_rinkOf_58, r_X2_rinkOf_60, r_X2_rinkOf_63, r_X2_rinkOf_65, r_X2_rinkOf_67, r_X2_rinkOf_68, r_X2_rinkOf_69, r_X2_rinkOf_72, r_X2_rinkOf_73, r_X2_rinkOf_75, r_X2_rinkOf_78, r_X2_rinkOf_79, r_X2_rinkOf_80, r_X2_rinkOf_81, r_X2_rinkOf_83, r_X2_rinkOf_85, r_X2_rinkOf_86, r_X2_rinkOf_89, r_X2_rinkOf_90, r_X2_rinkOf_92, r_X2_rinkOf_95, r_X2_rinkOf_97, r_X2_rinkOf_98, r_X2_rinkOf_99, r_X2_rinkOf_101, r_X2_rinkOf_103, r_X2_rinkOf_105, r_X2_rinkOf_106, r_X2_rinkOf_109, r_X2_rinkOf_111, r_X2_rinkOf_112, r_X2_rinkOf_114, r_X2_rinkOf_116, ↓glI0, ↓glL0, ↓glF0, ↓glD0, ↓glA0, ↓glI1, ↓glL1, ↓glF1, ↓glD1, ↓glA1, ↓glI2, ↓glL2, ↓glF2, ↓glD2, ↓glA2, ↓glI3, ↓glL3, ↓glF3, ↓glD3, ↓glA3, ↓glI4, ↓glL4, ↓glF4, ↓glD4, ↓glA4, ↓glI5, ↓glL5, ↓glF5, ↓glD5, ↓glA5, ↓glI6, ↓glL6, ↓glF6, ↓glD6, ↓glA6, ↓glI7, ↓glL7, ↓glF7, ↓glD7, ↓glA7, ↓glI8, ↓glL8, ↓glF8, ↓glD8, ↓glA8, ↓glI9, ↓glL9, ↓glF9, ↓glD9, ↓glA9, ↓glI10, ↓glL10, ↓glF10, ↓glD10, ↓glA10, ↓glI11, ↓glL11, ↓glF11, ↓glD11, ↓glA11, ↓glI12, ↓glL12, ↓glF12, ↓glD12, ↓glA12, ↓glI13, ↓glL13, ↓glF13, ↓glD13, ↓glA13, ↓glI14, ↓glL14, ↓glF14, ↓glD14, ↓glA14, ↓glI15, ↓glL15, ↓glF15, ↓glD15, ↓glA15, ↓glI16, ↓glL16, ↓glF16, ↓glD16, ↓glA16, ↓glI17, ↓glL17, ↓glF17, ↓glD17, ↓glA17, ↓glI18, ↓glL18, ↓glF18, ↓glD18, ↓glA18, ↓glI19, ↓glL19, ↓glF19, ↓glD19, ↓glA19, ↓glI20, ↓glL20, ↓glF20, ↓glD20, ↓glA20, ↓glI21, ↓glL21, ↓glF21, ↓glD21, ↓glA21, ↓glI22, ↓glL22, ↓glF22, ↓glD22, ↓glA22, ↓glI23, ↓glL23, ↓glF23, ↓glD23, ↓glA23, ↓glI24, ↓glL24, ↓glF24, ↓glD24, ↓glA24, ↓bs0, ↓bs1, ↓bs2, ↓bs3, ↓bs4, ↓bs5, ↓bs6, ↓bs7, ↓bs8, ↓bs9, ↓bs10, ↓bs11, ↓bs12, ↓bs13, ↓bs14, ↓bs15, ↓bs16, ↓bs17, ↓bs18, ↓bs19, ↓bs20, ↓bs21, ↓bs22, ↓bs23, ↓bs24, ↓bw0, ↓bw1, ↓bw2, ↓bw3, ↓bw4, ↓bw5, ↓bw6, ↓bw7, ↓bw8, ↓bw9, ↓bw10, ↓bw11, ↓bw13, ↓bw14, ↓bw15, ↓bw16, ↓bw17, ↓bw18, ↓bw19, ↓bw20, ↓bw21, ↓bw22, ↓bw23, ↓bw24, lk0, lkI, lkA, lkL, lkD, lkF, gI1, gL1, gF1, gD1, gA1, xw0, xwI, xwA, xwL, xwD, xwF, vtS, vtN, Option.bind_some, true_or, or_true, ↓reduceIte, if_true, if_false, yC_s, yV_s, Nat.reduceAdd, Nat.reduceLeDiff, Nat.zero_le, not_true_eq_false, not_false_eq_true, eq_self, true_and, and_true, nI_add, pk_mul, nI_clamp, pk_sub, pk_div, zmod, zn_m1, zn_leT, zn_leF, zn_ltT, zn_ltF, zn_eqF, zn_in, zn_0le, zn_nlt0, zn_pos, zn_npos, zn_le0F, zn_le0T, zn_0F, zn_0T, nI_0i, zq_lt0, zq_le0, zq_0le, zq_11, bI_eq0c, bI_01c, zm_lt0, zm_0le, zm_ne, zm_ne2, zm_le0, bI_eq0, bI_ne0, zfit_b, zfit_0, zfit_1, z01_0, z01_1, Bool.false_eq_true, Bool.true_eq_false, Nat.zero_add, ztr_lt, Nat.add_zero, Nat.reduceMul, zms_s, zms_n, zms_zms, zso_1_0, zso_2_0, zso_2_1, zso_3_0, zso_3_1, zso_3_2, zso_4_0, zso_4_1, zso_4_2, zso_4_3, zso_5_0, zso_5_1, zso_5_2, zso_5_3, zso_5_4, zso_6_0, zso_6_1, zso_6_2, zso_6_3, zso_6_4, zso_6_5, zso_7_0, zso_7_1, zso_7_2, zso_7_3, zso_7_4, zso_7_5, zso_7_6, zso_8_0, zso_8_1, zso_8_2, zso_8_3, zso_8_4, zso_8_5, zso_8_6, zso_8_7, zcp_s, zcp_n, zcp_zcp, zcp_2, upd_s, upd_n, updL_s, updL_n, zsS_1, zsS_2, zsS_3, zsS_4, zsL_1, zsL_2, zsL_3, zsL_4, bI_01b, yw_X0_placeBehind_1_0, yw_X0_placeBehind_1_1, yw_X0_placeBehind_1_2, yw_X0_placeBehind_1_3, yw_X0_placeBehind_1_4, yw_X1_leading_1_0, yw_X1_leading_1_1, yw_X1_leading_1_2, yw_X1_leading_1_3, yw_X1_leading_1_4, yw_X6_thawingCells_59_0, yw_X6_thawingCells_59_1, yw_X6_thawingCells_59_2, yw_X6_thawingCells_59_3, yw_X6_thawingCells_59_4, yw_X6_stateNumber_1_0, yw_X6_stateNumber_1_1, yw_X6_stateNumber_1_2, yw_X6_stateNumber_1_3, yw_X6_stateNumber_1_4, yw_X6_stateNumber_1_5, yw_X6_stateNumber_1_6, yw_X6_stateNumber_1_7, yw_X6_stateNumber_1_8, yw_X6_stateNumber_1_9, yw_X6_stateNumber_1_10, yw_X6_stateNumber_1_11, yw_X6_cellNumber_1_0, yw_X6_cellNumber_1_1, yw_X6_cellNumber_1_2, yw_X6_cellNumber_1_3, yw_X6_cellNumber_1_4, yw_X6_cellNumber_1_5, yw_X6_skaterNumber_11_0, yw_X6_skaterNumber_11_1, yw_X6_skaterNumber_11_2, yw_X6_skaterNumber_11_3, yw_X6_skaterNumber_11_4, yw_X6_skaterNumber_11_5, yw_X6_skaterNumber_11_6, yw_X6_skaterNumber_11_7, yw_X6_skaterNumber_11_8, yw_X6_ifGlided_77_0, yw_X6_ifGlided_77_1, yw_X6_ifGlided_77_2, yw_X6_ifGlided_77_3, zk_p, zk_s, zk_0, zk_22, zk_66, zk_68, zskr_k, zpor_k, zu_W, zu_Wc, zu_T, zu_Tc, zu_67, zu_69, ↓zb_q_W, ↓zb_q_T, ↓zb_q_K, ↓zb_q_23, ↓zb_q_67, ↓zb_q_69, ↓zb_f_p0, ↓zb_g_p0, ↓zb_f_p1, ↓zb_g_p1, ↓zb_f_p2, ↓zb_g_p2, ↓zb_f_p3, ↓zb_f_p4, ↓zb_f_p5, ↓zb_f_p6, ↓zb_g_p6, ↓zb_f_p7, ↓zb_g_p7, ↓zb_f_p8, ↓zb_g_p8, ↓zb_f_p9, ↓zb_g_p9, ↓zb_f_s0, ↓zb_g_s0, ↓zb_f_s1, ↓zb_g_s1, ↓zb_f_s2, ↓zb_g_s2, ↓zb_f_s3, ↓zb_g_s3, ↓zb_f_s4, ↓zb_g_s4, ↓zb_f_s5, ↓zb_g_s5, ↓zb_f_s6, ↓zb_g_s6, ↓zb_f_c0, ↓zb_f_c1, ↓zb_f_c2, ↓zb_f_c3, ↓zb_f_c4, ↓zb_f_c5, ↓zb_f_c6, ↓zb_g_c6, ↓zb_f_d0, ↓zb_f_d1, ↓zb_g_d1, ↓zb_f_d2, ↓zb_g_d2, ↓zb_f_t0, ↓zb_f_t1, ↓zb_g_t1, ↓zb_f_j0, q_northOf, q_southOf, q_eastOf, q_westOf, js_S, js_E, js_N, js_W, js_and, js_or, hstep, lgc, hne]
    exact (r_X2_rinkOf_119).trans (hr _)
  · generalize zrF s a = z at *
    simp (disch := omega) only [r_X2_rinkOf_56, r_X2_rinkOf_58, r_X2_rinkOf_60, r_X2_rinkOf_63, r_X2_rinkOf_65, r_X2_rinkOf_67, r_X2_rinkOf_68, r_X2_rinkOf_69, r_X2_rinkOf_72, r_X2_rinkOf_73, r_X2_rinkOf_75, r_X2_rinkOf_78, r_X2_rinkOf_79, r_X2_rinkOf_80, r_X2_rinkOf_81, r_X2_rinkOf_83, r_X2_rinkOf_85, r_X2_rinkOf_86, r_X2_rinkOf_89, r_X2_rinkOf_90, r_X2_rinkOf_92, r_X2_rinkOf_95, r_X2_rinkOf_97, r_X2_rinkOf_98, r_X2_rinkOf_99, r_X2_rinkOf_101, r_X2_rinkOf_103, r_X2_rinkOf_105, r_X2_rinkOf_106, r_X2_rinkOf_109, r_X2_rinkOf_111, ↓glI0, ↓glL0, ↓glF0, ↓glD0, ↓glA0, ↓glI1, ↓glL1, ↓glF1, ↓glD1, ↓glA1, ↓glI2, ↓glL2, ↓glF2, ↓glD2, ↓glA2, ↓glI3, ↓glL3, ↓glF3, ↓glD3, ↓glA3, ↓glI4, ↓glL4, ↓glF4, ↓glD4, ↓glA4, ↓glI5, ↓glL5, ↓glF5, ↓glD5, ↓glA5, ↓glI6, ↓glL6, ↓glF6, ↓glD6, ↓glA6, ↓glI7, ↓glL7, ↓glF7, ↓glD7, ↓glA7, ↓glI8, ↓glL8, ↓glF8, ↓glD8, ↓glA8, ↓glI9, ↓glL9, ↓glF9, ↓glD9, ↓glA9, ↓glI10, ↓glL10, ↓glF10, ↓glD10, ↓glA10, ↓glI11, ↓glL11, ↓glF11, ↓glD11, ↓glA11, ↓glI12, ↓glL12, ↓glF12, ↓glD12, ↓glA12, ↓glI13, ↓glL13, ↓glF13, ↓glD13, ↓glA13, ↓glI14, ↓glL14, ↓glF14, ↓glD14, ↓glA14, ↓glI15, ↓glL15, ↓glF15, ↓glD15, ↓glA15, ↓glI16, ↓glL16, ↓glF16, ↓glD16, ↓glA16, ↓glI17, ↓glL17, ↓glF17, ↓glD17, ↓glA17, ↓glI18, ↓glL18, ↓glF18, ↓glD18, ↓glA18, ↓glI19, ↓glL19, ↓glF19, ↓glD19, ↓glA19, ↓glI20, ↓glL20, ↓glF20, ↓glD20, ↓glA20, ↓glI21, ↓glL21, ↓glF21, ↓glD21, ↓glA21, ↓glI22, ↓glL22, ↓glF22, ↓glD22, ↓glA22, ↓glI23, ↓glL23, ↓glF23, ↓glD23, ↓glA23, ↓glI24, ↓glL24, ↓glF24, ↓glD24, ↓glA24, ↓bs0, ↓bs1, ↓bs2, ↓bs3, ↓bs4, ↓bs5, ↓bs6, ↓bs7, ↓bs8, ↓bs9, ↓bs10, ↓bs11, ↓bs12, ↓bs13, ↓bs14, ↓bs15, ↓bs16, ↓bs17, ↓bs18, ↓bs19, ↓bs20, ↓bs21, ↓bs22, ↓bs23, ↓bs24, ↓bw0, ↓bw1, ↓bw2, ↓bw3, ↓bw4, ↓bw5, ↓bw6, ↓bw7, ↓bw8, ↓bw9, ↓bw10, ↓bw11, ↓bw13, ↓bw14, ↓bw15, ↓bw16, ↓bw17, ↓bw18, ↓bw19, ↓bw20, ↓bw21, ↓bw22, ↓bw23, ↓bw24, lk0, lkI, lkA, lkL, lkD, lkF, gI1, gL1, gF1, gD1, gA1, xw0, xwI, xwA, xwL, xwD, xwF, vtS, vtN, Option.bind_some, true_or, or_true, ↓reduceIte, if_true, if_false, yC_s, yV_s, Nat.reduceAdd, Nat.reduceLeDiff, Nat.zero_le, not_true_eq_false, not_false_eq_true, eq_self, true_and, and_true, nI_add, pk_mul, nI_clamp, pk_sub, pk_div, zmod, zn_m1, zn_leT, zn_leF, zn_ltT, zn_ltF, zn_eqF, zn_in, zn_0le, zn_nlt0, zn_pos, zn_npos, zn_le0F, zn_le0T, zn_0F, zn_0T, nI_0i, zq_lt0, zq_le0, zq_0le, zq_11, bI_eq0c, bI_01c, zm_lt0, zm_0le, zm_ne, zm_ne2, zm_le0, bI_eq0, bI_ne0, zfit_b, zfit_0, zfit_1, z01_0, z01_1, Bool.false_eq_true, Bool.true_eq_false, Nat.zero_add, ztr_lt, Nat.add_zero, Nat.reduceMul, zms_s, zms_n, zms_zms, zso_1_0, zso_2_0, zso_2_1, zso_3_0, zso_3_1, zso_3_2, zso_4_0, zso_4_1, zso_4_2, zso_4_3, zso_5_0, zso_5_1, zso_5_2, zso_5_3, zso_5_4, zso_6_0, zso_6_1, zso_6_2, zso_6_3, zso_6_4, zso_6_5, zso_7_0, zso_7_1, zso_7_2, zso_7_3, zso_7_4, zso_7_5, zso_7_6, zso_8_0, zso_8_1, zso_8_2, zso_8_3, zso_8_4, zso_8_5, zso_8_6, zso_8_7, zcp_s, zcp_n, zcp_zcp, zcp_2, upd_s, upd_n, updL_s, updL_n, zsS_1, zsS_2, zsS_3, zsS_4, zsL_1, zsL_2, zsL_3, zsL_4, bI_01b, yw_X0_placeBehind_1_0, yw_X0_placeBehind_1_1, yw_X0_placeBehind_1_2, yw_X0_placeBehind_1_3, yw_X0_placeBehind_1_4, yw_X1_leading_1_0, yw_X1_leading_1_1, yw_X1_leading_1_2, yw_X1_leading_1_3, yw_X1_leading_1_4, yw_X6_thawingCells_59_0, yw_X6_thawingCells_59_1, yw_X6_thawingCells_59_2, yw_X6_thawingCells_59_3, yw_X6_thawingCells_59_4, yw_X6_stateNumber_1_0, yw_X6_stateNumber_1_1, yw_X6_stateNumber_1_2, yw_X6_stateNumber_1_3, yw_X6_stateNumber_1_4, yw_X6_stateNumber_1_5, yw_X6_stateNumber_1_6, yw_X6_stateNumber_1_7, yw_X6_stateNumber_1_8, yw_X6_stateNumber_1_9, yw_X6_stateNumber_1_10, yw_X6_stateNumber_1_11, yw_X6_cellNumber_1_0, yw_X6_cellNumber_1_1, yw_X6_cellNumber_1_2, yw_X6_cellNumber_1_3, yw_X6_cellNumber_1_4, yw_X6_cellNumber_1_5, yw_X6_skaterNumber_11_0, yw_X6_skaterNumber_11_1, yw_X6_skaterNumber_11_2, yw_X6_skaterNumber_11_3, yw_X6_skaterNumber_11_4, yw_X6_skaterNumber_11_5, yw_X6_skaterNumber_11_6, yw_X6_skaterNumber_11_7, yw_X6_skaterNumber_11_8, yw_X6_ifGlided_77_0, yw_X6_ifGlided_77_1, yw_X6_ifGlided_77_2, yw_X6_ifGlided_77_3, zk_p, zk_s, zk_0, zk_22, zk_66, zk_68, zskr_k, zpor_k, zu_W, zu_Wc, zu_T, zu_Tc, zu_67, zu_69, ↓zb_q_W, ↓zb_q_T, ↓zb_q_K, ↓zb_q_23, ↓zb_q_67, ↓zb_q_69, ↓zb_f_p0, ↓zb_g_p0, ↓zb_f_p1, ↓zb_g_p1, ↓zb_f_p2, ↓zb_g_p2, ↓zb_f_p3, ↓zb_f_p4, ↓zb_f_p5, ↓zb_f_p6, ↓zb_g_p6, ↓zb_f_p7, ↓zb_g_p7, ↓zb_f_p8, ↓zb_g_p8, ↓zb_f_p9, ↓zb_g_p9, ↓zb_f_s0, ↓zb_g_s0, ↓zb_f_s1, ↓zb_g_s1, ↓zb_f_s2, ↓zb_g_s2, ↓zb_f_s3, ↓zb_g_s3, ↓zb_f_s4, ↓zb_g_s4, ↓zb_f_s5, ↓zb_g_s5, ↓zb_f_s6, ↓zb_g_s6, ↓zb_f_c0, ↓zb_f_c1, ↓zb_f_c2, ↓zb_f_c3, ↓zb_f_c4, ↓zb_f_c5, ↓zb_f_c6, ↓zb_g_c6, ↓zb_f_d0, ↓zb_f_d1, ↓zb_g_d1, ↓zb_f_d2, ↓zb_g_d2, ↓zb_f_t0, ↓zb_f_t1, ↓zb_g_t1, ↓zb_f_j0, q_northOf, q_southOf, q_eastOf, q_westOf, js_S, js_E, js_N, js_W, js_and, js_or, hstep, lgc, hst]
end Z8E
