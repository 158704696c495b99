/-! ===== the best glide at the start; the script's numbers ===== -/
/-- nobody owns anything -/
def zNo (s : Nat → Int32) : Prop := ∀ c, c < 64 → s (64 + c) = -1
theorem zml_no {s : Nat → Int32} {b : Nat} (h : zNo s) : zNo (zml s b) := by
  intro c hc
  cases hi : zic s b with
  | false => rw [zml_w hi]; exact h c hc
  | true =>
    have hb := zic_lt hi
    unfold zml
    rw [if_pos hi, upd_n _ _ (by omega)]
    by_cases hcb : c = b
    · subst hcb; rw [upd_s]
    · rw [upd_n _ _ (by omega), upd_n _ _ (by omega)]; exact h c hc
theorem zoc_no {s : Nat → Int32} {k : Nat} (hk : k < 3) (h : zNo s) : zoc s k = 0 := zc_none (fun c hc => decide_eq_false (fun q => by
  rw [h c hc] at q
  have := zm_ne (a := k) (by omega)
  exact this.mp q.symm))
theorem zst_no {s : Nat → Int32} {k d : Nat} (hl : zlf (zpx s k) (zpy s k) d < 144) (ho : zop s (zlf (zpx s k) (zpy s k) d) = false) (h : zNo s) : zNo (zst s k d) := by
  have e2 : ∀ j, j < 272 → zs2 (zs1 s k (zlf (zpx s k) (zpy s k) d)) (zlf (zpx s k) (zpy s k) d) j = s j := fun j hj => by
    unfold zs2
    rw [upd_n _ _ (by omega)]
    exact zs1_lo (by omega)
  have ho2 : zop (zs2 (zs1 s k (zlf (zpx s k) (zpy s k) d)) (zlf (zpx s k) (zpy s k) d)) (zlf (zpx s k) (zpy s k) d) = false := by
    rw [zop_congr (s := s) (fun c hc => e2 c (by omega)) (e2 _ (by omega))]; exact ho
  have hn2 : zNo (zs2 (zs1 s k (zlf (zpx s k) (zpy s k) d)) (zlf (zpx s k) (zpy s k) d)) := fun c hc => by rw [e2 _ (by omega)]; exact h c hc
  intro c hc
  unfold zst zs4
  rw [upd_n _ _ (by omega), upd_n _ _ (by omega), upd_n _ _ (by omega)]
  unfold zs3
  split
  · rw [if_neg (by rw [ho2]; decide)]
    exact hn2 c hc
  · rw [upd_n _ _ (by omega)]
    unfold zmm
    exact zml_no (zml_no hn2) c hc
theorem zst_k {s : Nat → Int32} {k d : Nat} (hk : k < 3) (hd : d < 4) (hX : zXY s) (hl : zlf (zpx s k) (zpy s k) d < 144) : zpx (zst s k d) k = zdx (zpx s k) d ∧ zpy (zst s k d) k = zdy (zpy s k) d := by
  obtain ⟨x1, x2, x3, x4⟩ := hX k hk
  obtain ⟨t1, t2, -, -⟩ := zlf_to x3 x4 hd (by omega)
  constructor
  · have e : zst s k d (416 + 6 * k) = nI (zdx (zpx s k) d) := by
      rw [zst_hi hl (by omega) (by omega) (by omega)]
      unfold zs4
      rw [upd_n _ _ (by omega), upd_n _ _ (by omega), upd_s]
    show (zst s k d (416 + 6 * k)).toNatClampNeg = _
    rw [e, nI_clamp (by omega)]
  · have e : zst s k d (416 + 6 * k + 1) = nI (zdy (zpy s k) d) := by
      rw [zst_hi hl (by omega) (by omega) (by omega)]
      unfold zs4
      rw [upd_n _ _ (by omega), upd_s]
    show (zst s k d (416 + 6 * k + 1)).toNatClampNeg = _
    rw [e, nI_clamp (by omega)]
theorem zbi_keep {I : (Nat → Int32) → Prop} {k d : Nat} (hI : ∀ s, I s → zba s k d = 0 → I (zst s k d)) (hz : ∀ s, I s → zoc s k = 0) : ∀ (n j : Nat) (s : Nat → Int32) (a : Int32 × Int32), I s → a.1 ≠ -1 → a.2 = nI 0 - nI 0 → zbi k d (nI 0) n j s a = a
  | 0, _, _, _, _, _, _ => rfl
  | n + 1, j, s, a, hs, h1, h2 => by
    simp only [zbi]
    split
    · next h0 =>
      have hs2 := hI s hs h0
      rw [hz _ hs2, if_neg (fun q => q.elim h1 (fun r => by rw [h2] at r; exact absurd r Int32.lt_irrefl))]
      exact zbi_keep hI hz n (j + 1) _ a hs2 h1 h2
    · rfl
theorem zbest0 : (zbo 0 zs0 4).1 = nI 11 := by
  have n0 : zNo zs0 := by unfold zNo; decide +kernel
  have z0 := zoc_no (k := 0) (by omega) n0
  have hE : ∀ s, (zWF s ∧ zNo s ∧ zpy s 0 = 0) → zba s 0 1 = 0 → (zWF (zst s 0 1) ∧ zNo (zst s 0 1) ∧ zpy (zst s 0 1) 0 = 0) := by
    rintro s ⟨h1, h2, h3⟩ hb
    obtain ⟨hl, -⟩ := zba_0 h1.2.1 (by omega) hb
    have ho : zop s (zlf (zpx s 0) (zpy s 0) 1) = false := by
      have hlt : zlf (zpx s 0) (zpy s 0) 1 < 8 := by
        rw [h3] at hl ⊢
        unfold zlf at hl ⊢
        rw [if_neg (by omega), if_pos rfl] at hl ⊢
        split at hl
        · next q => rw [if_pos q]; omega
        · omega
      unfold zop
      have : zb1 (zlf (zpx s 0) (zpy s 0) 1) = 64 := by
        unfold zb1
        rw [if_pos (by omega), if_neg (by omega)]
      rw [this, zic_64]; rfl
    refine ⟨zst_WF (by omega) (by omega) h1 hb, zst_no hl ho h2, ?_⟩
    rw [(zst_k (by omega) (by omega) h1.2.1 hl).2, h3]
    rfl
  have hS : ∀ s, (zWF s ∧ zNo s ∧ zpx s 0 = 0) → zba s 0 2 = 0 → (zWF (zst s 0 2) ∧ zNo (zst s 0 2) ∧ zpx (zst s 0 2) 0 = 0) := by
    rintro s ⟨h1, h2, h3⟩ hb
    obtain ⟨hl, -⟩ := zba_0 h1.2.1 (by omega) hb
    have ho : zop s (zlf (zpx s 0) (zpy s 0) 2) = false := by
      unfold zop
      have : zb1 (zlf (zpx s 0) (zpy s 0) 2) = 64 := by
        rw [h3] at hl ⊢
        unfold zlf at hl ⊢
        rw [if_neg (by omega), if_neg (by omega), if_pos rfl] at hl ⊢
        split at hl
        · next q =>
          rw [if_pos q]
          unfold zb1
          rw [if_neg (by omega), if_neg (by omega)]
        · omega
      rw [this, zic_64]; rfl
    refine ⟨zst_WF (by omega) (by omega) h1 hb, zst_no hl ho h2, ?_⟩
    rw [(zst_k (by omega) (by omega) h1.2.1 hl).1, h3]
    rfl
  have e0 : zbi 0 0 (nI 0) 8 1 zs0 (-1, nI 0) = (-1, nI 0) := by
    simp only [zbi]
    rw [if_neg (show ¬ zba zs0 0 0 = 0 by decide +kernel)]
  have b1 : zba zs0 0 1 = 0 := by decide +kernel
  have i1 := hE zs0 ⟨zWF0, n0, by decide +kernel⟩ b1
  have e1 : zbi 0 1 (nI 0) 8 1 zs0 (-1, nI 0) = (nI 11, nI 0 - nI 0) := by
    show zbi 0 1 (nI 0) (7 + 1) 1 zs0 (-1, nI 0) = _
    have : zbi 0 1 (nI 0) (7 + 1) 1 zs0 (-1, nI 0) = zbi 0 1 (nI 0) 7 2 (zst zs0 0 1) (nI 11, nI (zoc (zst zs0 0 1) 0) - nI 0) := by
      conv => lhs; unfold zbi
      rw [if_pos b1, if_pos (Or.inl rfl)]
    rw [this, zoc_no (k := 0) (by omega) i1.2.1]
    exact zbi_keep (I := fun s => zWF s ∧ zNo s ∧ zpy s 0 = 0) hE (fun s h => zoc_no (by omega) h.2.1) 7 2 _ _ i1 (by decide) rfl
  have e2 : zbi 0 2 (nI 0) 8 1 zs0 (nI 11, nI 0 - nI 0) = (nI 11, nI 0 - nI 0) :=
    zbi_keep (I := fun s => zWF s ∧ zNo s ∧ zpx s 0 = 0) hS (fun s h => zoc_no (by omega) h.2.1) 8 1 _ _ ⟨zWF0, n0, by decide +kernel⟩ (by decide) rfl
  have e3 : zbi 0 3 (nI 0) 8 1 zs0 (nI 11, nI 0 - nI 0) = (nI 11, nI 0 - nI 0) := by
    simp only [zbi]
    rw [if_neg (show ¬ zba zs0 0 3 = 0 by decide +kernel)]
  show (zbi 0 3 (nI (zoc zs0 0)) 8 1 zs0 (zbi 0 2 (nI (zoc zs0 0)) 8 1 zs0 (zbi 0 1 (nI (zoc zs0 0)) 8 1 zs0 (zbi 0 0 (nI (zoc zs0 0)) 8 1 zs0 (-1, nI 0))))).1 = nI 11
  rw [z0, e0, e1, e2, e3]
theorem zer2_hi (Cq : ZC) (e : ZE) {q : Nat} (h : 140 ≤ q) : (zer2 Cq e).2 q = e.2 q := by
  show (if q < 140 then (zhc Cq zMz e (q - 70)).map rnC else e.2 q) = _
  exact if_neg (by omega)
section Z10I
variable {L : Nat} {xs : Nat → Int32}
/-- cell() -/
theorem l_cell {k : Nat} (hk : k < 2 ^ 20) (hL : L ≤ 260) : ∃ j, j < 2 ^ 31 ∧ ∀ Co Cq e, zEo e L xs → xC1 mL_cell [.ref 1000, .int (nI k)] (zZ Co Cq e) = some (.inl (some (.int (nI j))), zZ Co Cq e) := by
  have hm : (2147483647 : Int32).toBitVec.toNat = 2 ^ 31 - 1 := by decide
  have hq : ∀ Co Cq e, zEo e L xs → hint (zZ Co Cq e) 9 1000 = some (L, xs) ∧ hl9 (zZ Co Cq e) 1000 = some (L, xs) := by
    intro Co Cq e he
    have h1 : (zZ Co Cq e).1 1000 = some (.inl (9, L, .inl xs)) := by
      show zhc Co zMz (zer2 Cq e) 1000 = _
      rw [zhc_hi _ _ _ (by omega)]
      rw [zer2_hi _ _ (by omega), he.2]
      rfl
    have h2 : hint (zZ Co Cq e) 9 1000 = some (L, xs) := by unfold hint; rw [h1]; rfl
    have h3 : hint (zZ Co Cq e) 0 1000 = none := by unfold hint; rw [h1]; rfl
    exact ⟨h2, by unfold hl9; rw [h3]; exact h2⟩
  by_cases hkL : k < L
  · obtain ⟨j, j1, j2⟩ := pk_andE (xs k) 31 hm
    refine ⟨j, j1, fun Co Cq e he => ?_⟩
    obtain ⟨q1, q2⟩ := hq Co Cq e he
    simp (disch := omega) only [e_L_cell, r_L_cell_0, r_L_cell_1, r_L_cell_2, r_L_cell_3, r_L_cell_6, r_L_cell_7, r_L_cell_8, r_L_cell_9, r_L_cell_12, r_L_cell_14, r_L_cell_15, r_L_cell_17, r_L_cell_18, r_L_cell_19, r_L_cell_21, r_L_cell_22, r_L_cell_24, r_L_cell_25, ↓glI0, ↓glL0, ↓glF0, ↓glD0, ↓glA0, ↓glI1, ↓glL1, ↓glF1, ↓glD1, ↓glA1, ↓glI2, ↓glL2, ↓glF2, ↓glD2, ↓glA2, ↓glI3, ↓glL3, ↓glF3, ↓glD3, ↓glA3, ↓glI4, ↓glL4, ↓glF4, ↓glD4, ↓glA4, ↓glI5, ↓glL5, ↓glF5, ↓glD5, ↓glA5, ↓glI6, ↓glL6, ↓glF6, ↓glD6, ↓glA6, ↓glI7, ↓glL7, ↓glF7, ↓glD7, ↓glA7, ↓glI8, ↓glL8, ↓glF8, ↓glD8, ↓glA8, ↓glI9, ↓glL9, ↓glF9, ↓glD9, ↓glA9, ↓glI10, ↓glL10, ↓glF10, ↓glD10, ↓glA10, ↓glI11, ↓glL11, ↓glF11, ↓glD11, ↓glA11, ↓glI12, ↓glL12, ↓glF12, ↓glD12, ↓glA12, ↓glI13, ↓glL13, ↓glF13, ↓glD13, ↓glA13, ↓glI14, ↓glL14, ↓glF14, ↓glD14, ↓glA14, ↓glI15, ↓glL15, ↓glF15, ↓glD15, ↓glA15, ↓glI16, ↓glL16, ↓glF16, ↓glD16, ↓glA16, ↓glI17, ↓glL17, ↓glF17, ↓glD17, ↓glA17, ↓glI18, ↓glL18, ↓glF18, ↓glD18, ↓glA18, ↓glI19, ↓glL19, ↓glF19, ↓glD19, ↓glA19, ↓glI20, ↓glL20, ↓glF20, ↓glD20, ↓glA20, ↓glI21, ↓glL21, ↓glF21, ↓glD21, ↓glA21, ↓glI22, ↓glL22, ↓glF22, ↓glD22, ↓glA22, ↓glI23, ↓glL23, ↓glF23, ↓glD23, ↓glA23, ↓glI24, ↓glL24, ↓glF24, ↓glD24, ↓glA24, ↓bs0, ↓bs1, ↓bs2, ↓bs3, ↓bs4, ↓bs5, ↓bs6, ↓bs7, ↓bs8, ↓bs9, ↓bs10, ↓bs11, ↓bs12, ↓bs13, ↓bs14, ↓bs15, ↓bs16, ↓bs17, ↓bs18, ↓bs19, ↓bs20, ↓bs21, ↓bs22, ↓bs23, ↓bs24, ↓bw0, ↓bw1, ↓bw2, ↓bw3, ↓bw4, ↓bw5, ↓bw6, ↓bw7, ↓bw8, ↓bw9, ↓bw10, ↓bw11, ↓bw13, ↓bw14, ↓bw15, ↓bw16, ↓bw17, ↓bw18, ↓bw19, ↓bw20, ↓bw21, ↓bw22, ↓bw23, ↓bw24, lk0, lkI, lkA, lkL, lkD, lkF, gI1, gL1, gF1, gD1, gA1, xw0, xwI, xwA, xwL, xwD, xwF, vtS, vtN, Option.bind_some, true_or, or_true, ↓reduceIte, if_true, if_false, yC_s, yV_s, Nat.reduceAdd, Nat.reduceLeDiff, Nat.zero_le, not_true_eq_false, not_false_eq_true, eq_self, true_and, and_true, nI_add, pk_mul, nI_clamp, pk_sub, pk_div, zmod, zn_m1, zn_leT, zn_leF, zn_ltT, zn_ltF, zn_eqF, zn_in, zn_0le, zn_nlt0, zn_pos, zn_npos, zn_le0F, zn_le0T, zn_0F, zn_0T, nI_0i, zq_lt0, zq_le0, zq_0le, zq_11, bI_eq0c, bI_01c, zm_lt0, zm_0le, zm_ne, zm_ne2, zm_le0, bI_eq0, bI_ne0, zfit_b, zfit_0, zfit_1, z01_0, z01_1, Bool.false_eq_true, Bool.true_eq_false, Nat.zero_add, ztr_lt, Nat.add_zero, Nat.reduceMul, zms_s, zms_n, zms_zms, zso_1_0, zso_2_0, zso_2_1, zso_3_0, zso_3_1, zso_3_2, zso_4_0, zso_4_1, zso_4_2, zso_4_3, zso_5_0, zso_5_1, zso_5_2, zso_5_3, zso_5_4, zso_6_0, zso_6_1, zso_6_2, zso_6_3, zso_6_4, zso_6_5, zso_7_0, zso_7_1, zso_7_2, zso_7_3, zso_7_4, zso_7_5, zso_7_6, zso_8_0, zso_8_1, zso_8_2, zso_8_3, zso_8_4, zso_8_5, zso_8_6, zso_8_7, zcp_s, zcp_n, zcp_zcp, zcp_2, upd_s, upd_n, updL_s, updL_n, zsS_1, zsS_2, zsS_3, zsS_4, zsL_1, zsL_2, zsL_3, zsL_4, bI_01b, yw_X0_placeBehind_1_0, yw_X0_placeBehind_1_1, yw_X0_placeBehind_1_2, yw_X0_placeBehind_1_3, yw_X0_placeBehind_1_4, yw_X1_leading_1_0, yw_X1_leading_1_1, yw_X1_leading_1_2, yw_X1_leading_1_3, yw_X1_leading_1_4, yw_X6_thawingCells_59_0, yw_X6_thawingCells_59_1, yw_X6_thawingCells_59_2, yw_X6_thawingCells_59_3, yw_X6_thawingCells_59_4, yw_X6_stateNumber_1_0, yw_X6_stateNumber_1_1, yw_X6_stateNumber_1_2, yw_X6_stateNumber_1_3, yw_X6_stateNumber_1_4, yw_X6_stateNumber_1_5, yw_X6_stateNumber_1_6, yw_X6_stateNumber_1_7, yw_X6_stateNumber_1_8, yw_X6_stateNumber_1_9, yw_X6_stateNumber_1_10, yw_X6_stateNumber_1_11, yw_X6_cellNumber_1_0, yw_X6_cellNumber_1_1, yw_X6_cellNumber_1_2, yw_X6_cellNumber_1_3, yw_X6_cellNumber_1_4, yw_X6_cellNumber_1_5, yw_X6_skaterNumber_11_0, yw_X6_skaterNumber_11_1, yw_X6_skaterNumber_11_2, yw_X6_skaterNumber_11_3, yw_X6_skaterNumber_11_4, yw_X6_skaterNumber_11_5, yw_X6_skaterNumber_11_6, yw_X6_skaterNumber_11_7, yw_X6_skaterNumber_11_8, yw_X6_ifGlided_77_0, yw_X6_ifGlided_77_1, yw_X6_ifGlided_77_2, yw_X6_ifGlided_77_3, zk_p, zk_s, zk_0, zk_22, zk_66, zk_68, zskr_k, zpor_k, zu_W, zu_Wc, zu_T, zu_Tc, zu_67, zu_69, ↓zb_q_W, ↓zb_q_T, ↓zb_q_K, ↓zb_q_23, ↓zb_q_67, ↓zb_q_69, ↓zb_f_p0, ↓zb_g_p0, ↓zb_f_p1, ↓zb_g_p1, ↓zb_f_p2, ↓zb_g_p2, ↓zb_f_p3, ↓zb_f_p4, ↓zb_f_p5, ↓zb_f_p6, ↓zb_g_p6, ↓zb_f_p7, ↓zb_g_p7, ↓zb_f_p8, ↓zb_g_p8, ↓zb_f_p9, ↓zb_g_p9, ↓zb_f_s0, ↓zb_g_s0, ↓zb_f_s1, ↓zb_g_s1, ↓zb_f_s2, ↓zb_g_s2, ↓zb_f_s3, ↓zb_g_s3, ↓zb_f_s4, ↓zb_g_s4, ↓zb_f_s5, ↓zb_g_s5, ↓zb_f_s6, ↓zb_g_s6, ↓zb_f_c0, ↓zb_f_c1, ↓zb_f_c2, ↓zb_f_c3, ↓zb_f_c4, ↓zb_f_c5, ↓zb_f_c6, ↓zb_g_c6, ↓zb_f_d0, ↓zb_f_d1, ↓zb_g_d1, ↓zb_f_d2, ↓zb_g_d2, ↓zb_f_t0, ↓zb_f_t1, ↓zb_g_t1, ↓zb_f_j0, q1, q2, j2]
  · obtain ⟨j, j1, j2⟩ := pk_andE (nI (47287 * (k + 17) + 43)) 31 hm
    refine ⟨j, j1, fun Co Cq e he => ?_⟩
    obtain ⟨q1, q2⟩ := hq Co Cq e he
    have h47 : (47287 : Int32) = nI 47287 := by decide
    simp (disch := omega) only [e_L_cell, r_L_cell_0, r_L_cell_1, r_L_cell_2, r_L_cell_3, r_L_cell_6, r_L_cell_7, r_L_cell_8, r_L_cell_9, r_L_cell_12, r_L_cell_14, r_L_cell_15, r_L_cell_17, r_L_cell_18, r_L_cell_19, r_L_cell_21, r_L_cell_22, r_L_cell_24, r_L_cell_25, ↓glI0, ↓glL0, ↓glF0, ↓glD0, ↓glA0, ↓glI1, ↓glL1, ↓glF1, ↓glD1, ↓glA1, ↓glI2, ↓glL2, ↓glF2, ↓glD2, ↓glA2, ↓glI3, ↓glL3, ↓glF3, ↓glD3, ↓glA3, ↓glI4, ↓glL4, ↓glF4, ↓glD4, ↓glA4, ↓glI5, ↓glL5, ↓glF5, ↓glD5, ↓glA5, ↓glI6, ↓glL6, ↓glF6, ↓glD6, ↓glA6, ↓glI7, ↓glL7, ↓glF7, ↓glD7, ↓glA7, ↓glI8, ↓glL8, ↓glF8, ↓glD8, ↓glA8, ↓glI9, ↓glL9, ↓glF9, ↓glD9, ↓glA9, ↓glI10, ↓glL10, ↓glF10, ↓glD10, ↓glA10, ↓glI11, ↓glL11, ↓glF11, ↓glD11, ↓glA11, ↓glI12, ↓glL12, ↓glF12, ↓glD12, ↓glA12, ↓glI13, ↓glL13, ↓glF13, ↓glD13, ↓glA13, ↓glI14, ↓glL14, ↓glF14, ↓glD14, ↓glA14, ↓glI15, ↓glL15, ↓glF15, ↓glD15, ↓glA15, ↓glI16, ↓glL16, ↓glF16, ↓glD16, ↓glA16, ↓glI17, ↓glL17, ↓glF17, ↓glD17, ↓glA17, ↓glI18, ↓glL18, ↓glF18, ↓glD18, ↓glA18, ↓glI19, ↓glL19, ↓glF19, ↓glD19, ↓glA19, ↓glI20, ↓glL20, ↓glF20, ↓glD20, ↓glA20, ↓glI21, ↓glL21, ↓glF21, ↓glD21, ↓glA21, ↓glI22, ↓glL22, ↓glF22, ↓glD22, ↓glA22, ↓glI23, ↓glL23, ↓glF23, ↓glD23, ↓glA23, ↓glI24, ↓glL24, ↓glF24, ↓glD24, ↓glA24, ↓bs0, ↓bs1, ↓bs2, ↓bs3, ↓bs4, ↓bs5, ↓bs6, ↓bs7, ↓bs8, ↓bs9, ↓bs10, ↓bs11, ↓bs12, ↓bs13, ↓bs14, ↓bs15, ↓bs16, ↓bs17, ↓bs18, ↓bs19, ↓bs20, ↓bs21, ↓bs22, ↓bs23, ↓bs24, ↓bw0, ↓bw1, ↓bw2, ↓bw3, ↓bw4, ↓bw5, ↓bw6, ↓bw7, ↓bw8, ↓bw9, ↓bw10, ↓bw11, ↓bw13, ↓bw14, ↓bw15, ↓bw16, ↓bw17, ↓bw18, ↓bw19, ↓bw20, ↓bw21, ↓bw22, ↓bw23, ↓bw24, lk0, lkI, lkA, lkL, lkD, lkF, gI1, gL1, gF1, gD1, gA1, xw0, xwI, xwA, xwL, xwD, xwF, vtS, vtN, Option.bind_some, true_or, or_true, ↓reduceIte, if_true, if_false, yC_s, yV_s, Nat.reduceAdd, Nat.reduceLeDiff, Nat.zero_le, not_true_eq_false, not_false_eq_true, eq_self, true_and, and_true, nI_add, pk_mul, nI_clamp, pk_sub, pk_div, zmod, zn_m1, zn_leT, zn_leF, zn_ltT, zn_ltF, zn_eqF, zn_in, zn_0le, zn_nlt0, zn_pos, zn_npos, zn_le0F, zn_le0T, zn_0F, zn_0T, nI_0i, zq_lt0, zq_le0, zq_0le, zq_11, bI_eq0c, bI_01c, zm_lt0, zm_0le, zm_ne, zm_ne2, zm_le0, bI_eq0, bI_ne0, zfit_b, zfit_0, zfit_1, z01_0, z01_1, Bool.false_eq_true, Bool.true_eq_false, Nat.zero_add, ztr_lt, Nat.add_zero, Nat.reduceMul, zms_s, zms_n, zms_zms, zso_1_0, zso_2_0, zso_2_1, zso_3_0, zso_3_1, zso_3_2, zso_4_0, zso_4_1, zso_4_2, zso_4_3, zso_5_0, zso_5_1, zso_5_2, zso_5_3, zso_5_4, zso_6_0, zso_6_1, zso_6_2, zso_6_3, zso_6_4, zso_6_5, zso_7_0, zso_7_1, zso_7_2, zso_7_3, zso_7_4, zso_7_5, zso_7_6, zso_8_0, zso_8_1, zso_8_2, zso_8_3, zso_8_4, zso_8_5, zso_8_6, zso_8_7, zcp_s, zcp_n, zcp_zcp, zcp_2, upd_s, upd_n, updL_s, updL_n, zsS_1, zsS_2, zsS_3, zsS_4, zsL_1, zsL_2, zsL_3, zsL_4, bI_01b, yw_X0_placeBehind_1_0, yw_X0_placeBehind_1_1, yw_X0_placeBehind_1_2, yw_X0_placeBehind_1_3, yw_X0_placeBehind_1_4, yw_X1_leading_1_0, yw_X1_leading_1_1, yw_X1_leading_1_2, yw_X1_leading_1_3, yw_X1_leading_1_4, yw_X6_thawingCells_59_0, yw_X6_thawingCells_59_1, yw_X6_thawingCells_59_2, yw_X6_thawingCells_59_3, yw_X6_thawingCells_59_4, yw_X6_stateNumber_1_0, yw_X6_stateNumber_1_1, yw_X6_stateNumber_1_2, yw_X6_stateNumber_1_3, yw_X6_stateNumber_1_4, yw_X6_stateNumber_1_5, yw_X6_stateNumber_1_6, yw_X6_stateNumber_1_7, yw_X6_stateNumber_1_8, yw_X6_stateNumber_1_9, yw_X6_stateNumber_1_10, yw_X6_stateNumber_1_11, yw_X6_cellNumber_1_0, yw_X6_cellNumber_1_1, yw_X6_cellNumber_1_2, yw_X6_cellNumber_1_3, yw_X6_cellNumber_1_4, yw_X6_cellNumber_1_5, yw_X6_skaterNumber_11_0, yw_X6_skaterNumber_11_1, yw_X6_skaterNumber_11_2, yw_X6_skaterNumber_11_3, yw_X6_skaterNumber_11_4, yw_X6_skaterNumber_11_5, yw_X6_skaterNumber_11_6, yw_X6_skaterNumber_11_7, yw_X6_skaterNumber_11_8, yw_X6_ifGlided_77_0, yw_X6_ifGlided_77_1, yw_X6_ifGlided_77_2, yw_X6_ifGlided_77_3, zk_p, zk_s, zk_0, zk_22, zk_66, zk_68, zskr_k, zpor_k, zu_W, zu_Wc, zu_T, zu_Tc, zu_67, zu_69, ↓zb_q_W, ↓zb_q_T, ↓zb_q_K, ↓zb_q_23, ↓zb_q_67, ↓zb_q_69, ↓zb_f_p0, ↓zb_g_p0, ↓zb_f_p1, ↓zb_g_p1, ↓zb_f_p2, ↓zb_g_p2, ↓zb_f_p3, ↓zb_f_p4, ↓zb_f_p5, ↓zb_f_p6, ↓zb_g_p6, ↓zb_f_p7, ↓zb_g_p7, ↓zb_f_p8, ↓zb_g_p8, ↓zb_f_p9, ↓zb_g_p9, ↓zb_f_s0, ↓zb_g_s0, ↓zb_f_s1, ↓zb_g_s1, ↓zb_f_s2, ↓zb_g_s2, ↓zb_f_s3, ↓zb_g_s3, ↓zb_f_s4, ↓zb_g_s4, ↓zb_f_s5, ↓zb_g_s5, ↓zb_f_s6, ↓zb_g_s6, ↓zb_f_c0, ↓zb_f_c1, ↓zb_f_c2, ↓zb_f_c3, ↓zb_f_c4, ↓zb_f_c5, ↓zb_f_c6, ↓zb_g_c6, ↓zb_f_d0, ↓zb_f_d1, ↓zb_g_d1, ↓zb_f_d2, ↓zb_g_d2, ↓zb_f_t0, ↓zb_f_t1, ↓zb_g_t1, ↓zb_f_j0, q1, q2, h47, j2]
end Z10I
