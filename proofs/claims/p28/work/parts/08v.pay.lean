/-! ===== operations: pay, set ===== -/
theorem zWF_of {s s' : Nat → Int32} (h : ∀ j, j < 416 → s' j = s j) (hx : ∀ k, k < 3 → s' (416 + 6 * k) = s (416 + 6 * k) ∧ s' (416 + 6 * k + 1) = s (416 + 6 * k + 1)) (hs : zWF s) (w6 : zW6 s') (w7 : zW7 s') : zWF s' := by
  obtain ⟨⟨h1, h2, h3, h4, h5⟩, h6, h7, h8⟩ := hs
  have hb1 : ∀ l, l < 144 → zb1 l ≤ 64 ∧ zb2 l ≤ 64 := by decide +kernel
  have hop : ∀ l, l < 144 → zop s' l = zop s l := fun l hl => by
    unfold zop
    rw [zic_congr (fun c hc => h c (by omega)), zic_congr (fun c hc => h c (by omega)), h _ (by omega)]
  refine ⟨⟨fun c hc => ?_, fun c hc => ?_, fun c hc => ?_, fun l hl => ?_, fun l hl ho => ?_⟩, fun k hk => ?_, w6, w7⟩
  · rw [h _ (by omega)]; exact h1 c hc
  · have : zon s' c = zon s c := by unfold zon; rw [h _ (by omega)]
    rw [this, h _ (by omega)]; exact h2 c hc
  · rw [h _ (by omega), h _ (by omega)]; exact h3 c hc
  · rw [h _ (by omega)]; exact h4 l hl
  · rw [hop l hl] at ho
    have := hb1 l hl
    rw [h _ (by omega), h _ (by omega)]; exact h5 l hl ho
  · obtain ⟨x1, x2⟩ := hx k hk
    have hx : zpx s' k = zpx s k := by unfold zpx; rw [x1]
    have hy : zpy s' k = zpy s k := by unfold zpy; rw [x2]
    rw [hx, hy, x1, x2]; exact h6 k hk
theorem zR_purse {P : ZP} {s : Nat → Int32} {k : Nat} (v : Int32) (hk : k < 3) (hR : zR P s) : zR (zsS P (10 * k + 12) v) (upd s (416 + 6 * k + 2) v) := by
  have hsets := zR_sets (P := P) (P' := zsS P (10 * k + 12) v) (s := s) (s' := upd s (416 + 6 * k + 2) v) (fun j hj => upd_n _ _ (by omega)) hR (fun j hj => rfl)
  obtain ⟨-, -, -, -, r5, r6, ⟨r7, r8, r9, r10⟩, r11⟩ := hR
  refine ⟨hsets.1, hsets.2.1, hsets.2.2.1, hsets.2.2.2, fun l hl => ?_, fun q hq => ?_, ⟨?_, ?_, ?_, ?_⟩, fun q hq => ?_⟩
  · rw [upd_n _ _ (by omega)]; exact r5 l hl
  · rw [upd_n _ _ (by omega)]; exact r6 q hq
  · rw [upd_n _ _ (by omega)]; simp (disch := omega) only [zsS_1, zsS_2, zsS_3, zsS_4, zsL_1, zsL_2, zsL_3, zsL_4, upd_s, upd_n, updL_s, updL_n]; exact r7
  · rw [upd_n _ _ (by omega)]; simp (disch := omega) only [zsS_1, zsS_2, zsS_3, zsS_4, zsL_1, zsL_2, zsL_3, zsL_4, upd_s, upd_n, updL_s, updL_n]; exact r8
  · rw [upd_n _ _ (by omega)]; simp (disch := omega) only [zsS_1, zsS_2, zsS_3, zsS_4, zsL_1, zsL_2, zsL_3, zsL_4, upd_s, upd_n, updL_s, updL_n]; exact r9
  · rw [upd_n _ _ (by omega)]; simp (disch := omega) only [zsS_1, zsS_2, zsS_3, zsS_4, zsL_1, zsL_2, zsL_3, zsL_4, upd_s, upd_n, updL_s, updL_n]; exact r10
  · obtain ⟨c1, c2, c3, c4, c5, c6⟩ := r11 q hq
    by_cases hqk : q = k
    · subst hqk
      simp (disch := omega) only [zsS_1, zsS_2, zsS_3, zsS_4, zsL_1, zsL_2, zsL_3, zsL_4, upd_s, upd_n, updL_s, updL_n]
      exact ⟨c1, c2, trivial, c4, c5, c6⟩
    · simp (disch := omega) only [zsS_1, zsS_2, zsS_3, zsS_4, zsL_1, zsL_2, zsL_3, zsL_4, upd_s, upd_n, updL_s, updL_n]
      exact ⟨c1, c2, c3, c4, c5, c6⟩
theorem zR_set {P : ZP} {s : Nat → Int32} {k : Nat} (v : Int32) (hk : k < 3) (hR : zR P s) : zR (P.1, upd P.2.1 k v, P.2.2) (upd s (434 + k) v) := by
  have hsets := zR_sets (P := P) (P' := (P.1, upd P.2.1 k v, P.2.2)) (s := s) (s' := upd s (434 + k) v) (fun j hj => upd_n _ _ (by omega)) hR (fun j hj => rfl)
  obtain ⟨-, -, -, -, r5, r6, ⟨r7, r8, r9, r10⟩, r11⟩ := hR
  refine ⟨hsets.1, hsets.2.1, hsets.2.2.1, hsets.2.2.2, fun l hl => ?_, fun q hq => ?_, ⟨?_, ?_, ?_, ?_⟩, fun q hq => ?_⟩
  · rw [upd_n _ _ (by omega)]; exact r5 l hl
  · by_cases hqk : q = k
    · subst hqk; show upd P.2.1 q v q = _; rw [upd_s, upd_s]
    · show upd P.2.1 k v q = _; rw [upd_n _ _ hqk, upd_n _ _ (by omega)]; exact r6 q hq
  · rw [upd_n _ _ (by omega)]; exact r7
  · rw [upd_n _ _ (by omega)]; exact r8
  · rw [upd_n _ _ (by omega)]; exact r9
  · rw [upd_n _ _ (by omega)]; exact r10
  · obtain ⟨c1, c2, c3, c4, c5, c6⟩ := r11 q hq
    rw [upd_n _ _ (by omega), upd_n _ _ (by omega), upd_n _ _ (by omega), upd_n _ _ (by omega), upd_n _ _ (by omega), upd_n _ _ (by omega)]
    exact ⟨c1, c2, c3, c4, c5, c6⟩
theorem zWF_set {s : Nat → Int32} {k : Nat} {v : Int32} (hk : k < 3) (hv : zrI v (zlv (nI k)) (zhv (nI k)) = true) (hs : zWF s) : zWF (upd s (434 + k) v) := by
  obtain ⟨j, j1, j2, rfl⟩ := zrI_t hv (by unfold zhv; split <;> omega) (by unfold zlv zhv; split <;> split <;> omega)
  have h7 : zW7 (upd s (434 + k) (nI j)) := by
    unfold zW7
    rw [upd_n _ _ (by omega), upd_n _ _ (by omega), upd_n _ _ (by omega), upd_n _ _ (by omega)]
    exact hs.2.2.2
  obtain ⟨a, b, c, w1, w2, w3, w4, w5, w6, w7, w8⟩ := hs.2.2.1
  refine zWF_of (fun i hi => upd_n _ _ (by omega)) (fun q hq => ⟨upd_n _ _ (by omega), upd_n _ _ (by omega)⟩) hs ?_ h7
  have hk3 : k = 0 ∨ k = 1 ∨ k = 2 := by omega
  rcases hk3 with rfl | rfl | rfl
  · have e1 : zhv (nI 0) = 9 := by decide
    rw [e1] at j2
    exact ⟨j, b, c, upd_s _ _ _, j2, by rw [upd_n _ _ (by omega)]; exact w3, w4, w5, by rw [upd_n _ _ (by omega)]; exact w6, w7, w8⟩
  · have e1 : zhv (nI 1) = 9 := by decide
    have e2 : zlv (nI 1) = 1 := by decide
    rw [e1] at j2
    rw [e2] at j1
    exact ⟨a, j, c, by rw [upd_n _ _ (by omega)]; exact w1, w2, upd_s _ _ _, j1, j2, by rw [upd_n _ _ (by omega)]; exact w6, w7, w8⟩
  · have e1 : zhv (nI 2) = 4 := by decide
    have e2 : zlv (nI 2) = 1 := by decide
    rw [e1] at j2
    rw [e2] at j1
    exact ⟨a, b, j, by rw [upd_n _ _ (by omega)]; exact w1, w2, by rw [upd_n _ _ (by omega)]; exact w3, w4, w5, upd_s _ _ _, j1, j2⟩
section Z8V
variable {C : ZC} {M : ZM} {e : ZE} {σ : xS} {o n l kp : Nat}
theorem k_set_o {k : Nat} {v : Int32} (h : zKr C M o n l kp) (hk : k < 3) (hv : zrI v (zlv (nI k)) (zhv (nI k)) = true) : ∃ C', xC1 mX6_set [.ref 0, .int (nI k), .int v] (zH C M e) = some (.inl (some (.int (M 0 (434 + k)))), zH C' M e) ∧ zKr C' (zgS M n (upd (M 0) (434 + k) v) l) (if n = 6 then (o + 1) % 6 else o) (zsvN n) l kp := by
  have h' := h
  obtain ⟨⟨a1, a2, a3, a4⟩, ⟨b1, b2, b3, b4⟩, ⟨d1, d2, d3⟩, ⟨e1, e2⟩, f, g, kk⟩ := h
  obtain ⟨C1, p0, p1, p2, p3, p4, p5, p6, p7, p8⟩ := c_push (C := C) (M := M) (e := e) a1 a2 b2 b3 e1
  have hR1 : zR (C1.1 0) (M 0) := by rw [p1 _ (by omega)]; exact e1
  have hl : xC1 mX6_leastValue [.int (nI k)] (zH C M e) = some (.inl (some (.int (nI (zlv (nI k))))), zH C M e) := by
    rw [s_leastValue]
    unfold zlv
    by_cases h0 : nI k = nI 0
    · rw [if_pos h0, if_pos (show nI k = 0 from h0)]; rfl
    · rw [if_neg h0, if_neg (show ¬ nI k = 0 from h0)]; rfl
  have hm : xC1 mX6_mostValue [.int (nI k)] (zH C M e) = some (.inl (some (.int (nI (zhv (nI k))))), zH C M e) := by
    rw [s_mostValue]
    unfold zhv
    by_cases h0 : nI k = nI 2
    · rw [if_pos h0, if_pos h0]
    · rw [if_neg h0, if_neg h0]
  obtain ⟨v1, v2⟩ := zrI_u hv
  have hx : zrI (nI k) 0 2 = true := zrI_n2 (by omega) (by omega) (by omega)
  have hq := hR1.2.2.2.2.2.1 k hk
  refine ⟨zcp C1 0 ((C1.1 0).1, upd (C1.1 0).2.1 k v, (C1.1 0).2.2), ?_, zKr_sv h' (Nat.le_refl _) p1 p2 p3 (p5.trans b1) p6 p7 p8 (zR_set v hk hR1) (zWF_set hk hv e2)⟩
  simp (disch := omega) only [e_X6_set, r_X6_set_0, r_X6_set_1, r_X6_set_4, r_X6_set_7, r_X6_set_10A, r_X6_set_10I, r_X6_set_17, r_X6_set_18, r_X6_set_19, r_X6_set_22, r_X6_set_25, r_X6_set_26, r_X6_set_27, r_X6_set_30, r_X6_set_33, r_X6_set_36A, r_X6_set_36I, r_X6_set_43, r_X6_set_44, r_X6_set_47, r_X6_set_48, r_X6_set_51, r_X6_set_54, r_X6_set_55, r_X6_set_58, r_X6_set_61, r_X6_set_62, r_X6_set_63, r_X6_set_64, r_X6_set_65, r_X6_set_68, r_X6_set_71, r_X6_set_72, r_X6_set_73, r_X6_set_74, r_X6_set_75, ↓glI0, ↓glL0, ↓glF0, ↓glD0, ↓glA0, ↓glI1, ↓glL1, ↓glF1, ↓glD1, ↓glA1, ↓glI2, ↓glL2, ↓glF2, ↓glD2, ↓glA2, ↓glI3, ↓glL3, ↓glF3, ↓glD3, ↓glA3, ↓glI4, ↓glL4, ↓glF4, ↓glD4, ↓glA4, ↓glI5, ↓glL5, ↓glF5, ↓glD5, ↓glA5, ↓glI6, ↓glL6, ↓glF6, ↓glD6, ↓glA6, ↓glI7, ↓glL7, ↓glF7, ↓glD7, ↓glA7, ↓glI8, ↓glL8, ↓glF8, ↓glD8, ↓glA8, ↓glI9, ↓glL9, ↓glF9, ↓glD9, ↓glA9, ↓glI10, ↓glL10, ↓glF10, ↓glD10, ↓glA10, ↓glI11, ↓glL11, ↓glF11, ↓glD11, ↓glA11, ↓glI12, ↓glL12, ↓glF12, ↓glD12, ↓glA12, ↓glI13, ↓glL13, ↓glF13, ↓glD13, ↓glA13, ↓glI14, ↓glL14, ↓glF14, ↓glD14, ↓glA14, ↓glI15, ↓glL15, ↓glF15, ↓glD15, ↓glA15, ↓glI16, ↓glL16, ↓glF16, ↓glD16, ↓glA16, ↓glI17, ↓glL17, ↓glF17, ↓glD17, ↓glA17, ↓glI18, ↓glL18, ↓glF18, ↓glD18, ↓glA18, ↓glI19, ↓glL19, ↓glF19, ↓glD19, ↓glA19, ↓glI20, ↓glL20, ↓glF20, ↓glD20, ↓glA20, ↓glI21, ↓glL21, ↓glF21, ↓glD21, ↓glA21, ↓glI22, ↓glL22, ↓glF22, ↓glD22, ↓glA22, ↓glI23, ↓glL23, ↓glF23, ↓glD23, ↓glA23, ↓glI24, ↓glL24, ↓glF24, ↓glD24, ↓glA24, ↓bs0, ↓bs1, ↓bs2, ↓bs3, ↓bs4, ↓bs5, ↓bs6, ↓bs7, ↓bs8, ↓bs9, ↓bs10, ↓bs11, ↓bs12, ↓bs13, ↓bs14, ↓bs15, ↓bs16, ↓bs17, ↓bs18, ↓bs19, ↓bs20, ↓bs21, ↓bs22, ↓bs23, ↓bs24, ↓bw0, ↓bw1, ↓bw2, ↓bw3, ↓bw4, ↓bw5, ↓bw6, ↓bw7, ↓bw8, ↓bw9, ↓bw10, ↓bw11, ↓bw13, ↓bw14, ↓bw15, ↓bw16, ↓bw17, ↓bw18, ↓bw19, ↓bw20, ↓bw21, ↓bw22, ↓bw23, ↓bw24, lk0, lkI, lkA, lkL, lkD, lkF, gI1, gL1, gF1, gD1, gA1, xw0, xwI, xwA, xwL, xwD, xwF, vtS, vtN, Option.bind_some, true_or, or_true, ↓reduceIte, if_true, if_false, yC_s, yV_s, Nat.reduceAdd, Nat.reduceLeDiff, Nat.zero_le, not_true_eq_false, not_false_eq_true, eq_self, true_and, and_true, nI_add, pk_mul, nI_clamp, pk_sub, pk_div, zmod, zn_m1, zn_leT, zn_leF, zn_ltT, zn_ltF, zn_eqF, zn_in, zn_0le, zn_nlt0, zn_pos, zn_npos, zn_le0F, zn_le0T, zn_0F, zn_0T, nI_0i, zq_lt0, zq_le0, zq_0le, zq_11, bI_eq0c, bI_01c, zm_lt0, zm_0le, zm_ne, zm_ne2, zm_le0, bI_eq0, bI_ne0, zfit_b, zfit_0, zfit_1, z01_0, z01_1, Bool.false_eq_true, Bool.true_eq_false, Nat.zero_add, ztr_lt, Nat.add_zero, Nat.reduceMul, zms_s, zms_n, zms_zms, zso_1_0, zso_2_0, zso_2_1, zso_3_0, zso_3_1, zso_3_2, zso_4_0, zso_4_1, zso_4_2, zso_4_3, zso_5_0, zso_5_1, zso_5_2, zso_5_3, zso_5_4, zso_6_0, zso_6_1, zso_6_2, zso_6_3, zso_6_4, zso_6_5, zso_7_0, zso_7_1, zso_7_2, zso_7_3, zso_7_4, zso_7_5, zso_7_6, zso_8_0, zso_8_1, zso_8_2, zso_8_3, zso_8_4, zso_8_5, zso_8_6, zso_8_7, zcp_s, zcp_n, zcp_zcp, zcp_2, upd_s, upd_n, updL_s, updL_n, zsS_1, zsS_2, zsS_3, zsS_4, zsL_1, zsL_2, zsL_3, zsL_4, bI_01b, yw_X0_placeBehind_1_0, yw_X0_placeBehind_1_1, yw_X0_placeBehind_1_2, yw_X0_placeBehind_1_3, yw_X0_placeBehind_1_4, yw_X1_leading_1_0, yw_X1_leading_1_1, yw_X1_leading_1_2, yw_X1_leading_1_3, yw_X1_leading_1_4, yw_X6_thawingCells_59_0, yw_X6_thawingCells_59_1, yw_X6_thawingCells_59_2, yw_X6_thawingCells_59_3, yw_X6_thawingCells_59_4, yw_X6_stateNumber_1_0, yw_X6_stateNumber_1_1, yw_X6_stateNumber_1_2, yw_X6_stateNumber_1_3, yw_X6_stateNumber_1_4, yw_X6_stateNumber_1_5, yw_X6_stateNumber_1_6, yw_X6_stateNumber_1_7, yw_X6_stateNumber_1_8, yw_X6_stateNumber_1_9, yw_X6_stateNumber_1_10, yw_X6_stateNumber_1_11, yw_X6_cellNumber_1_0, yw_X6_cellNumber_1_1, yw_X6_cellNumber_1_2, yw_X6_cellNumber_1_3, yw_X6_cellNumber_1_4, yw_X6_cellNumber_1_5, yw_X6_skaterNumber_11_0, yw_X6_skaterNumber_11_1, yw_X6_skaterNumber_11_2, yw_X6_skaterNumber_11_3, yw_X6_skaterNumber_11_4, yw_X6_skaterNumber_11_5, yw_X6_skaterNumber_11_6, yw_X6_skaterNumber_11_7, yw_X6_skaterNumber_11_8, yw_X6_ifGlided_77_0, yw_X6_ifGlided_77_1, yw_X6_ifGlided_77_2, yw_X6_ifGlided_77_3, zk_p, zk_s, zk_0, zk_22, zk_66, zk_68, zskr_k, zpor_k, zu_W, zu_Wc, zu_T, zu_Tc, zu_67, zu_69, ↓zb_q_W, ↓zb_q_T, ↓zb_q_K, ↓zb_q_23, ↓zb_q_67, ↓zb_q_69, ↓zb_f_p0, ↓zb_g_p0, ↓zb_f_p1, ↓zb_g_p1, ↓zb_f_p2, ↓zb_g_p2, ↓zb_f_p3, ↓zb_f_p4, ↓zb_f_p5, ↓zb_f_p6, ↓zb_g_p6, ↓zb_f_p7, ↓zb_g_p7, ↓zb_f_p8, ↓zb_g_p8, ↓zb_f_p9, ↓zb_g_p9, ↓zb_f_s0, ↓zb_g_s0, ↓zb_f_s1, ↓zb_g_s1, ↓zb_f_s2, ↓zb_g_s2, ↓zb_f_s3, ↓zb_g_s3, ↓zb_f_s4, ↓zb_g_s4, ↓zb_f_s5, ↓zb_g_s5, ↓zb_f_s6, ↓zb_g_s6, ↓zb_f_c0, ↓zb_f_c1, ↓zb_f_c2, ↓zb_f_c3, ↓zb_f_c4, ↓zb_f_c5, ↓zb_f_c6, ↓zb_g_c6, ↓zb_f_d0, ↓zb_f_d1, ↓zb_g_d1, ↓zb_f_d2, ↓zb_g_d2, ↓zb_f_t0, ↓zb_f_t1, ↓zb_g_t1, ↓zb_f_j0, k_st, hx, hl, hm, v1, v2, p0, hq]
end Z8V
