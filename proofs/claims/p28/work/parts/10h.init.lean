/-! ===== constructors: pond, class, twice, and the picture behind them: by program (wip/p28/tools/gen_init28.py) ===== -/
theorem lt_T {m n : Nat} (h : m < n) : (m < n) = True := eq_true h
def zP0 : ZP := (fun _ => 0, fun j => if j = 0 then nI 2 else if j = 1 then nI 3 else nI 2, fun j => if j = 3 then nI 60 else if j = 20 ∨ j = 31 then nI 8 else if j = 12 ∨ j = 22 ∨ j = 32 then nI 20 else nI 0, fun j => if j = 0 then -1 else 0)
def gpl (i : Nat) : List xC := [zpc i zP0 0, zpc i zP0 1, zpc i zP0 2, zpc i zP0 3, zpc i zP0 4, zpc i zP0 5, zpc i zP0 6]
theorem gpl_len {i : Nat} : (gpl i).length = 7 := rfl
theorem xl0 : (xblk 0).length = 2 := rfl
theorem xl1 : (xblk 1).length = 10 := rfl
theorem xl2 : (xblk 2).length = 1 := rfl
theorem xl3 : (xblk 3).length = 3 := rfl
theorem xl4 : (xblk 4).length = 7 := rfl
theorem xl5 : (xblk 5).length = 7 := rfl
theorem xl6 : (xblk 6).length = 13 := rfl
section Z9E
variable {h : Nat → Option xC} {a b k sl i : Nat}
theorem gsL_pl : gsL h a (gpl i) a = some (zpc i zP0 0) := gsL_z
theorem gcls_pl : gcls (some (zpc i zP0 0)) = some 1 := rfl
theorem ztr_0 {n : Nat} : ztr n (fun _ => 0) = fun _ => 0 := by
  funext j; unfold ztr; split <;> rfl
theorem n_sk4 {c0 c1 c2 c3 : xC} {x y : Int32} : xC1 mX5_init [.ref (a + 4), .int x, .int y] (gsN h a [c0, c1, c2, c3, .inr (4, xblk 4)] sl) = some (.inl none, gsN h a [c0, c1, c2, c3, .inr (4, [.int x, .int y, .int (nI 20), .int (nI 0), .int (nI 0), .int (nI 0), .long 0])] sl) := n_skater (k := 4) (l := [c0, c1, c2, c3, .inr (4, xblk 4)]) (by simp only [List.length_cons, List.length_nil]; omega) rfl
theorem n_sk5 {c0 c1 c2 c3 c4 : xC} {x y : Int32} : xC1 mX5_init [.ref (a + 5), .int x, .int y] (gsN h a [c0, c1, c2, c3, c4, .inr (4, xblk 4)] sl) = some (.inl none, gsN h a [c0, c1, c2, c3, c4, .inr (4, [.int x, .int y, .int (nI 20), .int (nI 0), .int (nI 0), .int (nI 0), .long 0])] sl) := n_skater (k := 5) (l := [c0, c1, c2, c3, c4, .inr (4, xblk 4)]) (by simp only [List.length_cons, List.length_nil]; omega) rfl
theorem n_sk6 {c0 c1 c2 c3 c4 c5 : xC} {x y : Int32} : xC1 mX5_init [.ref (a + 6), .int x, .int y] (gsN h a [c0, c1, c2, c3, c4, c5, .inr (4, xblk 4)] sl) = some (.inl none, gsN h a [c0, c1, c2, c3, c4, c5, .inr (4, [.int x, .int y, .int (nI 20), .int (nI 0), .int (nI 0), .int (nI 0), .long 0])] sl) := n_skater (k := 6) (l := [c0, c1, c2, c3, c4, c5, .inr (4, xblk 4)]) (by simp only [List.length_cons, List.length_nil]; omega) rfl
theorem n_pond0 (ha : a ≤ 300) : xC1 mX2_init [.ref a] (gsN h a [.inr (1, xblk 1)] sl) = some (.inl none, gsN h a [.inr (1, [.long (-1), .long 0, .long 0, .ref (a + 1), .ref (a + 2), .ref (a + 3), .int (nI 0), .int (nI 0), .int (nI 0), .int (nI 60)]), .inl (0, 144, .inl (fun _ => 0)), .inl (0, 3, .inl (upd (upd (upd (fun _ => 0) 0 (nI 2)) 1 (nI 3)) 2 (nI 2))), .inl (3, 3, .inr (.inr (.inr (.inr (va_up (va_up (va_up (fun _ => none) 0 (some (a + 4))) 1 (some (a + 5))) 2 (some (a + 6))))))), .inr (4, [.int (nI 0), .int (nI 0), .int (nI 20), .int (nI 0), .int (nI 0), .int (nI 0), .long 0]), .inr (4, [.int (nI 8), .int (nI 0), .int (nI 20), .int (nI 0), .int (nI 0), .int (nI 0), .long 0]), .inr (4, [.int (nI 0), .int (nI 8), .int (nI 20), .int (nI 0), .int (nI 0), .int (nI 0), .long 0])] (sl + 144 + 3 + 3 + 7 + 7 + 7)) := by
  simp (maxSteps := 3000000) (disch := first | omega | (simp only [List.length_cons, List.length_nil]; omega) | rfl) only [e_X2_init, r_X2_init_0, r_X2_init_1, r_X2_init_4, r_X2_init_5, r_X2_init_8, r_X2_init_11, r_X2_init_12, r_X2_init_13, r_X2_init_16, r_X2_init_17, r_X2_init_18, r_X2_init_21, r_X2_init_22, r_X2_init_25, r_X2_init_27, r_X2_init_30, r_X2_init_31, r_X2_init_32, r_X2_init_34A, r_X2_init_34I, r_X2_init_35, r_X2_init_36, r_X2_init_37, r_X2_init_38A, r_X2_init_38I, r_X2_init_39, r_X2_init_40, r_X2_init_41, r_X2_init_42A, r_X2_init_42I, r_X2_init_43, r_X2_init_44, r_X2_init_45, r_X2_init_46, r_X2_init_49, r_X2_init_50, r_X2_init_51, r_X2_init_54A, r_X2_init_54I, r_X2_init_55, r_X2_init_56, r_X2_init_59A, r_X2_init_59I, r_X2_init_60, r_X2_init_61, r_X2_init_62, r_X2_init_65, r_X2_init_66A, r_X2_init_66I, r_X2_init_67, r_X2_init_68, r_X2_init_71A, r_X2_init_71I, r_X2_init_72, r_X2_init_74, r_X2_init_75, r_X2_init_78, r_X2_init_79A, r_X2_init_79I, r_X2_init_80, r_X2_init_81, r_X2_init_84A, r_X2_init_84I, r_X2_init_85, r_X2_init_86, r_X2_init_88, r_X2_init_91, r_X2_init_92, r_X2_init_95, r_X2_init_96, r_X2_init_97, r_X2_init_100, r_X2_init_101, r_X2_init_102, r_X2_init_105, r_X2_init_106, r_X2_init_107, r_X2_init_110, r_X2_init_111, r_X2_init_113, r_X2_init_116, ↓glI0, ↓glL0, ↓glF0, ↓glD0, ↓glA0, ↓glI1, ↓glL1, ↓glF1, ↓glD1, ↓glA1, ↓glI2, ↓glL2, ↓glF2, ↓glD2, ↓glA2, ↓glI3, ↓glL3, ↓glF3, ↓glD3, ↓glA3, ↓glI4, ↓glL4, ↓glF4, ↓glD4, ↓glA4, ↓glI5, ↓glL5, ↓glF5, ↓glD5, ↓glA5, ↓glI6, ↓glL6, ↓glF6, ↓glD6, ↓glA6, ↓glI7, ↓glL7, ↓glF7, ↓glD7, ↓glA7, ↓glI8, ↓glL8, ↓glF8, ↓glD8, ↓glA8, ↓glI9, ↓glL9, ↓glF9, ↓glD9, ↓glA9, ↓glI10, ↓glL10, ↓glF10, ↓glD10, ↓glA10, ↓glI11, ↓glL11, ↓glF11, ↓glD11, ↓glA11, ↓glI12, ↓glL12, ↓glF12, ↓glD12, ↓glA12, ↓glI13, ↓glL13, ↓glF13, ↓glD13, ↓glA13, ↓glI14, ↓glL14, ↓glF14, ↓glD14, ↓glA14, ↓glI15, ↓glL15, ↓glF15, ↓glD15, ↓glA15, ↓glI16, ↓glL16, ↓glF16, ↓glD16, ↓glA16, ↓glI17, ↓glL17, ↓glF17, ↓glD17, ↓glA17, ↓glI18, ↓glL18, ↓glF18, ↓glD18, ↓glA18, ↓glI19, ↓glL19, ↓glF19, ↓glD19, ↓glA19, ↓glI20, ↓glL20, ↓glF20, ↓glD20, ↓glA20, ↓glI21, ↓glL21, ↓glF21, ↓glD21, ↓glA21, ↓glI22, ↓glL22, ↓glF22, ↓glD22, ↓glA22, ↓glI23, ↓glL23, ↓glF23, ↓glD23, ↓glA23, ↓glI24, ↓glL24, ↓glF24, ↓glD24, ↓glA24, ↓bs0, ↓bs1, ↓bs2, ↓bs3, ↓bs4, ↓bs5, ↓bs6, ↓bs7, ↓bs8, ↓bs9, ↓bs10, ↓bs11, ↓bs12, ↓bs13, ↓bs14, ↓bs15, ↓bs16, ↓bs17, ↓bs18, ↓bs19, ↓bs20, ↓bs21, ↓bs22, ↓bs23, ↓bs24, ↓bw0, ↓bw1, ↓bw2, ↓bw3, ↓bw4, ↓bw5, ↓bw6, ↓bw7, ↓bw8, ↓bw9, ↓bw10, ↓bw11, ↓bw13, ↓bw14, ↓bw15, ↓bw16, ↓bw17, ↓bw18, ↓bw19, ↓bw20, ↓bw21, ↓bw22, ↓bw23, ↓bw24, lk0, lkI, lkA, lkL, lkD, lkF, gI1, gL1, gF1, gD1, gA1, xw0, xwI, xwA, xwL, xwD, xwF, vtS, vtN, Option.bind_some, true_or, or_true, ↓reduceIte, if_true, if_false, yC_s, yV_s, Nat.reduceAdd, Nat.reduceLeDiff, Nat.zero_le, not_true_eq_false, not_false_eq_true, eq_self, true_and, and_true, nI_add, pk_mul, nI_clamp, pk_sub, pk_div, zmod, zn_m1, zn_leT, zn_leF, zn_ltT, zn_ltF, zn_eqF, zn_in, zn_0le, zn_nlt0, zn_pos, zn_npos, zn_le0F, zn_le0T, zn_0F, zn_0T, nI_0i, zq_lt0, zq_le0, zq_0le, zq_11, bI_eq0c, bI_01c, zm_lt0, zm_0le, zm_ne, zm_ne2, zm_le0, bI_eq0, bI_ne0, zfit_b, zfit_0, zfit_1, z01_0, z01_1, Bool.false_eq_true, Bool.true_eq_false, Nat.zero_add, ztr_lt, Nat.add_zero, Nat.reduceMul, zms_s, zms_n, zms_zms, zso_1_0, zso_2_0, zso_2_1, zso_3_0, zso_3_1, zso_3_2, zso_4_0, zso_4_1, zso_4_2, zso_4_3, zso_5_0, zso_5_1, zso_5_2, zso_5_3, zso_5_4, zso_6_0, zso_6_1, zso_6_2, zso_6_3, zso_6_4, zso_6_5, zso_7_0, zso_7_1, zso_7_2, zso_7_3, zso_7_4, zso_7_5, zso_7_6, zso_8_0, zso_8_1, zso_8_2, zso_8_3, zso_8_4, zso_8_5, zso_8_6, zso_8_7, zcp_s, zcp_n, zcp_zcp, zcp_2, upd_s, upd_n, updL_s, updL_n, zsS_1, zsS_2, zsS_3, zsS_4, zsL_1, zsL_2, zsL_3, zsL_4, bI_01b, yw_X0_placeBehind_1_0, yw_X0_placeBehind_1_1, yw_X0_placeBehind_1_2, yw_X0_placeBehind_1_3, yw_X0_placeBehind_1_4, yw_X1_leading_1_0, yw_X1_leading_1_1, yw_X1_leading_1_2, yw_X1_leading_1_3, yw_X1_leading_1_4, yw_X6_thawingCells_59_0, yw_X6_thawingCells_59_1, yw_X6_thawingCells_59_2, yw_X6_thawingCells_59_3, yw_X6_thawingCells_59_4, yw_X6_stateNumber_1_0, yw_X6_stateNumber_1_1, yw_X6_stateNumber_1_2, yw_X6_stateNumber_1_3, yw_X6_stateNumber_1_4, yw_X6_stateNumber_1_5, yw_X6_stateNumber_1_6, yw_X6_stateNumber_1_7, yw_X6_stateNumber_1_8, yw_X6_stateNumber_1_9, yw_X6_stateNumber_1_10, yw_X6_stateNumber_1_11, yw_X6_cellNumber_1_0, yw_X6_cellNumber_1_1, yw_X6_cellNumber_1_2, yw_X6_cellNumber_1_3, yw_X6_cellNumber_1_4, yw_X6_cellNumber_1_5, yw_X6_skaterNumber_11_0, yw_X6_skaterNumber_11_1, yw_X6_skaterNumber_11_2, yw_X6_skaterNumber_11_3, yw_X6_skaterNumber_11_4, yw_X6_skaterNumber_11_5, yw_X6_skaterNumber_11_6, yw_X6_skaterNumber_11_7, yw_X6_skaterNumber_11_8, yw_X6_ifGlided_77_0, yw_X6_ifGlided_77_1, yw_X6_ifGlided_77_2, yw_X6_ifGlided_77_3, zk_p, zk_s, zk_0, zk_22, zk_66, zk_68, zskr_k, zpor_k, zu_W, zu_Wc, zu_T, zu_Tc, zu_67, zu_69, ↓zb_q_W, ↓zb_q_T, ↓zb_q_K, ↓zb_q_23, ↓zb_q_67, ↓zb_q_69, ↓zb_f_p0, ↓zb_g_p0, ↓zb_f_p1, ↓zb_g_p1, ↓zb_f_p2, ↓zb_g_p2, ↓zb_f_p3, ↓zb_f_p4, ↓zb_f_p5, ↓zb_f_p6, ↓zb_g_p6, ↓zb_f_p7, ↓zb_g_p7, ↓zb_f_p8, ↓zb_g_p8, ↓zb_f_p9, ↓zb_g_p9, ↓zb_f_s0, ↓zb_g_s0, ↓zb_f_s1, ↓zb_g_s1, ↓zb_f_s2, ↓zb_g_s2, ↓zb_f_s3, ↓zb_g_s3, ↓zb_f_s4, ↓zb_g_s4, ↓zb_f_s5, ↓zb_g_s5, ↓zb_f_s6, ↓zb_g_s6, ↓zb_f_c0, ↓zb_f_c1, ↓zb_f_c2, ↓zb_f_c3, ↓zb_f_c4, ↓zb_f_c5, ↓zb_f_c6, ↓zb_g_c6, ↓zb_f_d0, ↓zb_f_d1, ↓zb_g_d1, ↓zb_f_d2, ↓zb_g_d2, ↓zb_f_t0, ↓zb_f_t1, ↓zb_g_t1, ↓zb_f_j0, gsN_g, gsN_p, List.cons_append, List.nil_append, List.length_cons, List.length_nil, glo_fst, glo_fld, glo_int, glo_ref, glo_cls, gsN_1, gsL_k, gsL_z, ghup_k, ghup_z, List.set_cons_succ, List.set_cons_zero, List.getElem?_cons_succ, List.getElem?_cons_zero, nI_nn, gfst_o, gfld_o, gcls_o, gint_a, gref_a, lt_T, Option.map_some, xe4, xe1, ghnew_a, xb1, xl4, n_sk4, n_sk5, n_sk6]
theorem n_pond (hz : zbp i = a) (ha : a ≤ 300) : xC1 mX2_init [.ref a] (gsN h a [.inr (1, xblk 1)] sl) = some (.inl none, gsN h a (gpl i) (sl + 171)) := by
  rw [n_pond0 ha]
  subst hz
  have c1 : (.inl (0, 144, .inl (fun _ => 0)) : xC) = zpc i zP0 1 := by
    show _ = Sum.inl (0, 144, Sum.inl (ztr 144 zP0.1))
    rw [show zP0.1 = fun _ => 0 from rfl, ztr_0]
  have c2 : (.inl (0, 3, .inl (upd (upd (upd (fun _ => 0) 0 (nI 2)) 1 (nI 3)) 2 (nI 2))) : xC) = zpc i zP0 2 := by
    show _ = Sum.inl (0, 3, Sum.inl (ztr 3 zP0.2.1))
    congr 4
    funext j
    match j with
    | 0 => rfl
    | 1 => rfl
    | 2 => rfl
    | j + 3 =>
      unfold ztr
      rw [if_neg (by omega), upd_n _ _ (by omega), upd_n _ _ (by omega), upd_n _ _ (by omega)]
  have c3 : (.inl (3, 3, .inr (.inr (.inr (.inr (va_up (va_up (va_up (fun _ => none) 0 (some (zbp i + 4))) 1 (some (zbp i + 5))) 2 (some (zbp i + 6))))))) : xC) = zpc i zP0 3 := by
    show _ = Sum.inl (3, 3, Sum.inr (Sum.inr (Sum.inr (Sum.inr (zskr i)))))
    congr 7
    funext j
    match j with
    | 0 => rfl
    | 1 => rfl
    | 2 => rfl
    | j + 3 =>
      unfold zskr va_up
      rw [if_neg (by omega), if_neg (by omega), if_neg (by omega), if_neg (by omega)]
  unfold gpl
  rw [← c1, ← c2, ← c3]
  rfl

def gplR (i : Nat) : List xC := [rnC (zpc i zP0 0), rnC (zpc i zP0 1), rnC (zpc i zP0 2), rnC (zpc i zP0 3), rnC (zpc i zP0 4), rnC (zpc i zP0 5), rnC (zpc i zP0 6)]
theorem gplR_len {i : Nat} : (gplR i).length = 7 := rfl
theorem gsL_plR : gsL h a (gplR i) a = some (rnC (zpc i zP0 0)) := gsL_z
theorem gcls_plR : gcls (some (rnC (zpc i zP0 0))) = some 1 := rfl
theorem n_pondR_0 : xC1 mX2_init [.ref 71] (gsN h 71 [.inr (1, xblk 1)] sl) = some (.inl none, gsN h 71 (gplR 0) (sl + 171)) := by
  rw [n_pond0 (by omega)]
  have c1 : (.inl (0, 144, .inl (fun _ => 0)) : xC) = rnC (zpc 0 zP0 1) := by
    show _ = Sum.inl (0, 144, Sum.inl (ztr 144 zP0.1))
    rw [show zP0.1 = fun _ => 0 from rfl, ztr_0]
  have c2 : (.inl (0, 3, .inl (upd (upd (upd (fun _ => 0) 0 (nI 2)) 1 (nI 3)) 2 (nI 2))) : xC) = rnC (zpc 0 zP0 2) := by
    show _ = Sum.inl (0, 3, Sum.inl (ztr 3 zP0.2.1))
    congr 4
    funext j
    match j with
    | 0 => rfl
    | 1 => rfl
    | 2 => rfl
    | j + 3 =>
      unfold ztr
      rw [if_neg (by omega), upd_n _ _ (by omega), upd_n _ _ (by omega), upd_n _ _ (by omega)]
  have c3 : (.inl (3, 3, .inr (.inr (.inr (.inr (va_up (va_up (va_up (fun _ => none) 0 (some (71 + 4))) 1 (some (71 + 5))) 2 (some (71 + 6))))))) : xC) = rnC (zpc 0 zP0 3) := by
    show _ = Sum.inl (3, 3, Sum.inr (Sum.inr (Sum.inr (Sum.inr (fun j => (zskr 0 j).map zsw)))))
    congr 7
    funext j
    match j with
    | 0 => rfl
    | 1 => rfl
    | 2 => rfl
    | j + 3 =>
      unfold zskr va_up
      rw [if_neg (by omega), if_neg (by omega), if_neg (by omega), if_neg (by omega)]
      rfl
  unfold gplR
  rw [← c1, ← c2, ← c3]
  rfl
theorem n_pondR_1 : xC1 mX2_init [.ref 78] (gsN h 78 [.inr (1, xblk 1)] sl) = some (.inl none, gsN h 78 (gplR 1) (sl + 171)) := by
  rw [n_pond0 (by omega)]
  have c1 : (.inl (0, 144, .inl (fun _ => 0)) : xC) = rnC (zpc 1 zP0 1) := by
    show _ = Sum.inl (0, 144, Sum.inl (ztr 144 zP0.1))
    rw [show zP0.1 = fun _ => 0 from rfl, ztr_0]
  have c2 : (.inl (0, 3, .inl (upd (upd (upd (fun _ => 0) 0 (nI 2)) 1 (nI 3)) 2 (nI 2))) : xC) = rnC (zpc 1 zP0 2) := by
    show _ = Sum.inl (0, 3, Sum.inl (ztr 3 zP0.2.1))
    congr 4
    funext j
    match j with
    | 0 => rfl
    | 1 => rfl
    | 2 => rfl
    | j + 3 =>
      unfold ztr
      rw [if_neg (by omega), upd_n _ _ (by omega), upd_n _ _ (by omega), upd_n _ _ (by omega)]
  have c3 : (.inl (3, 3, .inr (.inr (.inr (.inr (va_up (va_up (va_up (fun _ => none) 0 (some (78 + 4))) 1 (some (78 + 5))) 2 (some (78 + 6))))))) : xC) = rnC (zpc 1 zP0 3) := by
    show _ = Sum.inl (3, 3, Sum.inr (Sum.inr (Sum.inr (Sum.inr (fun j => (zskr 1 j).map zsw)))))
    congr 7
    funext j
    match j with
    | 0 => rfl
    | 1 => rfl
    | 2 => rfl
    | j + 3 =>
      unfold zskr va_up
      rw [if_neg (by omega), if_neg (by omega), if_neg (by omega), if_neg (by omega)]
      rfl
  unfold gplR
  rw [← c1, ← c2, ← c3]
  rfl
theorem n_pondR_2 : xC1 mX2_init [.ref 85] (gsN h 85 [.inr (1, xblk 1)] sl) = some (.inl none, gsN h 85 (gplR 2) (sl + 171)) := by
  rw [n_pond0 (by omega)]
  have c1 : (.inl (0, 144, .inl (fun _ => 0)) : xC) = rnC (zpc 2 zP0 1) := by
    show _ = Sum.inl (0, 144, Sum.inl (ztr 144 zP0.1))
    rw [show zP0.1 = fun _ => 0 from rfl, ztr_0]
  have c2 : (.inl (0, 3, .inl (upd (upd (upd (fun _ => 0) 0 (nI 2)) 1 (nI 3)) 2 (nI 2))) : xC) = rnC (zpc 2 zP0 2) := by
    show _ = Sum.inl (0, 3, Sum.inl (ztr 3 zP0.2.1))
    congr 4
    funext j
    match j with
    | 0 => rfl
    | 1 => rfl
    | 2 => rfl
    | j + 3 =>
      unfold ztr
      rw [if_neg (by omega), upd_n _ _ (by omega), upd_n _ _ (by omega), upd_n _ _ (by omega)]
  have c3 : (.inl (3, 3, .inr (.inr (.inr (.inr (va_up (va_up (va_up (fun _ => none) 0 (some (85 + 4))) 1 (some (85 + 5))) 2 (some (85 + 6))))))) : xC) = rnC (zpc 2 zP0 3) := by
    show _ = Sum.inl (3, 3, Sum.inr (Sum.inr (Sum.inr (Sum.inr (fun j => (zskr 2 j).map zsw)))))
    congr 7
    funext j
    match j with
    | 0 => rfl
    | 1 => rfl
    | 2 => rfl
    | j + 3 =>
      unfold zskr va_up
      rw [if_neg (by omega), if_neg (by omega), if_neg (by omega), if_neg (by omega)]
      rfl
  unfold gplR
  rw [← c1, ← c2, ← c3]
  rfl
theorem n_pondR_3 : xC1 mX2_init [.ref 94] (gsN h 94 [.inr (1, xblk 1)] sl) = some (.inl none, gsN h 94 (gplR 3) (sl + 171)) := by
  rw [n_pond0 (by omega)]
  have c1 : (.inl (0, 144, .inl (fun _ => 0)) : xC) = rnC (zpc 3 zP0 1) := by
    show _ = Sum.inl (0, 144, Sum.inl (ztr 144 zP0.1))
    rw [show zP0.1 = fun _ => 0 from rfl, ztr_0]
  have c2 : (.inl (0, 3, .inl (upd (upd (upd (fun _ => 0) 0 (nI 2)) 1 (nI 3)) 2 (nI 2))) : xC) = rnC (zpc 3 zP0 2) := by
    show _ = Sum.inl (0, 3, Sum.inl (ztr 3 zP0.2.1))
    congr 4
    funext j
    match j with
    | 0 => rfl
    | 1 => rfl
    | 2 => rfl
    | j + 3 =>
      unfold ztr
      rw [if_neg (by omega), upd_n _ _ (by omega), upd_n _ _ (by omega), upd_n _ _ (by omega)]
  have c3 : (.inl (3, 3, .inr (.inr (.inr (.inr (va_up (va_up (va_up (fun _ => none) 0 (some (94 + 4))) 1 (some (94 + 5))) 2 (some (94 + 6))))))) : xC) = rnC (zpc 3 zP0 3) := by
    show _ = Sum.inl (3, 3, Sum.inr (Sum.inr (Sum.inr (Sum.inr (fun j => (zskr 3 j).map zsw)))))
    congr 7
    funext j
    match j with
    | 0 => rfl
    | 1 => rfl
    | 2 => rfl
    | j + 3 =>
      unfold zskr va_up
      rw [if_neg (by omega), if_neg (by omega), if_neg (by omega), if_neg (by omega)]
      rfl
  unfold gplR
  rw [← c1, ← c2, ← c3]
  rfl
theorem n_pondR_4 : xC1 mX2_init [.ref 101] (gsN h 101 [.inr (1, xblk 1)] sl) = some (.inl none, gsN h 101 (gplR 4) (sl + 171)) := by
  rw [n_pond0 (by omega)]
  have c1 : (.inl (0, 144, .inl (fun _ => 0)) : xC) = rnC (zpc 4 zP0 1) := by
    show _ = Sum.inl (0, 144, Sum.inl (ztr 144 zP0.1))
    rw [show zP0.1 = fun _ => 0 from rfl, ztr_0]
  have c2 : (.inl (0, 3, .inl (upd (upd (upd (fun _ => 0) 0 (nI 2)) 1 (nI 3)) 2 (nI 2))) : xC) = rnC (zpc 4 zP0 2) := by
    show _ = Sum.inl (0, 3, Sum.inl (ztr 3 zP0.2.1))
    congr 4
    funext j
    match j with
    | 0 => rfl
    | 1 => rfl
    | 2 => rfl
    | j + 3 =>
      unfold ztr
      rw [if_neg (by omega), upd_n _ _ (by omega), upd_n _ _ (by omega), upd_n _ _ (by omega)]
  have c3 : (.inl (3, 3, .inr (.inr (.inr (.inr (va_up (va_up (va_up (fun _ => none) 0 (some (101 + 4))) 1 (some (101 + 5))) 2 (some (101 + 6))))))) : xC) = rnC (zpc 4 zP0 3) := by
    show _ = Sum.inl (3, 3, Sum.inr (Sum.inr (Sum.inr (Sum.inr (fun j => (zskr 4 j).map zsw)))))
    congr 7
    funext j
    match j with
    | 0 => rfl
    | 1 => rfl
    | 2 => rfl
    | j + 3 =>
      unfold zskr va_up
      rw [if_neg (by omega), if_neg (by omega), if_neg (by omega), if_neg (by omega)]
      rfl
  unfold gplR
  rw [← c1, ← c2, ← c3]
  rfl
theorem n_pondR_5 : xC1 mX2_init [.ref 108] (gsN h 108 [.inr (1, xblk 1)] sl) = some (.inl none, gsN h 108 (gplR 5) (sl + 171)) := by
  rw [n_pond0 (by omega)]
  have c1 : (.inl (0, 144, .inl (fun _ => 0)) : xC) = rnC (zpc 5 zP0 1) := by
    show _ = Sum.inl (0, 144, Sum.inl (ztr 144 zP0.1))
    rw [show zP0.1 = fun _ => 0 from rfl, ztr_0]
  have c2 : (.inl (0, 3, .inl (upd (upd (upd (fun _ => 0) 0 (nI 2)) 1 (nI 3)) 2 (nI 2))) : xC) = rnC (zpc 5 zP0 2) := by
    show _ = Sum.inl (0, 3, Sum.inl (ztr 3 zP0.2.1))
    congr 4
    funext j
    match j with
    | 0 => rfl
    | 1 => rfl
    | 2 => rfl
    | j + 3 =>
      unfold ztr
      rw [if_neg (by omega), upd_n _ _ (by omega), upd_n _ _ (by omega), upd_n _ _ (by omega)]
  have c3 : (.inl (3, 3, .inr (.inr (.inr (.inr (va_up (va_up (va_up (fun _ => none) 0 (some (108 + 4))) 1 (some (108 + 5))) 2 (some (108 + 6))))))) : xC) = rnC (zpc 5 zP0 3) := by
    show _ = Sum.inl (3, 3, Sum.inr (Sum.inr (Sum.inr (Sum.inr (fun j => (zskr 5 j).map zsw)))))
    congr 7
    funext j
    match j with
    | 0 => rfl
    | 1 => rfl
    | 2 => rfl
    | j + 3 =>
      unfold zskr va_up
      rw [if_neg (by omega), if_neg (by omega), if_neg (by omega), if_neg (by omega)]
      rfl
  unfold gplR
  rw [← c1, ← c2, ← c3]
  rfl
theorem n_pondR_6 : xC1 mX2_init [.ref 115] (gsN h 115 [.inr (1, xblk 1)] sl) = some (.inl none, gsN h 115 (gplR 6) (sl + 171)) := by
  rw [n_pond0 (by omega)]
  have c1 : (.inl (0, 144, .inl (fun _ => 0)) : xC) = rnC (zpc 6 zP0 1) := by
    show _ = Sum.inl (0, 144, Sum.inl (ztr 144 zP0.1))
    rw [show zP0.1 = fun _ => 0 from rfl, ztr_0]
  have c2 : (.inl (0, 3, .inl (upd (upd (upd (fun _ => 0) 0 (nI 2)) 1 (nI 3)) 2 (nI 2))) : xC) = rnC (zpc 6 zP0 2) := by
    show _ = Sum.inl (0, 3, Sum.inl (ztr 3 zP0.2.1))
    congr 4
    funext j
    match j with
    | 0 => rfl
    | 1 => rfl
    | 2 => rfl
    | j + 3 =>
      unfold ztr
      rw [if_neg (by omega), upd_n _ _ (by omega), upd_n _ _ (by omega), upd_n _ _ (by omega)]
  have c3 : (.inl (3, 3, .inr (.inr (.inr (.inr (va_up (va_up (va_up (fun _ => none) 0 (some (115 + 4))) 1 (some (115 + 5))) 2 (some (115 + 6))))))) : xC) = rnC (zpc 6 zP0 3) := by
    show _ = Sum.inl (3, 3, Sum.inr (Sum.inr (Sum.inr (Sum.inr (fun j => (zskr 6 j).map zsw)))))
    congr 7
    funext j
    match j with
    | 0 => rfl
    | 1 => rfl
    | 2 => rfl
    | j + 3 =>
      unfold zskr va_up
      rw [if_neg (by omega), if_neg (by omega), if_neg (by omega), if_neg (by omega)]
      rfl
  unfold gplR
  rw [← c1, ← c2, ← c3]
  rfl
theorem n_pondR_7 : xC1 mX2_init [.ref 122] (gsN h 122 [.inr (1, xblk 1)] sl) = some (.inl none, gsN h 122 (gplR 7) (sl + 171)) := by
  rw [n_pond0 (by omega)]
  have c1 : (.inl (0, 144, .inl (fun _ => 0)) : xC) = rnC (zpc 7 zP0 1) := by
    show _ = Sum.inl (0, 144, Sum.inl (ztr 144 zP0.1))
    rw [show zP0.1 = fun _ => 0 from rfl, ztr_0]
  have c2 : (.inl (0, 3, .inl (upd (upd (upd (fun _ => 0) 0 (nI 2)) 1 (nI 3)) 2 (nI 2))) : xC) = rnC (zpc 7 zP0 2) := by
    show _ = Sum.inl (0, 3, Sum.inl (ztr 3 zP0.2.1))
    congr 4
    funext j
    match j with
    | 0 => rfl
    | 1 => rfl
    | 2 => rfl
    | j + 3 =>
      unfold ztr
      rw [if_neg (by omega), upd_n _ _ (by omega), upd_n _ _ (by omega), upd_n _ _ (by omega)]
  have c3 : (.inl (3, 3, .inr (.inr (.inr (.inr (va_up (va_up (va_up (fun _ => none) 0 (some (122 + 4))) 1 (some (122 + 5))) 2 (some (122 + 6))))))) : xC) = rnC (zpc 7 zP0 3) := by
    show _ = Sum.inl (3, 3, Sum.inr (Sum.inr (Sum.inr (Sum.inr (fun j => (zskr 7 j).map zsw)))))
    congr 7
    funext j
    match j with
    | 0 => rfl
    | 1 => rfl
    | 2 => rfl
    | j + 3 =>
      unfold zskr va_up
      rw [if_neg (by omega), if_neg (by omega), if_neg (by omega), if_neg (by omega)]
      rfl
  unfold gplR
  rw [← c1, ← c2, ← c3]
  rfl
theorem n_pondR_8 : xC1 mX2_init [.ref 129] (gsN h 129 [.inr (1, xblk 1)] sl) = some (.inl none, gsN h 129 (gplR 8) (sl + 171)) := by
  rw [n_pond0 (by omega)]
  have c1 : (.inl (0, 144, .inl (fun _ => 0)) : xC) = rnC (zpc 8 zP0 1) := by
    show _ = Sum.inl (0, 144, Sum.inl (ztr 144 zP0.1))
    rw [show zP0.1 = fun _ => 0 from rfl, ztr_0]
  have c2 : (.inl (0, 3, .inl (upd (upd (upd (fun _ => 0) 0 (nI 2)) 1 (nI 3)) 2 (nI 2))) : xC) = rnC (zpc 8 zP0 2) := by
    show _ = Sum.inl (0, 3, Sum.inl (ztr 3 zP0.2.1))
    congr 4
    funext j
    match j with
    | 0 => rfl
    | 1 => rfl
    | 2 => rfl
    | j + 3 =>
      unfold ztr
      rw [if_neg (by omega), upd_n _ _ (by omega), upd_n _ _ (by omega), upd_n _ _ (by omega)]
  have c3 : (.inl (3, 3, .inr (.inr (.inr (.inr (va_up (va_up (va_up (fun _ => none) 0 (some (129 + 4))) 1 (some (129 + 5))) 2 (some (129 + 6))))))) : xC) = rnC (zpc 8 zP0 3) := by
    show _ = Sum.inl (3, 3, Sum.inr (Sum.inr (Sum.inr (Sum.inr (fun j => (zskr 8 j).map zsw)))))
    congr 7
    funext j
    match j with
    | 0 => rfl
    | 1 => rfl
    | 2 => rfl
    | j + 3 =>
      unfold zskr va_up
      rw [if_neg (by omega), if_neg (by omega), if_neg (by omega), if_neg (by omega)]
      rfl
  unfold gplR
  rw [← c1, ← c2, ← c3]
  rfl
theorem n_saved : xC1 mX4_init [.ref 22] (gsN h 22 [.inr (3, xblk 3)] sl) = some (.inl none, gsN (gsL (gsL (gsL (gsL (gsL (gsL (gsL h 22 [.inr (3, [.ref 23, .int (nI 0), .int (nI 0)])]) 23 [.inl (2, 6, .inr (.inr (.inr (.inr (va_up (va_up (va_up (va_up (va_up (va_up (fun _ => none) 0 (some 24)) 1 (some 31)) 2 (some 38)) 3 (some 45)) 4 (some 52)) 5 (some 59))))))]) 24 (gpl 3)) 31 (gpl 4)) 38 (gpl 5)) 45 (gpl 6)) 52 (gpl 7)) 59 (gpl 8) (sl + 6 + 10 + 171 + 10 + 171 + 10 + 171 + 10 + 171 + 10 + 171 + 10 + 171)) := by
  simp (disch := first | omega | (simp only [List.length_cons, List.length_nil]; omega) | rfl) only [e_X4_init, r_X4_init_0, r_X4_init_1, r_X4_init_4, r_X4_init_5, r_X4_init_7, r_X4_init_10, r_X4_init_13, r_X4_init_14, r_X4_init_15, r_X4_init_16, r_X4_init_18, r_X4_init_21, r_X4_init_22, r_X4_init_25, r_X4_init_26, r_X4_init_29A, r_X4_init_29I, r_X4_init_30, r_X4_init_33, r_X4_init_34, r_X4_init_37, r_X4_init_40, r_X4_init_41, r_X4_init_42, r_X4_init_45, r_X4_init_46, r_X4_init_47, r_X4_init_50, ↓glI0, ↓glL0, ↓glF0, ↓glD0, ↓glA0, ↓glI1, ↓glL1, ↓glF1, ↓glD1, ↓glA1, ↓glI2, ↓glL2, ↓glF2, ↓glD2, ↓glA2, ↓glI3, ↓glL3, ↓glF3, ↓glD3, ↓glA3, ↓glI4, ↓glL4, ↓glF4, ↓glD4, ↓glA4, ↓glI5, ↓glL5, ↓glF5, ↓glD5, ↓glA5, ↓glI6, ↓glL6, ↓glF6, ↓glD6, ↓glA6, ↓glI7, ↓glL7, ↓glF7, ↓glD7, ↓glA7, ↓glI8, ↓glL8, ↓glF8, ↓glD8, ↓glA8, ↓glI9, ↓glL9, ↓glF9, ↓glD9, ↓glA9, ↓glI10, ↓glL10, ↓glF10, ↓glD10, ↓glA10, ↓glI11, ↓glL11, ↓glF11, ↓glD11, ↓glA11, ↓glI12, ↓glL12, ↓glF12, ↓glD12, ↓glA12, ↓glI13, ↓glL13, ↓glF13, ↓glD13, ↓glA13, ↓glI14, ↓glL14, ↓glF14, ↓glD14, ↓glA14, ↓glI15, ↓glL15, ↓glF15, ↓glD15, ↓glA15, ↓glI16, ↓glL16, ↓glF16, ↓glD16, ↓glA16, ↓glI17, ↓glL17, ↓glF17, ↓glD17, ↓glA17, ↓glI18, ↓glL18, ↓glF18, ↓glD18, ↓glA18, ↓glI19, ↓glL19, ↓glF19, ↓glD19, ↓glA19, ↓glI20, ↓glL20, ↓glF20, ↓glD20, ↓glA20, ↓glI21, ↓glL21, ↓glF21, ↓glD21, ↓glA21, ↓glI22, ↓glL22, ↓glF22, ↓glD22, ↓glA22, ↓glI23, ↓glL23, ↓glF23, ↓glD23, ↓glA23, ↓glI24, ↓glL24, ↓glF24, ↓glD24, ↓glA24, ↓bs0, ↓bs1, ↓bs2, ↓bs3, ↓bs4, ↓bs5, ↓bs6, ↓bs7, ↓bs8, ↓bs9, ↓bs10, ↓bs11, ↓bs12, ↓bs13, ↓bs14, ↓bs15, ↓bs16, ↓bs17, ↓bs18, ↓bs19, ↓bs20, ↓bs21, ↓bs22, ↓bs23, ↓bs24, ↓bw0, ↓bw1, ↓bw2, ↓bw3, ↓bw4, ↓bw5, ↓bw6, ↓bw7, ↓bw8, ↓bw9, ↓bw10, ↓bw11, ↓bw13, ↓bw14, ↓bw15, ↓bw16, ↓bw17, ↓bw18, ↓bw19, ↓bw20, ↓bw21, ↓bw22, ↓bw23, ↓bw24, lk0, lkI, lkA, lkL, lkD, lkF, gI1, gL1, gF1, gD1, gA1, xw0, xwI, xwA, xwL, xwD, xwF, vtS, vtN, Option.bind_some, true_or, or_true, ↓reduceIte, if_true, if_false, yC_s, yV_s, Nat.reduceAdd, Nat.reduceLeDiff, Nat.zero_le, not_true_eq_false, not_false_eq_true, eq_self, true_and, and_true, nI_add, pk_mul, nI_clamp, pk_sub, pk_div, zmod, zn_m1, zn_leT, zn_leF, zn_ltT, zn_ltF, zn_eqF, zn_in, zn_0le, zn_nlt0, zn_pos, zn_npos, zn_le0F, zn_le0T, zn_0F, zn_0T, nI_0i, zq_lt0, zq_le0, zq_0le, zq_11, bI_eq0c, bI_01c, zm_lt0, zm_0le, zm_ne, zm_ne2, zm_le0, bI_eq0, bI_ne0, zfit_b, zfit_0, zfit_1, z01_0, z01_1, Bool.false_eq_true, Bool.true_eq_false, Nat.zero_add, ztr_lt, Nat.add_zero, Nat.reduceMul, zms_s, zms_n, zms_zms, zso_1_0, zso_2_0, zso_2_1, zso_3_0, zso_3_1, zso_3_2, zso_4_0, zso_4_1, zso_4_2, zso_4_3, zso_5_0, zso_5_1, zso_5_2, zso_5_3, zso_5_4, zso_6_0, zso_6_1, zso_6_2, zso_6_3, zso_6_4, zso_6_5, zso_7_0, zso_7_1, zso_7_2, zso_7_3, zso_7_4, zso_7_5, zso_7_6, zso_8_0, zso_8_1, zso_8_2, zso_8_3, zso_8_4, zso_8_5, zso_8_6, zso_8_7, zcp_s, zcp_n, zcp_zcp, zcp_2, upd_s, upd_n, updL_s, updL_n, zsS_1, zsS_2, zsS_3, zsS_4, zsL_1, zsL_2, zsL_3, zsL_4, bI_01b, yw_X0_placeBehind_1_0, yw_X0_placeBehind_1_1, yw_X0_placeBehind_1_2, yw_X0_placeBehind_1_3, yw_X0_placeBehind_1_4, yw_X1_leading_1_0, yw_X1_leading_1_1, yw_X1_leading_1_2, yw_X1_leading_1_3, yw_X1_leading_1_4, yw_X6_thawingCells_59_0, yw_X6_thawingCells_59_1, yw_X6_thawingCells_59_2, yw_X6_thawingCells_59_3, yw_X6_thawingCells_59_4, yw_X6_stateNumber_1_0, yw_X6_stateNumber_1_1, yw_X6_stateNumber_1_2, yw_X6_stateNumber_1_3, yw_X6_stateNumber_1_4, yw_X6_stateNumber_1_5, yw_X6_stateNumber_1_6, yw_X6_stateNumber_1_7, yw_X6_stateNumber_1_8, yw_X6_stateNumber_1_9, yw_X6_stateNumber_1_10, yw_X6_stateNumber_1_11, yw_X6_cellNumber_1_0, yw_X6_cellNumber_1_1, yw_X6_cellNumber_1_2, yw_X6_cellNumber_1_3, yw_X6_cellNumber_1_4, yw_X6_cellNumber_1_5, yw_X6_skaterNumber_11_0, yw_X6_skaterNumber_11_1, yw_X6_skaterNumber_11_2, yw_X6_skaterNumber_11_3, yw_X6_skaterNumber_11_4, yw_X6_skaterNumber_11_5, yw_X6_skaterNumber_11_6, yw_X6_skaterNumber_11_7, yw_X6_skaterNumber_11_8, yw_X6_ifGlided_77_0, yw_X6_ifGlided_77_1, yw_X6_ifGlided_77_2, yw_X6_ifGlided_77_3, zk_p, zk_s, zk_0, zk_22, zk_66, zk_68, zskr_k, zpor_k, zu_W, zu_Wc, zu_T, zu_Tc, zu_67, zu_69, ↓zb_q_W, ↓zb_q_T, ↓zb_q_K, ↓zb_q_23, ↓zb_q_67, ↓zb_q_69, ↓zb_f_p0, ↓zb_g_p0, ↓zb_f_p1, ↓zb_g_p1, ↓zb_f_p2, ↓zb_g_p2, ↓zb_f_p3, ↓zb_f_p4, ↓zb_f_p5, ↓zb_f_p6, ↓zb_g_p6, ↓zb_f_p7, ↓zb_g_p7, ↓zb_f_p8, ↓zb_g_p8, ↓zb_f_p9, ↓zb_g_p9, ↓zb_f_s0, ↓zb_g_s0, ↓zb_f_s1, ↓zb_g_s1, ↓zb_f_s2, ↓zb_g_s2, ↓zb_f_s3, ↓zb_g_s3, ↓zb_f_s4, ↓zb_g_s4, ↓zb_f_s5, ↓zb_g_s5, ↓zb_f_s6, ↓zb_g_s6, ↓zb_f_c0, ↓zb_f_c1, ↓zb_f_c2, ↓zb_f_c3, ↓zb_f_c4, ↓zb_f_c5, ↓zb_f_c6, ↓zb_g_c6, ↓zb_f_d0, ↓zb_f_d1, ↓zb_g_d1, ↓zb_f_d2, ↓zb_g_d2, ↓zb_f_t0, ↓zb_f_t1, ↓zb_g_t1, ↓zb_f_j0, gsN_g, gsN_p, List.cons_append, List.nil_append, List.length_cons, List.length_nil, glo_fst, glo_fld, glo_int, glo_ref, glo_cls, gsN_1, gsL_k, gsL_z, ghup_k, ghup_z, List.set_cons_succ, List.set_cons_zero, List.getElem?_cons_succ, List.getElem?_cons_zero, nI_nn, gfst_o, gfld_o, gcls_o, gint_a, gref_a, lt_T, Option.map_some, xe4, xe1, ghnew_n, ghup_b, gsT_b, gsT_z, gsL_b, xb3, xl1, gpl_len, gsL_pl, gcls_pl, n_pond (i := 0) (a := 1) rfl (Nat.le_of_ble_eq_true rfl), n_pond (i := 1) (a := 8) rfl (Nat.le_of_ble_eq_true rfl), n_pond (i := 2) (a := 15) rfl (Nat.le_of_ble_eq_true rfl), n_pond (i := 3) (a := 24) rfl (Nat.le_of_ble_eq_true rfl), n_pond (i := 4) (a := 31) rfl (Nat.le_of_ble_eq_true rfl), n_pond (i := 5) (a := 38) rfl (Nat.le_of_ble_eq_true rfl), n_pond (i := 6) (a := 45) rfl (Nat.le_of_ble_eq_true rfl), n_pond (i := 7) (a := 52) rfl (Nat.le_of_ble_eq_true rfl), n_pond (i := 8) (a := 59) rfl (Nat.le_of_ble_eq_true rfl)]
def zcl (h : Nat → Option xC) : Nat → Option xC := (gsL (gsL (gsL (gsL (gsL (gsL (gsL (gsL (gsL (gsL (gsL (gsL (gsL (gsL (gsL h 0 [.inr (5, [.ref 1, .ref 8, .ref 15, .ref 22, .ref 66, .ref 68, .int (nI 0)])]) 1 (gpl 0)) 8 (gpl 1)) 15 (gpl 2)) 22 [.inr (3, [.ref 23, .int (nI 0), .int (nI 0)])]) 23 [.inl (2, 6, .inr (.inr (.inr (.inr (va_up (va_up (va_up (va_up (va_up (va_up (fun _ => none) 0 (some 24)) 1 (some 31)) 2 (some 38)) 3 (some 45)) 4 (some 52)) 5 (some 59))))))]) 24 (gpl 3)) 31 (gpl 4)) 38 (gpl 5)) 45 (gpl 6)) 52 (gpl 7)) 59 (gpl 8)) 66 [.inr (0, [.ref 67, .int (nI 0)])]) 67 [.inl (0, 60, .inl (fun _ => 0))]) 68 [.inr (2, [.ref 69])])
theorem n_class : xC1 mX6_init [.ref 0] (gsN h 0 [.inr (5, xblk 5)] sl) = some (.inl none, gsN (zcl h) 69 [.inl (0, 64, .inl (fun _ => nI 0))] (sl + 10 + 171 + 10 + 171 + 10 + 171 + 3 + 6 + 10 + 171 + 10 + 171 + 10 + 171 + 10 + 171 + 10 + 171 + 10 + 171 + 2 + 60 + 1 + 64)) := by
  unfold zcl
  simp (disch := first | omega | (simp only [List.length_cons, List.length_nil]; omega) | rfl) only [e_X6_init, r_X6_init_0, r_X6_init_1, r_X6_init_4, r_X6_init_5, r_X6_init_8A, r_X6_init_8I, r_X6_init_9, r_X6_init_12, r_X6_init_15, r_X6_init_16, r_X6_init_19A, r_X6_init_19I, r_X6_init_20, r_X6_init_23, r_X6_init_26, r_X6_init_27, r_X6_init_30A, r_X6_init_30I, r_X6_init_31, r_X6_init_34, r_X6_init_37, r_X6_init_38, r_X6_init_41A, r_X6_init_41I, r_X6_init_42, r_X6_init_45, r_X6_init_48, r_X6_init_49, r_X6_init_52A, r_X6_init_52I, r_X6_init_53, r_X6_init_56, r_X6_init_59, r_X6_init_60, r_X6_init_63A, r_X6_init_63I, r_X6_init_64, r_X6_init_67, r_X6_init_70, r_X6_init_71, r_X6_init_72, r_X6_init_75, e_X0_init, r_X0_init_0, r_X0_init_1, r_X0_init_4, r_X0_init_5, r_X0_init_7, r_X0_init_9, r_X0_init_12, r_X0_init_13, r_X0_init_14, r_X0_init_17, e_X3_init, r_X3_init_0, r_X3_init_1, r_X3_init_4, r_X3_init_5, r_X3_init_7, r_X3_init_9, r_X3_init_12, ↓glI0, ↓glL0, ↓glF0, ↓glD0, ↓glA0, ↓glI1, ↓glL1, ↓glF1, ↓glD1, ↓glA1, ↓glI2, ↓glL2, ↓glF2, ↓glD2, ↓glA2, ↓glI3, ↓glL3, ↓glF3, ↓glD3, ↓glA3, ↓glI4, ↓glL4, ↓glF4, ↓glD4, ↓glA4, ↓glI5, ↓glL5, ↓glF5, ↓glD5, ↓glA5, ↓glI6, ↓glL6, ↓glF6, ↓glD6, ↓glA6, ↓glI7, ↓glL7, ↓glF7, ↓glD7, ↓glA7, ↓glI8, ↓glL8, ↓glF8, ↓glD8, ↓glA8, ↓glI9, ↓glL9, ↓glF9, ↓glD9, ↓glA9, ↓glI10, ↓glL10, ↓glF10, ↓glD10, ↓glA10, ↓glI11, ↓glL11, ↓glF11, ↓glD11, ↓glA11, ↓glI12, ↓glL12, ↓glF12, ↓glD12, ↓glA12, ↓glI13, ↓glL13, ↓glF13, ↓glD13, ↓glA13, ↓glI14, ↓glL14, ↓glF14, ↓glD14, ↓glA14, ↓glI15, ↓glL15, ↓glF15, ↓glD15, ↓glA15, ↓glI16, ↓glL16, ↓glF16, ↓glD16, ↓glA16, ↓glI17, ↓glL17, ↓glF17, ↓glD17, ↓glA17, ↓glI18, ↓glL18, ↓glF18, ↓glD18, ↓glA18, ↓glI19, ↓glL19, ↓glF19, ↓glD19, ↓glA19, ↓glI20, ↓glL20, ↓glF20, ↓glD20, ↓glA20, ↓glI21, ↓glL21, ↓glF21, ↓glD21, ↓glA21, ↓glI22, ↓glL22, ↓glF22, ↓glD22, ↓glA22, ↓glI23, ↓glL23, ↓glF23, ↓glD23, ↓glA23, ↓glI24, ↓glL24, ↓glF24, ↓glD24, ↓glA24, ↓bs0, ↓bs1, ↓bs2, ↓bs3, ↓bs4, ↓bs5, ↓bs6, ↓bs7, ↓bs8, ↓bs9, ↓bs10, ↓bs11, ↓bs12, ↓bs13, ↓bs14, ↓bs15, ↓bs16, ↓bs17, ↓bs18, ↓bs19, ↓bs20, ↓bs21, ↓bs22, ↓bs23, ↓bs24, ↓bw0, ↓bw1, ↓bw2, ↓bw3, ↓bw4, ↓bw5, ↓bw6, ↓bw7, ↓bw8, ↓bw9, ↓bw10, ↓bw11, ↓bw13, ↓bw14, ↓bw15, ↓bw16, ↓bw17, ↓bw18, ↓bw19, ↓bw20, ↓bw21, ↓bw22, ↓bw23, ↓bw24, lk0, lkI, lkA, lkL, lkD, lkF, gI1, gL1, gF1, gD1, gA1, xw0, xwI, xwA, xwL, xwD, xwF, vtS, vtN, Option.bind_some, true_or, or_true, ↓reduceIte, if_true, if_false, yC_s, yV_s, Nat.reduceAdd, Nat.reduceLeDiff, Nat.zero_le, not_true_eq_false, not_false_eq_true, eq_self, true_and, and_true, nI_add, pk_mul, nI_clamp, pk_sub, pk_div, zmod, zn_m1, zn_leT, zn_leF, zn_ltT, zn_ltF, zn_eqF, zn_in, zn_0le, zn_nlt0, zn_pos, zn_npos, zn_le0F, zn_le0T, zn_0F, zn_0T, nI_0i, zq_lt0, zq_le0, zq_0le, zq_11, bI_eq0c, bI_01c, zm_lt0, zm_0le, zm_ne, zm_ne2, zm_le0, bI_eq0, bI_ne0, zfit_b, zfit_0, zfit_1, z01_0, z01_1, Bool.false_eq_true, Bool.true_eq_false, Nat.zero_add, ztr_lt, Nat.add_zero, Nat.reduceMul, zms_s, zms_n, zms_zms, zso_1_0, zso_2_0, zso_2_1, zso_3_0, zso_3_1, zso_3_2, zso_4_0, zso_4_1, zso_4_2, zso_4_3, zso_5_0, zso_5_1, zso_5_2, zso_5_3, zso_5_4, zso_6_0, zso_6_1, zso_6_2, zso_6_3, zso_6_4, zso_6_5, zso_7_0, zso_7_1, zso_7_2, zso_7_3, zso_7_4, zso_7_5, zso_7_6, zso_8_0, zso_8_1, zso_8_2, zso_8_3, zso_8_4, zso_8_5, zso_8_6, zso_8_7, zcp_s, zcp_n, zcp_zcp, zcp_2, upd_s, upd_n, updL_s, updL_n, zsS_1, zsS_2, zsS_3, zsS_4, zsL_1, zsL_2, zsL_3, zsL_4, bI_01b, yw_X0_placeBehind_1_0, yw_X0_placeBehind_1_1, yw_X0_placeBehind_1_2, yw_X0_placeBehind_1_3, yw_X0_placeBehind_1_4, yw_X1_leading_1_0, yw_X1_leading_1_1, yw_X1_leading_1_2, yw_X1_leading_1_3, yw_X1_leading_1_4, yw_X6_thawingCells_59_0, yw_X6_thawingCells_59_1, yw_X6_thawingCells_59_2, yw_X6_thawingCells_59_3, yw_X6_thawingCells_59_4, yw_X6_stateNumber_1_0, yw_X6_stateNumber_1_1, yw_X6_stateNumber_1_2, yw_X6_stateNumber_1_3, yw_X6_stateNumber_1_4, yw_X6_stateNumber_1_5, yw_X6_stateNumber_1_6, yw_X6_stateNumber_1_7, yw_X6_stateNumber_1_8, yw_X6_stateNumber_1_9, yw_X6_stateNumber_1_10, yw_X6_stateNumber_1_11, yw_X6_cellNumber_1_0, yw_X6_cellNumber_1_1, yw_X6_cellNumber_1_2, yw_X6_cellNumber_1_3, yw_X6_cellNumber_1_4, yw_X6_cellNumber_1_5, yw_X6_skaterNumber_11_0, yw_X6_skaterNumber_11_1, yw_X6_skaterNumber_11_2, yw_X6_skaterNumber_11_3, yw_X6_skaterNumber_11_4, yw_X6_skaterNumber_11_5, yw_X6_skaterNumber_11_6, yw_X6_skaterNumber_11_7, yw_X6_skaterNumber_11_8, yw_X6_ifGlided_77_0, yw_X6_ifGlided_77_1, yw_X6_ifGlided_77_2, yw_X6_ifGlided_77_3, zk_p, zk_s, zk_0, zk_22, zk_66, zk_68, zskr_k, zpor_k, zu_W, zu_Wc, zu_T, zu_Tc, zu_67, zu_69, ↓zb_q_W, ↓zb_q_T, ↓zb_q_K, ↓zb_q_23, ↓zb_q_67, ↓zb_q_69, ↓zb_f_p0, ↓zb_g_p0, ↓zb_f_p1, ↓zb_g_p1, ↓zb_f_p2, ↓zb_g_p2, ↓zb_f_p3, ↓zb_f_p4, ↓zb_f_p5, ↓zb_f_p6, ↓zb_g_p6, ↓zb_f_p7, ↓zb_g_p7, ↓zb_f_p8, ↓zb_g_p8, ↓zb_f_p9, ↓zb_g_p9, ↓zb_f_s0, ↓zb_g_s0, ↓zb_f_s1, ↓zb_g_s1, ↓zb_f_s2, ↓zb_g_s2, ↓zb_f_s3, ↓zb_g_s3, ↓zb_f_s4, ↓zb_g_s4, ↓zb_f_s5, ↓zb_g_s5, ↓zb_f_s6, ↓zb_g_s6, ↓zb_f_c0, ↓zb_f_c1, ↓zb_f_c2, ↓zb_f_c3, ↓zb_f_c4, ↓zb_f_c5, ↓zb_f_c6, ↓zb_g_c6, ↓zb_f_d0, ↓zb_f_d1, ↓zb_g_d1, ↓zb_f_d2, ↓zb_g_d2, ↓zb_f_t0, ↓zb_f_t1, ↓zb_g_t1, ↓zb_f_j0, gsN_g, gsN_p, List.cons_append, List.nil_append, List.length_cons, List.length_nil, glo_fst, glo_fld, glo_int, glo_ref, glo_cls, gsN_1, gsL_k, gsL_z, ghup_k, ghup_z, List.set_cons_succ, List.set_cons_zero, List.getElem?_cons_succ, List.getElem?_cons_zero, nI_nn, gfst_o, gfld_o, gcls_o, gint_a, gref_a, lt_T, Option.map_some, xe4, xe1, ghnew_n, ghup_b, gsT_b, gsT_z, gsL_b, xb5, xb0, xb2, xl0, xl1, xl2, xl3, gpl_len, n_saved, n_pond (i := 0) (a := 1) rfl (Nat.le_of_ble_eq_true rfl), n_pond (i := 1) (a := 8) rfl (Nat.le_of_ble_eq_true rfl), n_pond (i := 2) (a := 15) rfl (Nat.le_of_ble_eq_true rfl), n_pond (i := 3) (a := 24) rfl (Nat.le_of_ble_eq_true rfl), n_pond (i := 4) (a := 31) rfl (Nat.le_of_ble_eq_true rfl), n_pond (i := 5) (a := 38) rfl (Nat.le_of_ble_eq_true rfl), n_pond (i := 6) (a := 45) rfl (Nat.le_of_ble_eq_true rfl), n_pond (i := 7) (a := 52) rfl (Nat.le_of_ble_eq_true rfl), n_pond (i := 8) (a := 59) rfl (Nat.le_of_ble_eq_true rfl)]
theorem n_savedR : xC1 mX4_init [.ref 92] (gsN h 92 [.inr (3, xblk 3)] sl) = some (.inl none, gsN (gsL (gsL (gsL (gsL (gsL (gsL (gsL h 92 [.inr (3, [.ref 93, .int (nI 0), .int (nI 0)])]) 93 [.inl (2, 6, .inr (.inr (.inr (.inr (va_up (va_up (va_up (va_up (va_up (va_up (fun _ => none) 0 (some 94)) 1 (some 101)) 2 (some 108)) 3 (some 115)) 4 (some 122)) 5 (some 129))))))]) 94 (gplR 3)) 101 (gplR 4)) 108 (gplR 5)) 115 (gplR 6)) 122 (gplR 7)) 129 (gplR 8) (sl + 6 + 10 + 171 + 10 + 171 + 10 + 171 + 10 + 171 + 10 + 171 + 10 + 171)) := by
  simp (disch := first | omega | (simp only [List.length_cons, List.length_nil]; omega) | rfl) only [e_X4_init, r_X4_init_0, r_X4_init_1, r_X4_init_4, r_X4_init_5, r_X4_init_7, r_X4_init_10, r_X4_init_13, r_X4_init_14, r_X4_init_15, r_X4_init_16, r_X4_init_18, r_X4_init_21, r_X4_init_22, r_X4_init_25, r_X4_init_26, r_X4_init_29A, r_X4_init_29I, r_X4_init_30, r_X4_init_33, r_X4_init_34, r_X4_init_37, r_X4_init_40, r_X4_init_41, r_X4_init_42, r_X4_init_45, r_X4_init_46, r_X4_init_47, r_X4_init_50, ↓glI0, ↓glL0, ↓glF0, ↓glD0, ↓glA0, ↓glI1, ↓glL1, ↓glF1, ↓glD1, ↓glA1, ↓glI2, ↓glL2, ↓glF2, ↓glD2, ↓glA2, ↓glI3, ↓glL3, ↓glF3, ↓glD3, ↓glA3, ↓glI4, ↓glL4, ↓glF4, ↓glD4, ↓glA4, ↓glI5, ↓glL5, ↓glF5, ↓glD5, ↓glA5, ↓glI6, ↓glL6, ↓glF6, ↓glD6, ↓glA6, ↓glI7, ↓glL7, ↓glF7, ↓glD7, ↓glA7, ↓glI8, ↓glL8, ↓glF8, ↓glD8, ↓glA8, ↓glI9, ↓glL9, ↓glF9, ↓glD9, ↓glA9, ↓glI10, ↓glL10, ↓glF10, ↓glD10, ↓glA10, ↓glI11, ↓glL11, ↓glF11, ↓glD11, ↓glA11, ↓glI12, ↓glL12, ↓glF12, ↓glD12, ↓glA12, ↓glI13, ↓glL13, ↓glF13, ↓glD13, ↓glA13, ↓glI14, ↓glL14, ↓glF14, ↓glD14, ↓glA14, ↓glI15, ↓glL15, ↓glF15, ↓glD15, ↓glA15, ↓glI16, ↓glL16, ↓glF16, ↓glD16, ↓glA16, ↓glI17, ↓glL17, ↓glF17, ↓glD17, ↓glA17, ↓glI18, ↓glL18, ↓glF18, ↓glD18, ↓glA18, ↓glI19, ↓glL19, ↓glF19, ↓glD19, ↓glA19, ↓glI20, ↓glL20, ↓glF20, ↓glD20, ↓glA20, ↓glI21, ↓glL21, ↓glF21, ↓glD21, ↓glA21, ↓glI22, ↓glL22, ↓glF22, ↓glD22, ↓glA22, ↓glI23, ↓glL23, ↓glF23, ↓glD23, ↓glA23, ↓glI24, ↓glL24, ↓glF24, ↓glD24, ↓glA24, ↓bs0, ↓bs1, ↓bs2, ↓bs3, ↓bs4, ↓bs5, ↓bs6, ↓bs7, ↓bs8, ↓bs9, ↓bs10, ↓bs11, ↓bs12, ↓bs13, ↓bs14, ↓bs15, ↓bs16, ↓bs17, ↓bs18, ↓bs19, ↓bs20, ↓bs21, ↓bs22, ↓bs23, ↓bs24, ↓bw0, ↓bw1, ↓bw2, ↓bw3, ↓bw4, ↓bw5, ↓bw6, ↓bw7, ↓bw8, ↓bw9, ↓bw10, ↓bw11, ↓bw13, ↓bw14, ↓bw15, ↓bw16, ↓bw17, ↓bw18, ↓bw19, ↓bw20, ↓bw21, ↓bw22, ↓bw23, ↓bw24, lk0, lkI, lkA, lkL, lkD, lkF, gI1, gL1, gF1, gD1, gA1, xw0, xwI, xwA, xwL, xwD, xwF, vtS, vtN, Option.bind_some, true_or, or_true, ↓reduceIte, if_true, if_false, yC_s, yV_s, Nat.reduceAdd, Nat.reduceLeDiff, Nat.zero_le, not_true_eq_false, not_false_eq_true, eq_self, true_and, and_true, nI_add, pk_mul, nI_clamp, pk_sub, pk_div, zmod, zn_m1, zn_leT, zn_leF, zn_ltT, zn_ltF, zn_eqF, zn_in, zn_0le, zn_nlt0, zn_pos, zn_npos, zn_le0F, zn_le0T, zn_0F, zn_0T, nI_0i, zq_lt0, zq_le0, zq_0le, zq_11, bI_eq0c, bI_01c, zm_lt0, zm_0le, zm_ne, zm_ne2, zm_le0, bI_eq0, bI_ne0, zfit_b, zfit_0, zfit_1, z01_0, z01_1, Bool.false_eq_true, Bool.true_eq_false, Nat.zero_add, ztr_lt, Nat.add_zero, Nat.reduceMul, zms_s, zms_n, zms_zms, zso_1_0, zso_2_0, zso_2_1, zso_3_0, zso_3_1, zso_3_2, zso_4_0, zso_4_1, zso_4_2, zso_4_3, zso_5_0, zso_5_1, zso_5_2, zso_5_3, zso_5_4, zso_6_0, zso_6_1, zso_6_2, zso_6_3, zso_6_4, zso_6_5, zso_7_0, zso_7_1, zso_7_2, zso_7_3, zso_7_4, zso_7_5, zso_7_6, zso_8_0, zso_8_1, zso_8_2, zso_8_3, zso_8_4, zso_8_5, zso_8_6, zso_8_7, zcp_s, zcp_n, zcp_zcp, zcp_2, upd_s, upd_n, updL_s, updL_n, zsS_1, zsS_2, zsS_3, zsS_4, zsL_1, zsL_2, zsL_3, zsL_4, bI_01b, yw_X0_placeBehind_1_0, yw_X0_placeBehind_1_1, yw_X0_placeBehind_1_2, yw_X0_placeBehind_1_3, yw_X0_placeBehind_1_4, yw_X1_leading_1_0, yw_X1_leading_1_1, yw_X1_leading_1_2, yw_X1_leading_1_3, yw_X1_leading_1_4, yw_X6_thawingCells_59_0, yw_X6_thawingCells_59_1, yw_X6_thawingCells_59_2, yw_X6_thawingCells_59_3, yw_X6_thawingCells_59_4, yw_X6_stateNumber_1_0, yw_X6_stateNumber_1_1, yw_X6_stateNumber_1_2, yw_X6_stateNumber_1_3, yw_X6_stateNumber_1_4, yw_X6_stateNumber_1_5, yw_X6_stateNumber_1_6, yw_X6_stateNumber_1_7, yw_X6_stateNumber_1_8, yw_X6_stateNumber_1_9, yw_X6_stateNumber_1_10, yw_X6_stateNumber_1_11, yw_X6_cellNumber_1_0, yw_X6_cellNumber_1_1, yw_X6_cellNumber_1_2, yw_X6_cellNumber_1_3, yw_X6_cellNumber_1_4, yw_X6_cellNumber_1_5, yw_X6_skaterNumber_11_0, yw_X6_skaterNumber_11_1, yw_X6_skaterNumber_11_2, yw_X6_skaterNumber_11_3, yw_X6_skaterNumber_11_4, yw_X6_skaterNumber_11_5, yw_X6_skaterNumber_11_6, yw_X6_skaterNumber_11_7, yw_X6_skaterNumber_11_8, yw_X6_ifGlided_77_0, yw_X6_ifGlided_77_1, yw_X6_ifGlided_77_2, yw_X6_ifGlided_77_3, zk_p, zk_s, zk_0, zk_22, zk_66, zk_68, zskr_k, zpor_k, zu_W, zu_Wc, zu_T, zu_Tc, zu_67, zu_69, ↓zb_q_W, ↓zb_q_T, ↓zb_q_K, ↓zb_q_23, ↓zb_q_67, ↓zb_q_69, ↓zb_f_p0, ↓zb_g_p0, ↓zb_f_p1, ↓zb_g_p1, ↓zb_f_p2, ↓zb_g_p2, ↓zb_f_p3, ↓zb_f_p4, ↓zb_f_p5, ↓zb_f_p6, ↓zb_g_p6, ↓zb_f_p7, ↓zb_g_p7, ↓zb_f_p8, ↓zb_g_p8, ↓zb_f_p9, ↓zb_g_p9, ↓zb_f_s0, ↓zb_g_s0, ↓zb_f_s1, ↓zb_g_s1, ↓zb_f_s2, ↓zb_g_s2, ↓zb_f_s3, ↓zb_g_s3, ↓zb_f_s4, ↓zb_g_s4, ↓zb_f_s5, ↓zb_g_s5, ↓zb_f_s6, ↓zb_g_s6, ↓zb_f_c0, ↓zb_f_c1, ↓zb_f_c2, ↓zb_f_c3, ↓zb_f_c4, ↓zb_f_c5, ↓zb_f_c6, ↓zb_g_c6, ↓zb_f_d0, ↓zb_f_d1, ↓zb_g_d1, ↓zb_f_d2, ↓zb_g_d2, ↓zb_f_t0, ↓zb_f_t1, ↓zb_g_t1, ↓zb_f_j0, gsN_g, gsN_p, List.cons_append, List.nil_append, List.length_cons, List.length_nil, glo_fst, glo_fld, glo_int, glo_ref, glo_cls, gsN_1, gsL_k, gsL_z, ghup_k, ghup_z, List.set_cons_succ, List.set_cons_zero, List.getElem?_cons_succ, List.getElem?_cons_zero, nI_nn, gfst_o, gfld_o, gcls_o, gint_a, gref_a, lt_T, Option.map_some, xe4, xe1, ghnew_n, ghup_b, gsT_b, gsT_z, gsL_b, xb3, xl1, gplR_len, gsL_plR, gcls_plR, n_pondR_0, n_pondR_1, n_pondR_2, n_pondR_3, n_pondR_4, n_pondR_5, n_pondR_6, n_pondR_7, n_pondR_8]
def zclR (h : Nat → Option xC) : Nat → Option xC := (gsL (gsL (gsL (gsL (gsL (gsL (gsL (gsL (gsL (gsL (gsL (gsL (gsL (gsL (gsL h 70 [.inr (5, [.ref 71, .ref 78, .ref 85, .ref 92, .ref 136, .ref 138, .int (nI 0)])]) 71 (gplR 0)) 78 (gplR 1)) 85 (gplR 2)) 92 [.inr (3, [.ref 93, .int (nI 0), .int (nI 0)])]) 93 [.inl (2, 6, .inr (.inr (.inr (.inr (va_up (va_up (va_up (va_up (va_up (va_up (fun _ => none) 0 (some 94)) 1 (some 101)) 2 (some 108)) 3 (some 115)) 4 (some 122)) 5 (some 129))))))]) 94 (gplR 3)) 101 (gplR 4)) 108 (gplR 5)) 115 (gplR 6)) 122 (gplR 7)) 129 (gplR 8)) 136 [.inr (0, [.ref 137, .int (nI 0)])]) 137 [.inl (0, 60, .inl (fun _ => 0))]) 138 [.inr (2, [.ref 139])])
theorem n_classR : xC1 mX6_init [.ref 70] (gsN h 70 [.inr (5, xblk 5)] sl) = some (.inl none, gsN (zclR h) 139 [.inl (0, 64, .inl (fun _ => nI 0))] (sl + 10 + 171 + 10 + 171 + 10 + 171 + 3 + 6 + 10 + 171 + 10 + 171 + 10 + 171 + 10 + 171 + 10 + 171 + 10 + 171 + 2 + 60 + 1 + 64)) := by
  unfold zclR
  simp (disch := first | omega | (simp only [List.length_cons, List.length_nil]; omega) | rfl) only [e_X6_init, r_X6_init_0, r_X6_init_1, r_X6_init_4, r_X6_init_5, r_X6_init_8A, r_X6_init_8I, r_X6_init_9, r_X6_init_12, r_X6_init_15, r_X6_init_16, r_X6_init_19A, r_X6_init_19I, r_X6_init_20, r_X6_init_23, r_X6_init_26, r_X6_init_27, r_X6_init_30A, r_X6_init_30I, r_X6_init_31, r_X6_init_34, r_X6_init_37, r_X6_init_38, r_X6_init_41A, r_X6_init_41I, r_X6_init_42, r_X6_init_45, r_X6_init_48, r_X6_init_49, r_X6_init_52A, r_X6_init_52I, r_X6_init_53, r_X6_init_56, r_X6_init_59, r_X6_init_60, r_X6_init_63A, r_X6_init_63I, r_X6_init_64, r_X6_init_67, r_X6_init_70, r_X6_init_71, r_X6_init_72, r_X6_init_75, e_X0_init, r_X0_init_0, r_X0_init_1, r_X0_init_4, r_X0_init_5, r_X0_init_7, r_X0_init_9, r_X0_init_12, r_X0_init_13, r_X0_init_14, r_X0_init_17, e_X3_init, r_X3_init_0, r_X3_init_1, r_X3_init_4, r_X3_init_5, r_X3_init_7, r_X3_init_9, r_X3_init_12, ↓glI0, ↓glL0, ↓glF0, ↓glD0, ↓glA0, ↓glI1, ↓glL1, ↓glF1, ↓glD1, ↓glA1, ↓glI2, ↓glL2, ↓glF2, ↓glD2, ↓glA2, ↓glI3, ↓glL3, ↓glF3, ↓glD3, ↓glA3, ↓glI4, ↓glL4, ↓glF4, ↓glD4, ↓glA4, ↓glI5, ↓glL5, ↓glF5, ↓glD5, ↓glA5, ↓glI6, ↓glL6, ↓glF6, ↓glD6, ↓glA6, ↓glI7, ↓glL7, ↓glF7, ↓glD7, ↓glA7, ↓glI8, ↓glL8, ↓glF8, ↓glD8, ↓glA8, ↓glI9, ↓glL9, ↓glF9, ↓glD9, ↓glA9, ↓glI10, ↓glL10, ↓glF10, ↓glD10, ↓glA10, ↓glI11, ↓glL11, ↓glF11, ↓glD11, ↓glA11, ↓glI12, ↓glL12, ↓glF12, ↓glD12, ↓glA12, ↓glI13, ↓glL13, ↓glF13, ↓glD13, ↓glA13, ↓glI14, ↓glL14, ↓glF14, ↓glD14, ↓glA14, ↓glI15, ↓glL15, ↓glF15, ↓glD15, ↓glA15, ↓glI16, ↓glL16, ↓glF16, ↓glD16, ↓glA16, ↓glI17, ↓glL17, ↓glF17, ↓glD17, ↓glA17, ↓glI18, ↓glL18, ↓glF18, ↓glD18, ↓glA18, ↓glI19, ↓glL19, ↓glF19, ↓glD19, ↓glA19, ↓glI20, ↓glL20, ↓glF20, ↓glD20, ↓glA20, ↓glI21, ↓glL21, ↓glF21, ↓glD21, ↓glA21, ↓glI22, ↓glL22, ↓glF22, ↓glD22, ↓glA22, ↓glI23, ↓glL23, ↓glF23, ↓glD23, ↓glA23, ↓glI24, ↓glL24, ↓glF24, ↓glD24, ↓glA24, ↓bs0, ↓bs1, ↓bs2, ↓bs3, ↓bs4, ↓bs5, ↓bs6, ↓bs7, ↓bs8, ↓bs9, ↓bs10, ↓bs11, ↓bs12, ↓bs13, ↓bs14, ↓bs15, ↓bs16, ↓bs17, ↓bs18, ↓bs19, ↓bs20, ↓bs21, ↓bs22, ↓bs23, ↓bs24, ↓bw0, ↓bw1, ↓bw2, ↓bw3, ↓bw4, ↓bw5, ↓bw6, ↓bw7, ↓bw8, ↓bw9, ↓bw10, ↓bw11, ↓bw13, ↓bw14, ↓bw15, ↓bw16, ↓bw17, ↓bw18, ↓bw19, ↓bw20, ↓bw21, ↓bw22, ↓bw23, ↓bw24, lk0, lkI, lkA, lkL, lkD, lkF, gI1, gL1, gF1, gD1, gA1, xw0, xwI, xwA, xwL, xwD, xwF, vtS, vtN, Option.bind_some, true_or, or_true, ↓reduceIte, if_true, if_false, yC_s, yV_s, Nat.reduceAdd, Nat.reduceLeDiff, Nat.zero_le, not_true_eq_false, not_false_eq_true, eq_self, true_and, and_true, nI_add, pk_mul, nI_clamp, pk_sub, pk_div, zmod, zn_m1, zn_leT, zn_leF, zn_ltT, zn_ltF, zn_eqF, zn_in, zn_0le, zn_nlt0, zn_pos, zn_npos, zn_le0F, zn_le0T, zn_0F, zn_0T, nI_0i, zq_lt0, zq_le0, zq_0le, zq_11, bI_eq0c, bI_01c, zm_lt0, zm_0le, zm_ne, zm_ne2, zm_le0, bI_eq0, bI_ne0, zfit_b, zfit_0, zfit_1, z01_0, z01_1, Bool.false_eq_true, Bool.true_eq_false, Nat.zero_add, ztr_lt, Nat.add_zero, Nat.reduceMul, zms_s, zms_n, zms_zms, zso_1_0, zso_2_0, zso_2_1, zso_3_0, zso_3_1, zso_3_2, zso_4_0, zso_4_1, zso_4_2, zso_4_3, zso_5_0, zso_5_1, zso_5_2, zso_5_3, zso_5_4, zso_6_0, zso_6_1, zso_6_2, zso_6_3, zso_6_4, zso_6_5, zso_7_0, zso_7_1, zso_7_2, zso_7_3, zso_7_4, zso_7_5, zso_7_6, zso_8_0, zso_8_1, zso_8_2, zso_8_3, zso_8_4, zso_8_5, zso_8_6, zso_8_7, zcp_s, zcp_n, zcp_zcp, zcp_2, upd_s, upd_n, updL_s, updL_n, zsS_1, zsS_2, zsS_3, zsS_4, zsL_1, zsL_2, zsL_3, zsL_4, bI_01b, yw_X0_placeBehind_1_0, yw_X0_placeBehind_1_1, yw_X0_placeBehind_1_2, yw_X0_placeBehind_1_3, yw_X0_placeBehind_1_4, yw_X1_leading_1_0, yw_X1_leading_1_1, yw_X1_leading_1_2, yw_X1_leading_1_3, yw_X1_leading_1_4, yw_X6_thawingCells_59_0, yw_X6_thawingCells_59_1, yw_X6_thawingCells_59_2, yw_X6_thawingCells_59_3, yw_X6_thawingCells_59_4, yw_X6_stateNumber_1_0, yw_X6_stateNumber_1_1, yw_X6_stateNumber_1_2, yw_X6_stateNumber_1_3, yw_X6_stateNumber_1_4, yw_X6_stateNumber_1_5, yw_X6_stateNumber_1_6, yw_X6_stateNumber_1_7, yw_X6_stateNumber_1_8, yw_X6_stateNumber_1_9, yw_X6_stateNumber_1_10, yw_X6_stateNumber_1_11, yw_X6_cellNumber_1_0, yw_X6_cellNumber_1_1, yw_X6_cellNumber_1_2, yw_X6_cellNumber_1_3, yw_X6_cellNumber_1_4, yw_X6_cellNumber_1_5, yw_X6_skaterNumber_11_0, yw_X6_skaterNumber_11_1, yw_X6_skaterNumber_11_2, yw_X6_skaterNumber_11_3, yw_X6_skaterNumber_11_4, yw_X6_skaterNumber_11_5, yw_X6_skaterNumber_11_6, yw_X6_skaterNumber_11_7, yw_X6_skaterNumber_11_8, yw_X6_ifGlided_77_0, yw_X6_ifGlided_77_1, yw_X6_ifGlided_77_2, yw_X6_ifGlided_77_3, zk_p, zk_s, zk_0, zk_22, zk_66, zk_68, zskr_k, zpor_k, zu_W, zu_Wc, zu_T, zu_Tc, zu_67, zu_69, ↓zb_q_W, ↓zb_q_T, ↓zb_q_K, ↓zb_q_23, ↓zb_q_67, ↓zb_q_69, ↓zb_f_p0, ↓zb_g_p0, ↓zb_f_p1, ↓zb_g_p1, ↓zb_f_p2, ↓zb_g_p2, ↓zb_f_p3, ↓zb_f_p4, ↓zb_f_p5, ↓zb_f_p6, ↓zb_g_p6, ↓zb_f_p7, ↓zb_g_p7, ↓zb_f_p8, ↓zb_g_p8, ↓zb_f_p9, ↓zb_g_p9, ↓zb_f_s0, ↓zb_g_s0, ↓zb_f_s1, ↓zb_g_s1, ↓zb_f_s2, ↓zb_g_s2, ↓zb_f_s3, ↓zb_g_s3, ↓zb_f_s4, ↓zb_g_s4, ↓zb_f_s5, ↓zb_g_s5, ↓zb_f_s6, ↓zb_g_s6, ↓zb_f_c0, ↓zb_f_c1, ↓zb_f_c2, ↓zb_f_c3, ↓zb_f_c4, ↓zb_f_c5, ↓zb_f_c6, ↓zb_g_c6, ↓zb_f_d0, ↓zb_f_d1, ↓zb_g_d1, ↓zb_f_d2, ↓zb_g_d2, ↓zb_f_t0, ↓zb_f_t1, ↓zb_g_t1, ↓zb_f_j0, gsN_g, gsN_p, List.cons_append, List.nil_append, List.length_cons, List.length_nil, glo_fst, glo_fld, glo_int, glo_ref, glo_cls, gsN_1, gsL_k, gsL_z, ghup_k, ghup_z, List.set_cons_succ, List.set_cons_zero, List.getElem?_cons_succ, List.getElem?_cons_zero, nI_nn, gfst_o, gfld_o, gcls_o, gint_a, gref_a, lt_T, Option.map_some, xe4, xe1, ghnew_n, ghup_b, gsT_b, gsT_z, gsL_b, xb5, xb0, xb2, xl0, xl1, xl2, xl3, gplR_len, n_savedR, n_pondR_0, n_pondR_1, n_pondR_2, n_pondR_3, n_pondR_4, n_pondR_5, n_pondR_6, n_pondR_7, n_pondR_8]
def zi1 (c : Nat) : Nat → Int32 := fun j => if j < c then nI 1 else if 64 ≤ j ∧ j < 64 + c then -1 else 0
def zs0 : Nat → Int32 := upd (upd (upd (upd (upd (upd (upd (upd (upd (upd (upd (upd (upd (zi1 64) 416 (nI 0)) 417 (nI 0)) 418 (nI 20)) 422 (nI 8)) 423 (nI 0)) 424 (nI 20)) 428 (nI 0)) 429 (nI 8)) 430 (nI 20)) 434 (nI 2)) 435 (nI 3)) 436 (nI 2)) 440 (nI 60)
def zC0 : ZC := (fun _ => zP0, fun _ => 0, fun _ => 0, fun _ => nI 0)
def zM0 : ZM := fun b => if b = 0 then zs0 else fun _ => 0
theorem zhl_nil : gsL h a [] = h := by
  funext j
  unfold gsL
  rw [if_neg]
  intro q
  have := q.2
  rw [List.length_nil] at this
  omega
theorem gsL_f {l : Nat} (hq : ¬ (a ≤ b ∧ b < a + l)) {ls : List xC} (hl : ls.length = l) : gsL h a ls b = h b := if_neg (by rw [hl]; exact hq)
theorem z_arr : va_up (va_up (va_up (va_up (va_up (va_up (fun _ => none) 0 (some 24)) 1 (some 31)) 2 (some 38)) 3 (some 45)) 4 (some 52)) 5 (some 59) = zpor := by
  funext j
  match j with
  | 0 => rfl
  | 1 => rfl
  | 2 => rfl
  | 3 => rfl
  | 4 => rfl
  | 5 => rfl
  | j + 6 =>
    unfold zpor va_up
    rw [if_neg (by omega), if_neg (by omega), if_neg (by omega), if_neg (by omega), if_neg (by omega), if_neg (by omega), if_neg (by omega)]
theorem z_arrR : va_up (va_up (va_up (va_up (va_up (va_up (fun _ => none) 0 (some 94)) 1 (some 101)) 2 (some 108)) 3 (some 115)) 4 (some 122)) 5 (some 129) = (fun j => (zpor j).map zsw) := by
  funext j
  match j with
  | 0 => rfl
  | 1 => rfl
  | 2 => rfl
  | 3 => rfl
  | 4 => rfl
  | 5 => rfl
  | j + 6 =>
    unfold zpor va_up
    rw [if_neg (by omega), if_neg (by omega), if_neg (by omega), if_neg (by omega), if_neg (by omega), if_neg (by omega), if_neg (by omega)]
    rfl
theorem n_q0 {h : Nat → Option xC} {M : ZM} {e : ZE} : gsL h 0 [.inr (5, [.ref 1, .ref 8, .ref 15, .ref 22, .ref 66, .ref 68, .int (nI 0)])] 0 = zhc zC0 M e 0 := (gsL_k (k := 0) (by decide)).trans rfl
theorem n_q1 {h : Nat → Option xC} {M : ZM} {e : ZE} : gsL h 1 (gpl 0) 1 = zhc zC0 M e 1 := (gsL_k (k := 0) (by decide)).trans rfl
theorem n_q2 {h : Nat → Option xC} {M : ZM} {e : ZE} : gsL h 1 (gpl 0) 2 = zhc zC0 M e 2 := (gsL_k (k := 1) (by decide)).trans rfl
theorem n_q3 {h : Nat → Option xC} {M : ZM} {e : ZE} : gsL h 1 (gpl 0) 3 = zhc zC0 M e 3 := (gsL_k (k := 2) (by decide)).trans rfl
theorem n_q4 {h : Nat → Option xC} {M : ZM} {e : ZE} : gsL h 1 (gpl 0) 4 = zhc zC0 M e 4 := (gsL_k (k := 3) (by decide)).trans rfl
theorem n_q5 {h : Nat → Option xC} {M : ZM} {e : ZE} : gsL h 1 (gpl 0) 5 = zhc zC0 M e 5 := (gsL_k (k := 4) (by decide)).trans rfl
theorem n_q6 {h : Nat → Option xC} {M : ZM} {e : ZE} : gsL h 1 (gpl 0) 6 = zhc zC0 M e 6 := (gsL_k (k := 5) (by decide)).trans rfl
theorem n_q7 {h : Nat → Option xC} {M : ZM} {e : ZE} : gsL h 1 (gpl 0) 7 = zhc zC0 M e 7 := (gsL_k (k := 6) (by decide)).trans rfl
theorem n_q8 {h : Nat → Option xC} {M : ZM} {e : ZE} : gsL h 8 (gpl 1) 8 = zhc zC0 M e 8 := (gsL_k (k := 0) (by decide)).trans rfl
theorem n_q9 {h : Nat → Option xC} {M : ZM} {e : ZE} : gsL h 8 (gpl 1) 9 = zhc zC0 M e 9 := (gsL_k (k := 1) (by decide)).trans rfl
theorem n_q10 {h : Nat → Option xC} {M : ZM} {e : ZE} : gsL h 8 (gpl 1) 10 = zhc zC0 M e 10 := (gsL_k (k := 2) (by decide)).trans rfl
theorem n_q11 {h : Nat → Option xC} {M : ZM} {e : ZE} : gsL h 8 (gpl 1) 11 = zhc zC0 M e 11 := (gsL_k (k := 3) (by decide)).trans rfl
theorem n_q12 {h : Nat → Option xC} {M : ZM} {e : ZE} : gsL h 8 (gpl 1) 12 = zhc zC0 M e 12 := (gsL_k (k := 4) (by decide)).trans rfl
theorem n_q13 {h : Nat → Option xC} {M : ZM} {e : ZE} : gsL h 8 (gpl 1) 13 = zhc zC0 M e 13 := (gsL_k (k := 5) (by decide)).trans rfl
theorem n_q14 {h : Nat → Option xC} {M : ZM} {e : ZE} : gsL h 8 (gpl 1) 14 = zhc zC0 M e 14 := (gsL_k (k := 6) (by decide)).trans rfl
theorem n_q15 {h : Nat → Option xC} {M : ZM} {e : ZE} : gsL h 15 (gpl 2) 15 = zhc zC0 M e 15 := (gsL_k (k := 0) (by decide)).trans rfl
theorem n_q16 {h : Nat → Option xC} {M : ZM} {e : ZE} : gsL h 15 (gpl 2) 16 = zhc zC0 M e 16 := (gsL_k (k := 1) (by decide)).trans rfl
theorem n_q17 {h : Nat → Option xC} {M : ZM} {e : ZE} : gsL h 15 (gpl 2) 17 = zhc zC0 M e 17 := (gsL_k (k := 2) (by decide)).trans rfl
theorem n_q18 {h : Nat → Option xC} {M : ZM} {e : ZE} : gsL h 15 (gpl 2) 18 = zhc zC0 M e 18 := (gsL_k (k := 3) (by decide)).trans rfl
theorem n_q19 {h : Nat → Option xC} {M : ZM} {e : ZE} : gsL h 15 (gpl 2) 19 = zhc zC0 M e 19 := (gsL_k (k := 4) (by decide)).trans rfl
theorem n_q20 {h : Nat → Option xC} {M : ZM} {e : ZE} : gsL h 15 (gpl 2) 20 = zhc zC0 M e 20 := (gsL_k (k := 5) (by decide)).trans rfl
theorem n_q21 {h : Nat → Option xC} {M : ZM} {e : ZE} : gsL h 15 (gpl 2) 21 = zhc zC0 M e 21 := (gsL_k (k := 6) (by decide)).trans rfl
theorem n_q22 {h : Nat → Option xC} {M : ZM} {e : ZE} : gsL h 22 [.inr (3, [.ref 23, .int (nI 0), .int (nI 0)])] 22 = zhc zC0 M e 22 := (gsL_k (k := 0) (by decide)).trans rfl
theorem n_q23 {h : Nat → Option xC} {M : ZM} {e : ZE} : gsL h 23 [.inl (2, 6, .inr (.inr (.inr (.inr zpor))))] 23 = zhc zC0 M e 23 := (gsL_k (k := 0) (by decide)).trans rfl
theorem n_q24 {h : Nat → Option xC} {M : ZM} {e : ZE} : gsL h 24 (gpl 3) 24 = zhc zC0 M e 24 := (gsL_k (k := 0) (by decide)).trans rfl
theorem n_q25 {h : Nat → Option xC} {M : ZM} {e : ZE} : gsL h 24 (gpl 3) 25 = zhc zC0 M e 25 := (gsL_k (k := 1) (by decide)).trans rfl
theorem n_q26 {h : Nat → Option xC} {M : ZM} {e : ZE} : gsL h 24 (gpl 3) 26 = zhc zC0 M e 26 := (gsL_k (k := 2) (by decide)).trans rfl
theorem n_q27 {h : Nat → Option xC} {M : ZM} {e : ZE} : gsL h 24 (gpl 3) 27 = zhc zC0 M e 27 := (gsL_k (k := 3) (by decide)).trans rfl
theorem n_q28 {h : Nat → Option xC} {M : ZM} {e : ZE} : gsL h 24 (gpl 3) 28 = zhc zC0 M e 28 := (gsL_k (k := 4) (by decide)).trans rfl
theorem n_q29 {h : Nat → Option xC} {M : ZM} {e : ZE} : gsL h 24 (gpl 3) 29 = zhc zC0 M e 29 := (gsL_k (k := 5) (by decide)).trans rfl
theorem n_q30 {h : Nat → Option xC} {M : ZM} {e : ZE} : gsL h 24 (gpl 3) 30 = zhc zC0 M e 30 := (gsL_k (k := 6) (by decide)).trans rfl
theorem n_q31 {h : Nat → Option xC} {M : ZM} {e : ZE} : gsL h 31 (gpl 4) 31 = zhc zC0 M e 31 := (gsL_k (k := 0) (by decide)).trans rfl
theorem n_q32 {h : Nat → Option xC} {M : ZM} {e : ZE} : gsL h 31 (gpl 4) 32 = zhc zC0 M e 32 := (gsL_k (k := 1) (by decide)).trans rfl
theorem n_q33 {h : Nat → Option xC} {M : ZM} {e : ZE} : gsL h 31 (gpl 4) 33 = zhc zC0 M e 33 := (gsL_k (k := 2) (by decide)).trans rfl
theorem n_q34 {h : Nat → Option xC} {M : ZM} {e : ZE} : gsL h 31 (gpl 4) 34 = zhc zC0 M e 34 := (gsL_k (k := 3) (by decide)).trans rfl
theorem n_q35 {h : Nat → Option xC} {M : ZM} {e : ZE} : gsL h 31 (gpl 4) 35 = zhc zC0 M e 35 := (gsL_k (k := 4) (by decide)).trans rfl
theorem n_q36 {h : Nat → Option xC} {M : ZM} {e : ZE} : gsL h 31 (gpl 4) 36 = zhc zC0 M e 36 := (gsL_k (k := 5) (by decide)).trans rfl
theorem n_q37 {h : Nat → Option xC} {M : ZM} {e : ZE} : gsL h 31 (gpl 4) 37 = zhc zC0 M e 37 := (gsL_k (k := 6) (by decide)).trans rfl
theorem n_q38 {h : Nat → Option xC} {M : ZM} {e : ZE} : gsL h 38 (gpl 5) 38 = zhc zC0 M e 38 := (gsL_k (k := 0) (by decide)).trans rfl
theorem n_q39 {h : Nat → Option xC} {M : ZM} {e : ZE} : gsL h 38 (gpl 5) 39 = zhc zC0 M e 39 := (gsL_k (k := 1) (by decide)).trans rfl
theorem n_q40 {h : Nat → Option xC} {M : ZM} {e : ZE} : gsL h 38 (gpl 5) 40 = zhc zC0 M e 40 := (gsL_k (k := 2) (by decide)).trans rfl
theorem n_q41 {h : Nat → Option xC} {M : ZM} {e : ZE} : gsL h 38 (gpl 5) 41 = zhc zC0 M e 41 := (gsL_k (k := 3) (by decide)).trans rfl
theorem n_q42 {h : Nat → Option xC} {M : ZM} {e : ZE} : gsL h 38 (gpl 5) 42 = zhc zC0 M e 42 := (gsL_k (k := 4) (by decide)).trans rfl
theorem n_q43 {h : Nat → Option xC} {M : ZM} {e : ZE} : gsL h 38 (gpl 5) 43 = zhc zC0 M e 43 := (gsL_k (k := 5) (by decide)).trans rfl
theorem n_q44 {h : Nat → Option xC} {M : ZM} {e : ZE} : gsL h 38 (gpl 5) 44 = zhc zC0 M e 44 := (gsL_k (k := 6) (by decide)).trans rfl
theorem n_q45 {h : Nat → Option xC} {M : ZM} {e : ZE} : gsL h 45 (gpl 6) 45 = zhc zC0 M e 45 := (gsL_k (k := 0) (by decide)).trans rfl
theorem n_q46 {h : Nat → Option xC} {M : ZM} {e : ZE} : gsL h 45 (gpl 6) 46 = zhc zC0 M e 46 := (gsL_k (k := 1) (by decide)).trans rfl
theorem n_q47 {h : Nat → Option xC} {M : ZM} {e : ZE} : gsL h 45 (gpl 6) 47 = zhc zC0 M e 47 := (gsL_k (k := 2) (by decide)).trans rfl
theorem n_q48 {h : Nat → Option xC} {M : ZM} {e : ZE} : gsL h 45 (gpl 6) 48 = zhc zC0 M e 48 := (gsL_k (k := 3) (by decide)).trans rfl
theorem n_q49 {h : Nat → Option xC} {M : ZM} {e : ZE} : gsL h 45 (gpl 6) 49 = zhc zC0 M e 49 := (gsL_k (k := 4) (by decide)).trans rfl
theorem n_q50 {h : Nat → Option xC} {M : ZM} {e : ZE} : gsL h 45 (gpl 6) 50 = zhc zC0 M e 50 := (gsL_k (k := 5) (by decide)).trans rfl
theorem n_q51 {h : Nat → Option xC} {M : ZM} {e : ZE} : gsL h 45 (gpl 6) 51 = zhc zC0 M e 51 := (gsL_k (k := 6) (by decide)).trans rfl
theorem n_q52 {h : Nat → Option xC} {M : ZM} {e : ZE} : gsL h 52 (gpl 7) 52 = zhc zC0 M e 52 := (gsL_k (k := 0) (by decide)).trans rfl
theorem n_q53 {h : Nat → Option xC} {M : ZM} {e : ZE} : gsL h 52 (gpl 7) 53 = zhc zC0 M e 53 := (gsL_k (k := 1) (by decide)).trans rfl
theorem n_q54 {h : Nat → Option xC} {M : ZM} {e : ZE} : gsL h 52 (gpl 7) 54 = zhc zC0 M e 54 := (gsL_k (k := 2) (by decide)).trans rfl
theorem n_q55 {h : Nat → Option xC} {M : ZM} {e : ZE} : gsL h 52 (gpl 7) 55 = zhc zC0 M e 55 := (gsL_k (k := 3) (by decide)).trans rfl
theorem n_q56 {h : Nat → Option xC} {M : ZM} {e : ZE} : gsL h 52 (gpl 7) 56 = zhc zC0 M e 56 := (gsL_k (k := 4) (by decide)).trans rfl
theorem n_q57 {h : Nat → Option xC} {M : ZM} {e : ZE} : gsL h 52 (gpl 7) 57 = zhc zC0 M e 57 := (gsL_k (k := 5) (by decide)).trans rfl
theorem n_q58 {h : Nat → Option xC} {M : ZM} {e : ZE} : gsL h 52 (gpl 7) 58 = zhc zC0 M e 58 := (gsL_k (k := 6) (by decide)).trans rfl
theorem n_q59 {h : Nat → Option xC} {M : ZM} {e : ZE} : gsL h 59 (gpl 8) 59 = zhc zC0 M e 59 := (gsL_k (k := 0) (by decide)).trans rfl
theorem n_q60 {h : Nat → Option xC} {M : ZM} {e : ZE} : gsL h 59 (gpl 8) 60 = zhc zC0 M e 60 := (gsL_k (k := 1) (by decide)).trans rfl
theorem n_q61 {h : Nat → Option xC} {M : ZM} {e : ZE} : gsL h 59 (gpl 8) 61 = zhc zC0 M e 61 := (gsL_k (k := 2) (by decide)).trans rfl
theorem n_q62 {h : Nat → Option xC} {M : ZM} {e : ZE} : gsL h 59 (gpl 8) 62 = zhc zC0 M e 62 := (gsL_k (k := 3) (by decide)).trans rfl
theorem n_q63 {h : Nat → Option xC} {M : ZM} {e : ZE} : gsL h 59 (gpl 8) 63 = zhc zC0 M e 63 := (gsL_k (k := 4) (by decide)).trans rfl
theorem n_q64 {h : Nat → Option xC} {M : ZM} {e : ZE} : gsL h 59 (gpl 8) 64 = zhc zC0 M e 64 := (gsL_k (k := 5) (by decide)).trans rfl
theorem n_q65 {h : Nat → Option xC} {M : ZM} {e : ZE} : gsL h 59 (gpl 8) 65 = zhc zC0 M e 65 := (gsL_k (k := 6) (by decide)).trans rfl
theorem n_q66 {h : Nat → Option xC} {M : ZM} {e : ZE} : gsL h 66 [.inr (0, [.ref 67, .int (nI 0)])] 66 = zhc zC0 M e 66 := (gsL_k (k := 0) (by decide)).trans rfl
theorem n_q67 {h : Nat → Option xC} {M : ZM} {e : ZE} : gsL h 67 [.inl (0, 60, .inl (fun _ => 0))] 67 = zhc zC0 M e 67 := (gsL_k (k := 0) (by decide)).trans (show some (Sum.inl (0, 60, Sum.inl (fun _ => 0))) = some (Sum.inl (0, 60, Sum.inl (ztr 60 (fun _ => 0)))) from by rw [ztr_0])
theorem n_q68 {h : Nat → Option xC} {M : ZM} {e : ZE} : gsL h 68 [.inr (2, [.ref 69])] 68 = zhc zC0 M e 68 := (gsL_k (k := 0) (by decide)).trans rfl
theorem n_q69 {h : Nat → Option xC} {M : ZM} {e : ZE} : gsL h 69 [.inl (0, 64, .inl (fun _ => nI 0))] 69 = zhc zC0 M e 69 := (gsL_k (k := 0) (by decide)).trans (show some (Sum.inl (0, 64, Sum.inl (fun _ => nI 0))) = some (Sum.inl (0, 64, Sum.inl (ztr 64 (fun _ => 0)))) from by rw [ztr_0]; first | done | rfl)
theorem n_q70 {h : Nat → Option xC} {M : ZM} {e : ZE} : gsL h 70 [.inr (5, [.ref 71, .ref 78, .ref 85, .ref 92, .ref 136, .ref 138, .int (nI 0)])] 70 = (zhc zC0 M e 0).map rnC := (gsL_k (k := 0) (by decide)).trans rfl
theorem n_q71 {h : Nat → Option xC} {M : ZM} {e : ZE} : gsL h 71 (gplR 0) 71 = (zhc zC0 M e 1).map rnC := (gsL_k (k := 0) (by decide)).trans rfl
theorem n_q72 {h : Nat → Option xC} {M : ZM} {e : ZE} : gsL h 71 (gplR 0) 72 = (zhc zC0 M e 2).map rnC := (gsL_k (k := 1) (by decide)).trans rfl
theorem n_q73 {h : Nat → Option xC} {M : ZM} {e : ZE} : gsL h 71 (gplR 0) 73 = (zhc zC0 M e 3).map rnC := (gsL_k (k := 2) (by decide)).trans rfl
theorem n_q74 {h : Nat → Option xC} {M : ZM} {e : ZE} : gsL h 71 (gplR 0) 74 = (zhc zC0 M e 4).map rnC := (gsL_k (k := 3) (by decide)).trans rfl
theorem n_q75 {h : Nat → Option xC} {M : ZM} {e : ZE} : gsL h 71 (gplR 0) 75 = (zhc zC0 M e 5).map rnC := (gsL_k (k := 4) (by decide)).trans rfl
theorem n_q76 {h : Nat → Option xC} {M : ZM} {e : ZE} : gsL h 71 (gplR 0) 76 = (zhc zC0 M e 6).map rnC := (gsL_k (k := 5) (by decide)).trans rfl
theorem n_q77 {h : Nat → Option xC} {M : ZM} {e : ZE} : gsL h 71 (gplR 0) 77 = (zhc zC0 M e 7).map rnC := (gsL_k (k := 6) (by decide)).trans rfl
theorem n_q78 {h : Nat → Option xC} {M : ZM} {e : ZE} : gsL h 78 (gplR 1) 78 = (zhc zC0 M e 8).map rnC := (gsL_k (k := 0) (by decide)).trans rfl
theorem n_q79 {h : Nat → Option xC} {M : ZM} {e : ZE} : gsL h 78 (gplR 1) 79 = (zhc zC0 M e 9).map rnC := (gsL_k (k := 1) (by decide)).trans rfl
theorem n_q80 {h : Nat → Option xC} {M : ZM} {e : ZE} : gsL h 78 (gplR 1) 80 = (zhc zC0 M e 10).map rnC := (gsL_k (k := 2) (by decide)).trans rfl
theorem n_q81 {h : Nat → Option xC} {M : ZM} {e : ZE} : gsL h 78 (gplR 1) 81 = (zhc zC0 M e 11).map rnC := (gsL_k (k := 3) (by decide)).trans rfl
theorem n_q82 {h : Nat → Option xC} {M : ZM} {e : ZE} : gsL h 78 (gplR 1) 82 = (zhc zC0 M e 12).map rnC := (gsL_k (k := 4) (by decide)).trans rfl
theorem n_q83 {h : Nat → Option xC} {M : ZM} {e : ZE} : gsL h 78 (gplR 1) 83 = (zhc zC0 M e 13).map rnC := (gsL_k (k := 5) (by decide)).trans rfl
theorem n_q84 {h : Nat → Option xC} {M : ZM} {e : ZE} : gsL h 78 (gplR 1) 84 = (zhc zC0 M e 14).map rnC := (gsL_k (k := 6) (by decide)).trans rfl
theorem n_q85 {h : Nat → Option xC} {M : ZM} {e : ZE} : gsL h 85 (gplR 2) 85 = (zhc zC0 M e 15).map rnC := (gsL_k (k := 0) (by decide)).trans rfl
theorem n_q86 {h : Nat → Option xC} {M : ZM} {e : ZE} : gsL h 85 (gplR 2) 86 = (zhc zC0 M e 16).map rnC := (gsL_k (k := 1) (by decide)).trans rfl
theorem n_q87 {h : Nat → Option xC} {M : ZM} {e : ZE} : gsL h 85 (gplR 2) 87 = (zhc zC0 M e 17).map rnC := (gsL_k (k := 2) (by decide)).trans rfl
theorem n_q88 {h : Nat → Option xC} {M : ZM} {e : ZE} : gsL h 85 (gplR 2) 88 = (zhc zC0 M e 18).map rnC := (gsL_k (k := 3) (by decide)).trans rfl
theorem n_q89 {h : Nat → Option xC} {M : ZM} {e : ZE} : gsL h 85 (gplR 2) 89 = (zhc zC0 M e 19).map rnC := (gsL_k (k := 4) (by decide)).trans rfl
theorem n_q90 {h : Nat → Option xC} {M : ZM} {e : ZE} : gsL h 85 (gplR 2) 90 = (zhc zC0 M e 20).map rnC := (gsL_k (k := 5) (by decide)).trans rfl
theorem n_q91 {h : Nat → Option xC} {M : ZM} {e : ZE} : gsL h 85 (gplR 2) 91 = (zhc zC0 M e 21).map rnC := (gsL_k (k := 6) (by decide)).trans rfl
theorem n_q92 {h : Nat → Option xC} {M : ZM} {e : ZE} : gsL h 92 [.inr (3, [.ref 93, .int (nI 0), .int (nI 0)])] 92 = (zhc zC0 M e 22).map rnC := (gsL_k (k := 0) (by decide)).trans rfl
theorem n_q93 {h : Nat → Option xC} {M : ZM} {e : ZE} : gsL h 93 [.inl (2, 6, .inr (.inr (.inr (.inr (fun j => (zpor j).map zsw)))))] 93 = (zhc zC0 M e 23).map rnC := (gsL_k (k := 0) (by decide)).trans rfl
theorem n_q94 {h : Nat → Option xC} {M : ZM} {e : ZE} : gsL h 94 (gplR 3) 94 = (zhc zC0 M e 24).map rnC := (gsL_k (k := 0) (by decide)).trans rfl
theorem n_q95 {h : Nat → Option xC} {M : ZM} {e : ZE} : gsL h 94 (gplR 3) 95 = (zhc zC0 M e 25).map rnC := (gsL_k (k := 1) (by decide)).trans rfl
theorem n_q96 {h : Nat → Option xC} {M : ZM} {e : ZE} : gsL h 94 (gplR 3) 96 = (zhc zC0 M e 26).map rnC := (gsL_k (k := 2) (by decide)).trans rfl
theorem n_q97 {h : Nat → Option xC} {M : ZM} {e : ZE} : gsL h 94 (gplR 3) 97 = (zhc zC0 M e 27).map rnC := (gsL_k (k := 3) (by decide)).trans rfl
theorem n_q98 {h : Nat → Option xC} {M : ZM} {e : ZE} : gsL h 94 (gplR 3) 98 = (zhc zC0 M e 28).map rnC := (gsL_k (k := 4) (by decide)).trans rfl
theorem n_q99 {h : Nat → Option xC} {M : ZM} {e : ZE} : gsL h 94 (gplR 3) 99 = (zhc zC0 M e 29).map rnC := (gsL_k (k := 5) (by decide)).trans rfl
theorem n_q100 {h : Nat → Option xC} {M : ZM} {e : ZE} : gsL h 94 (gplR 3) 100 = (zhc zC0 M e 30).map rnC := (gsL_k (k := 6) (by decide)).trans rfl
theorem n_q101 {h : Nat → Option xC} {M : ZM} {e : ZE} : gsL h 101 (gplR 4) 101 = (zhc zC0 M e 31).map rnC := (gsL_k (k := 0) (by decide)).trans rfl
theorem n_q102 {h : Nat → Option xC} {M : ZM} {e : ZE} : gsL h 101 (gplR 4) 102 = (zhc zC0 M e 32).map rnC := (gsL_k (k := 1) (by decide)).trans rfl
theorem n_q103 {h : Nat → Option xC} {M : ZM} {e : ZE} : gsL h 101 (gplR 4) 103 = (zhc zC0 M e 33).map rnC := (gsL_k (k := 2) (by decide)).trans rfl
theorem n_q104 {h : Nat → Option xC} {M : ZM} {e : ZE} : gsL h 101 (gplR 4) 104 = (zhc zC0 M e 34).map rnC := (gsL_k (k := 3) (by decide)).trans rfl
theorem n_q105 {h : Nat → Option xC} {M : ZM} {e : ZE} : gsL h 101 (gplR 4) 105 = (zhc zC0 M e 35).map rnC := (gsL_k (k := 4) (by decide)).trans rfl
theorem n_q106 {h : Nat → Option xC} {M : ZM} {e : ZE} : gsL h 101 (gplR 4) 106 = (zhc zC0 M e 36).map rnC := (gsL_k (k := 5) (by decide)).trans rfl
theorem n_q107 {h : Nat → Option xC} {M : ZM} {e : ZE} : gsL h 101 (gplR 4) 107 = (zhc zC0 M e 37).map rnC := (gsL_k (k := 6) (by decide)).trans rfl
theorem n_q108 {h : Nat → Option xC} {M : ZM} {e : ZE} : gsL h 108 (gplR 5) 108 = (zhc zC0 M e 38).map rnC := (gsL_k (k := 0) (by decide)).trans rfl
theorem n_q109 {h : Nat → Option xC} {M : ZM} {e : ZE} : gsL h 108 (gplR 5) 109 = (zhc zC0 M e 39).map rnC := (gsL_k (k := 1) (by decide)).trans rfl
theorem n_q110 {h : Nat → Option xC} {M : ZM} {e : ZE} : gsL h 108 (gplR 5) 110 = (zhc zC0 M e 40).map rnC := (gsL_k (k := 2) (by decide)).trans rfl
theorem n_q111 {h : Nat → Option xC} {M : ZM} {e : ZE} : gsL h 108 (gplR 5) 111 = (zhc zC0 M e 41).map rnC := (gsL_k (k := 3) (by decide)).trans rfl
theorem n_q112 {h : Nat → Option xC} {M : ZM} {e : ZE} : gsL h 108 (gplR 5) 112 = (zhc zC0 M e 42).map rnC := (gsL_k (k := 4) (by decide)).trans rfl
theorem n_q113 {h : Nat → Option xC} {M : ZM} {e : ZE} : gsL h 108 (gplR 5) 113 = (zhc zC0 M e 43).map rnC := (gsL_k (k := 5) (by decide)).trans rfl
theorem n_q114 {h : Nat → Option xC} {M : ZM} {e : ZE} : gsL h 108 (gplR 5) 114 = (zhc zC0 M e 44).map rnC := (gsL_k (k := 6) (by decide)).trans rfl
theorem n_q115 {h : Nat → Option xC} {M : ZM} {e : ZE} : gsL h 115 (gplR 6) 115 = (zhc zC0 M e 45).map rnC := (gsL_k (k := 0) (by decide)).trans rfl
theorem n_q116 {h : Nat → Option xC} {M : ZM} {e : ZE} : gsL h 115 (gplR 6) 116 = (zhc zC0 M e 46).map rnC := (gsL_k (k := 1) (by decide)).trans rfl
theorem n_q117 {h : Nat → Option xC} {M : ZM} {e : ZE} : gsL h 115 (gplR 6) 117 = (zhc zC0 M e 47).map rnC := (gsL_k (k := 2) (by decide)).trans rfl
theorem n_q118 {h : Nat → Option xC} {M : ZM} {e : ZE} : gsL h 115 (gplR 6) 118 = (zhc zC0 M e 48).map rnC := (gsL_k (k := 3) (by decide)).trans rfl
theorem n_q119 {h : Nat → Option xC} {M : ZM} {e : ZE} : gsL h 115 (gplR 6) 119 = (zhc zC0 M e 49).map rnC := (gsL_k (k := 4) (by decide)).trans rfl
theorem n_q120 {h : Nat → Option xC} {M : ZM} {e : ZE} : gsL h 115 (gplR 6) 120 = (zhc zC0 M e 50).map rnC := (gsL_k (k := 5) (by decide)).trans rfl
theorem n_q121 {h : Nat → Option xC} {M : ZM} {e : ZE} : gsL h 115 (gplR 6) 121 = (zhc zC0 M e 51).map rnC := (gsL_k (k := 6) (by decide)).trans rfl
theorem n_q122 {h : Nat → Option xC} {M : ZM} {e : ZE} : gsL h 122 (gplR 7) 122 = (zhc zC0 M e 52).map rnC := (gsL_k (k := 0) (by decide)).trans rfl
theorem n_q123 {h : Nat → Option xC} {M : ZM} {e : ZE} : gsL h 122 (gplR 7) 123 = (zhc zC0 M e 53).map rnC := (gsL_k (k := 1) (by decide)).trans rfl
theorem n_q124 {h : Nat → Option xC} {M : ZM} {e : ZE} : gsL h 122 (gplR 7) 124 = (zhc zC0 M e 54).map rnC := (gsL_k (k := 2) (by decide)).trans rfl
theorem n_q125 {h : Nat → Option xC} {M : ZM} {e : ZE} : gsL h 122 (gplR 7) 125 = (zhc zC0 M e 55).map rnC := (gsL_k (k := 3) (by decide)).trans rfl
theorem n_q126 {h : Nat → Option xC} {M : ZM} {e : ZE} : gsL h 122 (gplR 7) 126 = (zhc zC0 M e 56).map rnC := (gsL_k (k := 4) (by decide)).trans rfl
theorem n_q127 {h : Nat → Option xC} {M : ZM} {e : ZE} : gsL h 122 (gplR 7) 127 = (zhc zC0 M e 57).map rnC := (gsL_k (k := 5) (by decide)).trans rfl
theorem n_q128 {h : Nat → Option xC} {M : ZM} {e : ZE} : gsL h 122 (gplR 7) 128 = (zhc zC0 M e 58).map rnC := (gsL_k (k := 6) (by decide)).trans rfl
theorem n_q129 {h : Nat → Option xC} {M : ZM} {e : ZE} : gsL h 129 (gplR 8) 129 = (zhc zC0 M e 59).map rnC := (gsL_k (k := 0) (by decide)).trans rfl
theorem n_q130 {h : Nat → Option xC} {M : ZM} {e : ZE} : gsL h 129 (gplR 8) 130 = (zhc zC0 M e 60).map rnC := (gsL_k (k := 1) (by decide)).trans rfl
theorem n_q131 {h : Nat → Option xC} {M : ZM} {e : ZE} : gsL h 129 (gplR 8) 131 = (zhc zC0 M e 61).map rnC := (gsL_k (k := 2) (by decide)).trans rfl
theorem n_q132 {h : Nat → Option xC} {M : ZM} {e : ZE} : gsL h 129 (gplR 8) 132 = (zhc zC0 M e 62).map rnC := (gsL_k (k := 3) (by decide)).trans rfl
theorem n_q133 {h : Nat → Option xC} {M : ZM} {e : ZE} : gsL h 129 (gplR 8) 133 = (zhc zC0 M e 63).map rnC := (gsL_k (k := 4) (by decide)).trans rfl
theorem n_q134 {h : Nat → Option xC} {M : ZM} {e : ZE} : gsL h 129 (gplR 8) 134 = (zhc zC0 M e 64).map rnC := (gsL_k (k := 5) (by decide)).trans rfl
theorem n_q135 {h : Nat → Option xC} {M : ZM} {e : ZE} : gsL h 129 (gplR 8) 135 = (zhc zC0 M e 65).map rnC := (gsL_k (k := 6) (by decide)).trans rfl
theorem n_q136 {h : Nat → Option xC} {M : ZM} {e : ZE} : gsL h 136 [.inr (0, [.ref 137, .int (nI 0)])] 136 = (zhc zC0 M e 66).map rnC := (gsL_k (k := 0) (by decide)).trans rfl
theorem n_q137 {h : Nat → Option xC} {M : ZM} {e : ZE} : gsL h 137 [.inl (0, 60, .inl (fun _ => 0))] 137 = (zhc zC0 M e 67).map rnC := (gsL_k (k := 0) (by decide)).trans (show some (Sum.inl (0, 60, Sum.inl (fun _ => 0))) = some (Sum.inl (0, 60, Sum.inl (ztr 60 (fun _ => 0)))) from by rw [ztr_0])
theorem n_q138 {h : Nat → Option xC} {M : ZM} {e : ZE} : gsL h 138 [.inr (2, [.ref 139])] 138 = (zhc zC0 M e 68).map rnC := (gsL_k (k := 0) (by decide)).trans rfl
theorem n_q139 {h : Nat → Option xC} {M : ZM} {e : ZE} : gsL h 139 [.inl (0, 64, .inl (fun _ => nI 0))] 139 = (zhc zC0 M e 69).map rnC := (gsL_k (k := 0) (by decide)).trans (show some (Sum.inl (0, 64, Sum.inl (fun _ => nI 0))) = some (Sum.inl (0, 64, Sum.inl (ztr 64 (fun _ => 0)))) from by rw [ztr_0]; first | done | rfl)
theorem n_pic {L : Nat} {xs : Nat → Int32} (hh : h = (xσ0 L xs).1) : gsN (zclR (gsL (zcl h) 69 [.inl (0, 64, .inl (fun _ => nI 0))])) 139 [.inl (0, 64, .inl (fun _ => nI 0))] sl = zZ zC0 zC0 ((140, 0, sl), fun q => if q = 1000 then some (.inl (9, L, .inl xs)) else none) := by
  subst hh
  refine Prod.ext (funext fun q => ?_) rfl
  show gsL _ 139 _ q = zhc zC0 zMz (zer2 zC0 ((140, 0, sl), fun q => if q = 1000 then some (.inl (9, L, .inl xs)) else none)) q
  by_cases hq : q < 140
  · unfold zclR zcl
    rw [z_arr, z_arrR]
    by_cases h70 : q < 70
    · match q, h70 with
      | 0, _ => exact (gsL_b (by omega)).trans ((gsL_b (by omega)).trans ((gsL_b (by omega)).trans ((gsL_b (by omega)).trans ((gsL_b (by omega)).trans ((gsL_b (by omega)).trans ((gsL_b (by omega)).trans ((gsL_b (by omega)).trans ((gsL_b (by omega)).trans ((gsL_b (by omega)).trans ((gsL_b (by omega)).trans ((gsL_b (by omega)).trans ((gsL_b (by omega)).trans ((gsL_b (by omega)).trans ((gsL_b (by omega)).trans ((gsL_b (by omega)).trans ((gsL_b (by omega)).trans ((gsL_b (by omega)).trans ((gsL_b (by omega)).trans ((gsL_b (by omega)).trans ((gsL_b (by omega)).trans ((gsL_b (by omega)).trans ((gsL_b (by omega)).trans ((gsL_b (by omega)).trans ((gsL_b (by omega)).trans ((gsL_b (by omega)).trans ((gsL_b (by omega)).trans ((gsL_b (by omega)).trans ((gsL_b (by omega)).trans ((gsL_b (by omega)).trans ((gsL_b (by omega)).trans (n_q0)))))))))))))))))))))))))))))))
      | 1, _ => exact (gsL_b (by omega)).trans ((gsL_b (by omega)).trans ((gsL_b (by omega)).trans ((gsL_b (by omega)).trans ((gsL_b (by omega)).trans ((gsL_b (by omega)).trans ((gsL_b (by omega)).trans ((gsL_b (by omega)).trans ((gsL_b (by omega)).trans ((gsL_b (by omega)).trans ((gsL_b (by omega)).trans ((gsL_b (by omega)).trans ((gsL_b (by omega)).trans ((gsL_b (by omega)).trans ((gsL_b (by omega)).trans ((gsL_b (by omega)).trans ((gsL_b (by omega)).trans ((gsL_b (by omega)).trans ((gsL_b (by omega)).trans ((gsL_b (by omega)).trans ((gsL_b (by omega)).trans ((gsL_b (by omega)).trans ((gsL_b (by omega)).trans ((gsL_b (by omega)).trans ((gsL_b (by omega)).trans ((gsL_b (by omega)).trans ((gsL_b (by omega)).trans ((gsL_b (by omega)).trans ((gsL_b (by omega)).trans ((gsL_b (by omega)).trans (n_q1))))))))))))))))))))))))))))))
      | 2, _ => exact (gsL_b (by omega)).trans ((gsL_b (by omega)).trans ((gsL_b (by omega)).trans ((gsL_b (by omega)).trans ((gsL_b (by omega)).trans ((gsL_b (by omega)).trans ((gsL_b (by omega)).trans ((gsL_b (by omega)).trans ((gsL_b (by omega)).trans ((gsL_b (by omega)).trans ((gsL_b (by omega)).trans ((gsL_b (by omega)).trans ((gsL_b (by omega)).trans ((gsL_b (by omega)).trans ((gsL_b (by omega)).trans ((gsL_b (by omega)).trans ((gsL_b (by omega)).trans ((gsL_b (by omega)).trans ((gsL_b (by omega)).trans ((gsL_b (by omega)).trans ((gsL_b (by omega)).trans ((gsL_b (by omega)).trans ((gsL_b (by omega)).trans ((gsL_b (by omega)).trans ((gsL_b (by omega)).trans ((gsL_b (by omega)).trans ((gsL_b (by omega)).trans ((gsL_b (by omega)).trans ((gsL_b (by omega)).trans ((gsL_b (by omega)).trans (n_q2))))))))))))))))))))))))))))))
      | 3, _ => exact (gsL_b (by omega)).trans ((gsL_b (by omega)).trans ((gsL_b (by omega)).trans ((gsL_b (by omega)).trans ((gsL_b (by omega)).trans ((gsL_b (by omega)).trans ((gsL_b (by omega)).trans ((gsL_b (by omega)).trans ((gsL_b (by omega)).trans ((gsL_b (by omega)).trans ((gsL_b (by omega)).trans ((gsL_b (by omega)).trans ((gsL_b (by omega)).trans ((gsL_b (by omega)).trans ((gsL_b (by omega)).trans ((gsL_b (by omega)).trans ((gsL_b (by omega)).trans ((gsL_b (by omega)).trans ((gsL_b (by omega)).trans ((gsL_b (by omega)).trans ((gsL_b (by omega)).trans ((gsL_b (by omega)).trans ((gsL_b (by omega)).trans ((gsL_b (by omega)).trans ((gsL_b (by omega)).trans ((gsL_b (by omega)).trans ((gsL_b (by omega)).trans ((gsL_b (by omega)).trans ((gsL_b (by omega)).trans ((gsL_b (by omega)).trans (n_q3))))))))))))))))))))))))))))))
      | 4, _ => exact (gsL_b (by omega)).trans ((gsL_b (by omega)).trans ((gsL_b (by omega)).trans ((gsL_b (by omega)).trans ((gsL_b (by omega)).trans ((gsL_b (by omega)).trans ((gsL_b (by omega)).trans ((gsL_b (by omega)).trans ((gsL_b (by omega)).trans ((gsL_b (by omega)).trans ((gsL_b (by omega)).trans ((gsL_b (by omega)).trans ((gsL_b (by omega)).trans ((gsL_b (by omega)).trans ((gsL_b (by omega)).trans ((gsL_b (by omega)).trans ((gsL_b (by omega)).trans ((gsL_b (by omega)).trans ((gsL_b (by omega)).trans ((gsL_b (by omega)).trans ((gsL_b (by omega)).trans ((gsL_b (by omega)).trans ((gsL_b (by omega)).trans ((gsL_b (by omega)).trans ((gsL_b (by omega)).trans ((gsL_b (by omega)).trans ((gsL_b (by omega)).trans ((gsL_b (by omega)).trans ((gsL_b (by omega)).trans ((gsL_b (by omega)).trans (n_q4))))))))))))))))))))))))))))))
      | 5, _ => exact (gsL_b (by omega)).trans ((gsL_b (by omega)).trans ((gsL_b (by omega)).trans ((gsL_b (by omega)).trans ((gsL_b (by omega)).trans ((gsL_b (by omega)).trans ((gsL_b (by omega)).trans ((gsL_b (by omega)).trans ((gsL_b (by omega)).trans ((gsL_b (by omega)).trans ((gsL_b (by omega)).trans ((gsL_b (by omega)).trans ((gsL_b (by omega)).trans ((gsL_b (by omega)).trans ((gsL_b (by omega)).trans ((gsL_b (by omega)).trans ((gsL_b (by omega)).trans ((gsL_b (by omega)).trans ((gsL_b (by omega)).trans ((gsL_b (by omega)).trans ((gsL_b (by omega)).trans ((gsL_b (by omega)).trans ((gsL_b (by omega)).trans ((gsL_b (by omega)).trans ((gsL_b (by omega)).trans ((gsL_b (by omega)).trans ((gsL_b (by omega)).trans ((gsL_b (by omega)).trans ((gsL_b (by omega)).trans ((gsL_b (by omega)).trans (n_q5))))))))))))))))))))))))))))))
      | 6, _ => exact (gsL_b (by omega)).trans ((gsL_b (by omega)).trans ((gsL_b (by omega)).trans ((gsL_b (by omega)).trans ((gsL_b (by omega)).trans ((gsL_b (by omega)).trans ((gsL_b (by omega)).trans ((gsL_b (by omega)).trans ((gsL_b (by omega)).trans ((gsL_b (by omega)).trans ((gsL_b (by omega)).trans ((gsL_b (by omega)).trans ((gsL_b (by omega)).trans ((gsL_b (by omega)).trans ((gsL_b (by omega)).trans ((gsL_b (by omega)).trans ((gsL_b (by omega)).trans ((gsL_b (by omega)).trans ((gsL_b (by omega)).trans ((gsL_b (by omega)).trans ((gsL_b (by omega)).trans ((gsL_b (by omega)).trans ((gsL_b (by omega)).trans ((gsL_b (by omega)).trans ((gsL_b (by omega)).trans ((gsL_b (by omega)).trans ((gsL_b (by omega)).trans ((gsL_b (by omega)).trans ((gsL_b (by omega)).trans ((gsL_b (by omega)).trans (n_q6))))))))))))))))))))))))))))))
      | 7, _ => exact (gsL_b (by omega)).trans ((gsL_b (by omega)).trans ((gsL_b (by omega)).trans ((gsL_b (by omega)).trans ((gsL_b (by omega)).trans ((gsL_b (by omega)).trans ((gsL_b (by omega)).trans ((gsL_b (by omega)).trans ((gsL_b (by omega)).trans ((gsL_b (by omega)).trans ((gsL_b (by omega)).trans ((gsL_b (by omega)).trans ((gsL_b (by omega)).trans ((gsL_b (by omega)).trans ((gsL_b (by omega)).trans ((gsL_b (by omega)).trans ((gsL_b (by omega)).trans ((gsL_b (by omega)).trans ((gsL_b (by omega)).trans ((gsL_b (by omega)).trans ((gsL_b (by omega)).trans ((gsL_b (by omega)).trans ((gsL_b (by omega)).trans ((gsL_b (by omega)).trans ((gsL_b (by omega)).trans ((gsL_b (by omega)).trans ((gsL_b (by omega)).trans ((gsL_b (by omega)).trans ((gsL_b (by omega)).trans ((gsL_b (by omega)).trans (n_q7))))))))))))))))))))))))))))))
      | 8, _ => exact (gsL_b (by omega)).trans ((gsL_b (by omega)).trans ((gsL_b (by omega)).trans ((gsL_b (by omega)).trans ((gsL_b (by omega)).trans ((gsL_b (by omega)).trans ((gsL_b (by omega)).trans ((gsL_b (by omega)).trans ((gsL_b (by omega)).trans ((gsL_b (by omega)).trans ((gsL_b (by omega)).trans ((gsL_b (by omega)).trans ((gsL_b (by omega)).trans ((gsL_b (by omega)).trans ((gsL_b (by omega)).trans ((gsL_b (by omega)).trans ((gsL_b (by omega)).trans ((gsL_b (by omega)).trans ((gsL_b (by omega)).trans ((gsL_b (by omega)).trans ((gsL_b (by omega)).trans ((gsL_b (by omega)).trans ((gsL_b (by omega)).trans ((gsL_b (by omega)).trans ((gsL_b (by omega)).trans ((gsL_b (by omega)).trans ((gsL_b (by omega)).trans ((gsL_b (by omega)).trans ((gsL_b (by omega)).trans (n_q8)))))))))))))))))))))))))))))
      | 9, _ => exact (gsL_b (by omega)).trans ((gsL_b (by omega)).trans ((gsL_b (by omega)).trans ((gsL_b (by omega)).trans ((gsL_b (by omega)).trans ((gsL_b (by omega)).trans ((gsL_b (by omega)).trans ((gsL_b (by omega)).trans ((gsL_b (by omega)).trans ((gsL_b (by omega)).trans ((gsL_b (by omega)).trans ((gsL_b (by omega)).trans ((gsL_b (by omega)).trans ((gsL_b (by omega)).trans ((gsL_b (by omega)).trans ((gsL_b (by omega)).trans ((gsL_b (by omega)).trans ((gsL_b (by omega)).trans ((gsL_b (by omega)).trans ((gsL_b (by omega)).trans ((gsL_b (by omega)).trans ((gsL_b (by omega)).trans ((gsL_b (by omega)).trans ((gsL_b (by omega)).trans ((gsL_b (by omega)).trans ((gsL_b (by omega)).trans ((gsL_b (by omega)).trans ((gsL_b (by omega)).trans ((gsL_b (by omega)).trans (n_q9)))))))))))))))))))))))))))))
      | 10, _ => exact (gsL_b (by omega)).trans ((gsL_b (by omega)).trans ((gsL_b (by omega)).trans ((gsL_b (by omega)).trans ((gsL_b (by omega)).trans ((gsL_b (by omega)).trans ((gsL_b (by omega)).trans ((gsL_b (by omega)).trans ((gsL_b (by omega)).trans ((gsL_b (by omega)).trans ((gsL_b (by omega)).trans ((gsL_b (by omega)).trans ((gsL_b (by omega)).trans ((gsL_b (by omega)).trans ((gsL_b (by omega)).trans ((gsL_b (by omega)).trans ((gsL_b (by omega)).trans ((gsL_b (by omega)).trans ((gsL_b (by omega)).trans ((gsL_b (by omega)).trans ((gsL_b (by omega)).trans ((gsL_b (by omega)).trans ((gsL_b (by omega)).trans ((gsL_b (by omega)).trans ((gsL_b (by omega)).trans ((gsL_b (by omega)).trans ((gsL_b (by omega)).trans ((gsL_b (by omega)).trans ((gsL_b (by omega)).trans (n_q10)))))))))))))))))))))))))))))
      | 11, _ => exact (gsL_b (by omega)).trans ((gsL_b (by omega)).trans ((gsL_b (by omega)).trans ((gsL_b (by omega)).trans ((gsL_b (by omega)).trans ((gsL_b (by omega)).trans ((gsL_b (by omega)).trans ((gsL_b (by omega)).trans ((gsL_b (by omega)).trans ((gsL_b (by omega)).trans ((gsL_b (by omega)).trans ((gsL_b (by omega)).trans ((gsL_b (by omega)).trans ((gsL_b (by omega)).trans ((gsL_b (by omega)).trans ((gsL_b (by omega)).trans ((gsL_b (by omega)).trans ((gsL_b (by omega)).trans ((gsL_b (by omega)).trans ((gsL_b (by omega)).trans ((gsL_b (by omega)).trans ((gsL_b (by omega)).trans ((gsL_b (by omega)).trans ((gsL_b (by omega)).trans ((gsL_b (by omega)).trans ((gsL_b (by omega)).trans ((gsL_b (by omega)).trans ((gsL_b (by omega)).trans ((gsL_b (by omega)).trans (n_q11)))))))))))))))))))))))))))))
      | 12, _ => exact (gsL_b (by omega)).trans ((gsL_b (by omega)).trans ((gsL_b (by omega)).trans ((gsL_b (by omega)).trans ((gsL_b (by omega)).trans ((gsL_b (by omega)).trans ((gsL_b (by omega)).trans ((gsL_b (by omega)).trans ((gsL_b (by omega)).trans ((gsL_b (by omega)).trans ((gsL_b (by omega)).trans ((gsL_b (by omega)).trans ((gsL_b (by omega)).trans ((gsL_b (by omega)).trans ((gsL_b (by omega)).trans ((gsL_b (by omega)).trans ((gsL_b (by omega)).trans ((gsL_b (by omega)).trans ((gsL_b (by omega)).trans ((gsL_b (by omega)).trans ((gsL_b (by omega)).trans ((gsL_b (by omega)).trans ((gsL_b (by omega)).trans ((gsL_b (by omega)).trans ((gsL_b (by omega)).trans ((gsL_b (by omega)).trans ((gsL_b (by omega)).trans ((gsL_b (by omega)).trans ((gsL_b (by omega)).trans (n_q12)))))))))))))))))))))))))))))
      | 13, _ => exact (gsL_b (by omega)).trans ((gsL_b (by omega)).trans ((gsL_b (by omega)).trans ((gsL_b (by omega)).trans ((gsL_b (by omega)).trans ((gsL_b (by omega)).trans ((gsL_b (by omega)).trans ((gsL_b (by omega)).trans ((gsL_b (by omega)).trans ((gsL_b (by omega)).trans ((gsL_b (by omega)).trans ((gsL_b (by omega)).trans ((gsL_b (by omega)).trans ((gsL_b (by omega)).trans ((gsL_b (by omega)).trans ((gsL_b (by omega)).trans ((gsL_b (by omega)).trans ((gsL_b (by omega)).trans ((gsL_b (by omega)).trans ((gsL_b (by omega)).trans ((gsL_b (by omega)).trans ((gsL_b (by omega)).trans ((gsL_b (by omega)).trans ((gsL_b (by omega)).trans ((gsL_b (by omega)).trans ((gsL_b (by omega)).trans ((gsL_b (by omega)).trans ((gsL_b (by omega)).trans ((gsL_b (by omega)).trans (n_q13)))))))))))))))))))))))))))))
      | 14, _ => exact (gsL_b (by omega)).trans ((gsL_b (by omega)).trans ((gsL_b (by omega)).trans ((gsL_b (by omega)).trans ((gsL_b (by omega)).trans ((gsL_b (by omega)).trans ((gsL_b (by omega)).trans ((gsL_b (by omega)).trans ((gsL_b (by omega)).trans ((gsL_b (by omega)).trans ((gsL_b (by omega)).trans ((gsL_b (by omega)).trans ((gsL_b (by omega)).trans ((gsL_b (by omega)).trans ((gsL_b (by omega)).trans ((gsL_b (by omega)).trans ((gsL_b (by omega)).trans ((gsL_b (by omega)).trans ((gsL_b (by omega)).trans ((gsL_b (by omega)).trans ((gsL_b (by omega)).trans ((gsL_b (by omega)).trans ((gsL_b (by omega)).trans ((gsL_b (by omega)).trans ((gsL_b (by omega)).trans ((gsL_b (by omega)).trans ((gsL_b (by omega)).trans ((gsL_b (by omega)).trans ((gsL_b (by omega)).trans (n_q14)))))))))))))))))))))))))))))
      | 15, _ => exact (gsL_b (by omega)).trans ((gsL_b (by omega)).trans ((gsL_b (by omega)).trans ((gsL_b (by omega)).trans ((gsL_b (by omega)).trans ((gsL_b (by omega)).trans ((gsL_b (by omega)).trans ((gsL_b (by omega)).trans ((gsL_b (by omega)).trans ((gsL_b (by omega)).trans ((gsL_b (by omega)).trans ((gsL_b (by omega)).trans ((gsL_b (by omega)).trans ((gsL_b (by omega)).trans ((gsL_b (by omega)).trans ((gsL_b (by omega)).trans ((gsL_b (by omega)).trans ((gsL_b (by omega)).trans ((gsL_b (by omega)).trans ((gsL_b (by omega)).trans ((gsL_b (by omega)).trans ((gsL_b (by omega)).trans ((gsL_b (by omega)).trans ((gsL_b (by omega)).trans ((gsL_b (by omega)).trans ((gsL_b (by omega)).trans ((gsL_b (by omega)).trans ((gsL_b (by omega)).trans (n_q15))))))))))))))))))))))))))))
      | 16, _ => exact (gsL_b (by omega)).trans ((gsL_b (by omega)).trans ((gsL_b (by omega)).trans ((gsL_b (by omega)).trans ((gsL_b (by omega)).trans ((gsL_b (by omega)).trans ((gsL_b (by omega)).trans ((gsL_b (by omega)).trans ((gsL_b (by omega)).trans ((gsL_b (by omega)).trans ((gsL_b (by omega)).trans ((gsL_b (by omega)).trans ((gsL_b (by omega)).trans ((gsL_b (by omega)).trans ((gsL_b (by omega)).trans ((gsL_b (by omega)).trans ((gsL_b (by omega)).trans ((gsL_b (by omega)).trans ((gsL_b (by omega)).trans ((gsL_b (by omega)).trans ((gsL_b (by omega)).trans ((gsL_b (by omega)).trans ((gsL_b (by omega)).trans ((gsL_b (by omega)).trans ((gsL_b (by omega)).trans ((gsL_b (by omega)).trans ((gsL_b (by omega)).trans ((gsL_b (by omega)).trans (n_q16))))))))))))))))))))))))))))
      | 17, _ => exact (gsL_b (by omega)).trans ((gsL_b (by omega)).trans ((gsL_b (by omega)).trans ((gsL_b (by omega)).trans ((gsL_b (by omega)).trans ((gsL_b (by omega)).trans ((gsL_b (by omega)).trans ((gsL_b (by omega)).trans ((gsL_b (by omega)).trans ((gsL_b (by omega)).trans ((gsL_b (by omega)).trans ((gsL_b (by omega)).trans ((gsL_b (by omega)).trans ((gsL_b (by omega)).trans ((gsL_b (by omega)).trans ((gsL_b (by omega)).trans ((gsL_b (by omega)).trans ((gsL_b (by omega)).trans ((gsL_b (by omega)).trans ((gsL_b (by omega)).trans ((gsL_b (by omega)).trans ((gsL_b (by omega)).trans ((gsL_b (by omega)).trans ((gsL_b (by omega)).trans ((gsL_b (by omega)).trans ((gsL_b (by omega)).trans ((gsL_b (by omega)).trans ((gsL_b (by omega)).trans (n_q17))))))))))))))))))))))))))))
      | 18, _ => exact (gsL_b (by omega)).trans ((gsL_b (by omega)).trans ((gsL_b (by omega)).trans ((gsL_b (by omega)).trans ((gsL_b (by omega)).trans ((gsL_b (by omega)).trans ((gsL_b (by omega)).trans ((gsL_b (by omega)).trans ((gsL_b (by omega)).trans ((gsL_b (by omega)).trans ((gsL_b (by omega)).trans ((gsL_b (by omega)).trans ((gsL_b (by omega)).trans ((gsL_b (by omega)).trans ((gsL_b (by omega)).trans ((gsL_b (by omega)).trans ((gsL_b (by omega)).trans ((gsL_b (by omega)).trans ((gsL_b (by omega)).trans ((gsL_b (by omega)).trans ((gsL_b (by omega)).trans ((gsL_b (by omega)).trans ((gsL_b (by omega)).trans ((gsL_b (by omega)).trans ((gsL_b (by omega)).trans ((gsL_b (by omega)).trans ((gsL_b (by omega)).trans ((gsL_b (by omega)).trans (n_q18))))))))))))))))))))))))))))
      | 19, _ => exact (gsL_b (by omega)).trans ((gsL_b (by omega)).trans ((gsL_b (by omega)).trans ((gsL_b (by omega)).trans ((gsL_b (by omega)).trans ((gsL_b (by omega)).trans ((gsL_b (by omega)).trans ((gsL_b (by omega)).trans ((gsL_b (by omega)).trans ((gsL_b (by omega)).trans ((gsL_b (by omega)).trans ((gsL_b (by omega)).trans ((gsL_b (by omega)).trans ((gsL_b (by omega)).trans ((gsL_b (by omega)).trans ((gsL_b (by omega)).trans ((gsL_b (by omega)).trans ((gsL_b (by omega)).trans ((gsL_b (by omega)).trans ((gsL_b (by omega)).trans ((gsL_b (by omega)).trans ((gsL_b (by omega)).trans ((gsL_b (by omega)).trans ((gsL_b (by omega)).trans ((gsL_b (by omega)).trans ((gsL_b (by omega)).trans ((gsL_b (by omega)).trans ((gsL_b (by omega)).trans (n_q19))))))))))))))))))))))))))))
      | 20, _ => exact (gsL_b (by omega)).trans ((gsL_b (by omega)).trans ((gsL_b (by omega)).trans ((gsL_b (by omega)).trans ((gsL_b (by omega)).trans ((gsL_b (by omega)).trans ((gsL_b (by omega)).trans ((gsL_b (by omega)).trans ((gsL_b (by omega)).trans ((gsL_b (by omega)).trans ((gsL_b (by omega)).trans ((gsL_b (by omega)).trans ((gsL_b (by omega)).trans ((gsL_b (by omega)).trans ((gsL_b (by omega)).trans ((gsL_b (by omega)).trans ((gsL_b (by omega)).trans ((gsL_b (by omega)).trans ((gsL_b (by omega)).trans ((gsL_b (by omega)).trans ((gsL_b (by omega)).trans ((gsL_b (by omega)).trans ((gsL_b (by omega)).trans ((gsL_b (by omega)).trans ((gsL_b (by omega)).trans ((gsL_b (by omega)).trans ((gsL_b (by omega)).trans ((gsL_b (by omega)).trans (n_q20))))))))))))))))))))))))))))
      | 21, _ => exact (gsL_b (by omega)).trans ((gsL_b (by omega)).trans ((gsL_b (by omega)).trans ((gsL_b (by omega)).trans ((gsL_b (by omega)).trans ((gsL_b (by omega)).trans ((gsL_b (by omega)).trans ((gsL_b (by omega)).trans ((gsL_b (by omega)).trans ((gsL_b (by omega)).trans ((gsL_b (by omega)).trans ((gsL_b (by omega)).trans ((gsL_b (by omega)).trans ((gsL_b (by omega)).trans ((gsL_b (by omega)).trans ((gsL_b (by omega)).trans ((gsL_b (by omega)).trans ((gsL_b (by omega)).trans ((gsL_b (by omega)).trans ((gsL_b (by omega)).trans ((gsL_b (by omega)).trans ((gsL_b (by omega)).trans ((gsL_b (by omega)).trans ((gsL_b (by omega)).trans ((gsL_b (by omega)).trans ((gsL_b (by omega)).trans ((gsL_b (by omega)).trans ((gsL_b (by omega)).trans (n_q21))))))))))))))))))))))))))))
      | 22, _ => exact (gsL_b (by omega)).trans ((gsL_b (by omega)).trans ((gsL_b (by omega)).trans ((gsL_b (by omega)).trans ((gsL_b (by omega)).trans ((gsL_b (by omega)).trans ((gsL_b (by omega)).trans ((gsL_b (by omega)).trans ((gsL_b (by omega)).trans ((gsL_b (by omega)).trans ((gsL_b (by omega)).trans ((gsL_b (by omega)).trans ((gsL_b (by omega)).trans ((gsL_b (by omega)).trans ((gsL_b (by omega)).trans ((gsL_b (by omega)).trans ((gsL_b (by omega)).trans ((gsL_b (by omega)).trans ((gsL_b (by omega)).trans ((gsL_b (by omega)).trans ((gsL_b (by omega)).trans ((gsL_b (by omega)).trans ((gsL_b (by omega)).trans ((gsL_b (by omega)).trans ((gsL_b (by omega)).trans ((gsL_b (by omega)).trans ((gsL_b (by omega)).trans (n_q22)))))))))))))))))))))))))))
      | 23, _ => exact (gsL_b (by omega)).trans ((gsL_b (by omega)).trans ((gsL_b (by omega)).trans ((gsL_b (by omega)).trans ((gsL_b (by omega)).trans ((gsL_b (by omega)).trans ((gsL_b (by omega)).trans ((gsL_b (by omega)).trans ((gsL_b (by omega)).trans ((gsL_b (by omega)).trans ((gsL_b (by omega)).trans ((gsL_b (by omega)).trans ((gsL_b (by omega)).trans ((gsL_b (by omega)).trans ((gsL_b (by omega)).trans ((gsL_b (by omega)).trans ((gsL_b (by omega)).trans ((gsL_b (by omega)).trans ((gsL_b (by omega)).trans ((gsL_b (by omega)).trans ((gsL_b (by omega)).trans ((gsL_b (by omega)).trans ((gsL_b (by omega)).trans ((gsL_b (by omega)).trans ((gsL_b (by omega)).trans ((gsL_b (by omega)).trans (n_q23))))))))))))))))))))))))))
      | 24, _ => exact (gsL_b (by omega)).trans ((gsL_b (by omega)).trans ((gsL_b (by omega)).trans ((gsL_b (by omega)).trans ((gsL_b (by omega)).trans ((gsL_b (by omega)).trans ((gsL_b (by omega)).trans ((gsL_b (by omega)).trans ((gsL_b (by omega)).trans ((gsL_b (by omega)).trans ((gsL_b (by omega)).trans ((gsL_b (by omega)).trans ((gsL_b (by omega)).trans ((gsL_b (by omega)).trans ((gsL_b (by omega)).trans ((gsL_b (by omega)).trans ((gsL_b (by omega)).trans ((gsL_b (by omega)).trans ((gsL_b (by omega)).trans ((gsL_b (by omega)).trans ((gsL_b (by omega)).trans ((gsL_b (by omega)).trans ((gsL_b (by omega)).trans ((gsL_b (by omega)).trans ((gsL_b (by omega)).trans (n_q24)))))))))))))))))))))))))
      | 25, _ => exact (gsL_b (by omega)).trans ((gsL_b (by omega)).trans ((gsL_b (by omega)).trans ((gsL_b (by omega)).trans ((gsL_b (by omega)).trans ((gsL_b (by omega)).trans ((gsL_b (by omega)).trans ((gsL_b (by omega)).trans ((gsL_b (by omega)).trans ((gsL_b (by omega)).trans ((gsL_b (by omega)).trans ((gsL_b (by omega)).trans ((gsL_b (by omega)).trans ((gsL_b (by omega)).trans ((gsL_b (by omega)).trans ((gsL_b (by omega)).trans ((gsL_b (by omega)).trans ((gsL_b (by omega)).trans ((gsL_b (by omega)).trans ((gsL_b (by omega)).trans ((gsL_b (by omega)).trans ((gsL_b (by omega)).trans ((gsL_b (by omega)).trans ((gsL_b (by omega)).trans ((gsL_b (by omega)).trans (n_q25)))))))))))))))))))))))))
      | 26, _ => exact (gsL_b (by omega)).trans ((gsL_b (by omega)).trans ((gsL_b (by omega)).trans ((gsL_b (by omega)).trans ((gsL_b (by omega)).trans ((gsL_b (by omega)).trans ((gsL_b (by omega)).trans ((gsL_b (by omega)).trans ((gsL_b (by omega)).trans ((gsL_b (by omega)).trans ((gsL_b (by omega)).trans ((gsL_b (by omega)).trans ((gsL_b (by omega)).trans ((gsL_b (by omega)).trans ((gsL_b (by omega)).trans ((gsL_b (by omega)).trans ((gsL_b (by omega)).trans ((gsL_b (by omega)).trans ((gsL_b (by omega)).trans ((gsL_b (by omega)).trans ((gsL_b (by omega)).trans ((gsL_b (by omega)).trans ((gsL_b (by omega)).trans ((gsL_b (by omega)).trans ((gsL_b (by omega)).trans (n_q26)))))))))))))))))))))))))
      | 27, _ => exact (gsL_b (by omega)).trans ((gsL_b (by omega)).trans ((gsL_b (by omega)).trans ((gsL_b (by omega)).trans ((gsL_b (by omega)).trans ((gsL_b (by omega)).trans ((gsL_b (by omega)).trans ((gsL_b (by omega)).trans ((gsL_b (by omega)).trans ((gsL_b (by omega)).trans ((gsL_b (by omega)).trans ((gsL_b (by omega)).trans ((gsL_b (by omega)).trans ((gsL_b (by omega)).trans ((gsL_b (by omega)).trans ((gsL_b (by omega)).trans ((gsL_b (by omega)).trans ((gsL_b (by omega)).trans ((gsL_b (by omega)).trans ((gsL_b (by omega)).trans ((gsL_b (by omega)).trans ((gsL_b (by omega)).trans ((gsL_b (by omega)).trans ((gsL_b (by omega)).trans ((gsL_b (by omega)).trans (n_q27)))))))))))))))))))))))))
      | 28, _ => exact (gsL_b (by omega)).trans ((gsL_b (by omega)).trans ((gsL_b (by omega)).trans ((gsL_b (by omega)).trans ((gsL_b (by omega)).trans ((gsL_b (by omega)).trans ((gsL_b (by omega)).trans ((gsL_b (by omega)).trans ((gsL_b (by omega)).trans ((gsL_b (by omega)).trans ((gsL_b (by omega)).trans ((gsL_b (by omega)).trans ((gsL_b (by omega)).trans ((gsL_b (by omega)).trans ((gsL_b (by omega)).trans ((gsL_b (by omega)).trans ((gsL_b (by omega)).trans ((gsL_b (by omega)).trans ((gsL_b (by omega)).trans ((gsL_b (by omega)).trans ((gsL_b (by omega)).trans ((gsL_b (by omega)).trans ((gsL_b (by omega)).trans ((gsL_b (by omega)).trans ((gsL_b (by omega)).trans (n_q28)))))))))))))))))))))))))
      | 29, _ => exact (gsL_b (by omega)).trans ((gsL_b (by omega)).trans ((gsL_b (by omega)).trans ((gsL_b (by omega)).trans ((gsL_b (by omega)).trans ((gsL_b (by omega)).trans ((gsL_b (by omega)).trans ((gsL_b (by omega)).trans ((gsL_b (by omega)).trans ((gsL_b (by omega)).trans ((gsL_b (by omega)).trans ((gsL_b (by omega)).trans ((gsL_b (by omega)).trans ((gsL_b (by omega)).trans ((gsL_b (by omega)).trans ((gsL_b (by omega)).trans ((gsL_b (by omega)).trans ((gsL_b (by omega)).trans ((gsL_b (by omega)).trans ((gsL_b (by omega)).trans ((gsL_b (by omega)).trans ((gsL_b (by omega)).trans ((gsL_b (by omega)).trans ((gsL_b (by omega)).trans ((gsL_b (by omega)).trans (n_q29)))))))))))))))))))))))))
      | 30, _ => exact (gsL_b (by omega)).trans ((gsL_b (by omega)).trans ((gsL_b (by omega)).trans ((gsL_b (by omega)).trans ((gsL_b (by omega)).trans ((gsL_b (by omega)).trans ((gsL_b (by omega)).trans ((gsL_b (by omega)).trans ((gsL_b (by omega)).trans ((gsL_b (by omega)).trans ((gsL_b (by omega)).trans ((gsL_b (by omega)).trans ((gsL_b (by omega)).trans ((gsL_b (by omega)).trans ((gsL_b (by omega)).trans ((gsL_b (by omega)).trans ((gsL_b (by omega)).trans ((gsL_b (by omega)).trans ((gsL_b (by omega)).trans ((gsL_b (by omega)).trans ((gsL_b (by omega)).trans ((gsL_b (by omega)).trans ((gsL_b (by omega)).trans ((gsL_b (by omega)).trans ((gsL_b (by omega)).trans (n_q30)))))))))))))))))))))))))
      | 31, _ => exact (gsL_b (by omega)).trans ((gsL_b (by omega)).trans ((gsL_b (by omega)).trans ((gsL_b (by omega)).trans ((gsL_b (by omega)).trans ((gsL_b (by omega)).trans ((gsL_b (by omega)).trans ((gsL_b (by omega)).trans ((gsL_b (by omega)).trans ((gsL_b (by omega)).trans ((gsL_b (by omega)).trans ((gsL_b (by omega)).trans ((gsL_b (by omega)).trans ((gsL_b (by omega)).trans ((gsL_b (by omega)).trans ((gsL_b (by omega)).trans ((gsL_b (by omega)).trans ((gsL_b (by omega)).trans ((gsL_b (by omega)).trans ((gsL_b (by omega)).trans ((gsL_b (by omega)).trans ((gsL_b (by omega)).trans ((gsL_b (by omega)).trans ((gsL_b (by omega)).trans (n_q31))))))))))))))))))))))))
      | 32, _ => exact (gsL_b (by omega)).trans ((gsL_b (by omega)).trans ((gsL_b (by omega)).trans ((gsL_b (by omega)).trans ((gsL_b (by omega)).trans ((gsL_b (by omega)).trans ((gsL_b (by omega)).trans ((gsL_b (by omega)).trans ((gsL_b (by omega)).trans ((gsL_b (by omega)).trans ((gsL_b (by omega)).trans ((gsL_b (by omega)).trans ((gsL_b (by omega)).trans ((gsL_b (by omega)).trans ((gsL_b (by omega)).trans ((gsL_b (by omega)).trans ((gsL_b (by omega)).trans ((gsL_b (by omega)).trans ((gsL_b (by omega)).trans ((gsL_b (by omega)).trans ((gsL_b (by omega)).trans ((gsL_b (by omega)).trans ((gsL_b (by omega)).trans ((gsL_b (by omega)).trans (n_q32))))))))))))))))))))))))
      | 33, _ => exact (gsL_b (by omega)).trans ((gsL_b (by omega)).trans ((gsL_b (by omega)).trans ((gsL_b (by omega)).trans ((gsL_b (by omega)).trans ((gsL_b (by omega)).trans ((gsL_b (by omega)).trans ((gsL_b (by omega)).trans ((gsL_b (by omega)).trans ((gsL_b (by omega)).trans ((gsL_b (by omega)).trans ((gsL_b (by omega)).trans ((gsL_b (by omega)).trans ((gsL_b (by omega)).trans ((gsL_b (by omega)).trans ((gsL_b (by omega)).trans ((gsL_b (by omega)).trans ((gsL_b (by omega)).trans ((gsL_b (by omega)).trans ((gsL_b (by omega)).trans ((gsL_b (by omega)).trans ((gsL_b (by omega)).trans ((gsL_b (by omega)).trans ((gsL_b (by omega)).trans (n_q33))))))))))))))))))))))))
      | 34, _ => exact (gsL_b (by omega)).trans ((gsL_b (by omega)).trans ((gsL_b (by omega)).trans ((gsL_b (by omega)).trans ((gsL_b (by omega)).trans ((gsL_b (by omega)).trans ((gsL_b (by omega)).trans ((gsL_b (by omega)).trans ((gsL_b (by omega)).trans ((gsL_b (by omega)).trans ((gsL_b (by omega)).trans ((gsL_b (by omega)).trans ((gsL_b (by omega)).trans ((gsL_b (by omega)).trans ((gsL_b (by omega)).trans ((gsL_b (by omega)).trans ((gsL_b (by omega)).trans ((gsL_b (by omega)).trans ((gsL_b (by omega)).trans ((gsL_b (by omega)).trans ((gsL_b (by omega)).trans ((gsL_b (by omega)).trans ((gsL_b (by omega)).trans ((gsL_b (by omega)).trans (n_q34))))))))))))))))))))))))
      | 35, _ => exact (gsL_b (by omega)).trans ((gsL_b (by omega)).trans ((gsL_b (by omega)).trans ((gsL_b (by omega)).trans ((gsL_b (by omega)).trans ((gsL_b (by omega)).trans ((gsL_b (by omega)).trans ((gsL_b (by omega)).trans ((gsL_b (by omega)).trans ((gsL_b (by omega)).trans ((gsL_b (by omega)).trans ((gsL_b (by omega)).trans ((gsL_b (by omega)).trans ((gsL_b (by omega)).trans ((gsL_b (by omega)).trans ((gsL_b (by omega)).trans ((gsL_b (by omega)).trans ((gsL_b (by omega)).trans ((gsL_b (by omega)).trans ((gsL_b (by omega)).trans ((gsL_b (by omega)).trans ((gsL_b (by omega)).trans ((gsL_b (by omega)).trans ((gsL_b (by omega)).trans (n_q35))))))))))))))))))))))))
      | 36, _ => exact (gsL_b (by omega)).trans ((gsL_b (by omega)).trans ((gsL_b (by omega)).trans ((gsL_b (by omega)).trans ((gsL_b (by omega)).trans ((gsL_b (by omega)).trans ((gsL_b (by omega)).trans ((gsL_b (by omega)).trans ((gsL_b (by omega)).trans ((gsL_b (by omega)).trans ((gsL_b (by omega)).trans ((gsL_b (by omega)).trans ((gsL_b (by omega)).trans ((gsL_b (by omega)).trans ((gsL_b (by omega)).trans ((gsL_b (by omega)).trans ((gsL_b (by omega)).trans ((gsL_b (by omega)).trans ((gsL_b (by omega)).trans ((gsL_b (by omega)).trans ((gsL_b (by omega)).trans ((gsL_b (by omega)).trans ((gsL_b (by omega)).trans ((gsL_b (by omega)).trans (n_q36))))))))))))))))))))))))
      | 37, _ => exact (gsL_b (by omega)).trans ((gsL_b (by omega)).trans ((gsL_b (by omega)).trans ((gsL_b (by omega)).trans ((gsL_b (by omega)).trans ((gsL_b (by omega)).trans ((gsL_b (by omega)).trans ((gsL_b (by omega)).trans ((gsL_b (by omega)).trans ((gsL_b (by omega)).trans ((gsL_b (by omega)).trans ((gsL_b (by omega)).trans ((gsL_b (by omega)).trans ((gsL_b (by omega)).trans ((gsL_b (by omega)).trans ((gsL_b (by omega)).trans ((gsL_b (by omega)).trans ((gsL_b (by omega)).trans ((gsL_b (by omega)).trans ((gsL_b (by omega)).trans ((gsL_b (by omega)).trans ((gsL_b (by omega)).trans ((gsL_b (by omega)).trans ((gsL_b (by omega)).trans (n_q37))))))))))))))))))))))))
      | 38, _ => exact (gsL_b (by omega)).trans ((gsL_b (by omega)).trans ((gsL_b (by omega)).trans ((gsL_b (by omega)).trans ((gsL_b (by omega)).trans ((gsL_b (by omega)).trans ((gsL_b (by omega)).trans ((gsL_b (by omega)).trans ((gsL_b (by omega)).trans ((gsL_b (by omega)).trans ((gsL_b (by omega)).trans ((gsL_b (by omega)).trans ((gsL_b (by omega)).trans ((gsL_b (by omega)).trans ((gsL_b (by omega)).trans ((gsL_b (by omega)).trans ((gsL_b (by omega)).trans ((gsL_b (by omega)).trans ((gsL_b (by omega)).trans ((gsL_b (by omega)).trans ((gsL_b (by omega)).trans ((gsL_b (by omega)).trans ((gsL_b (by omega)).trans (n_q38)))))))))))))))))))))))
      | 39, _ => exact (gsL_b (by omega)).trans ((gsL_b (by omega)).trans ((gsL_b (by omega)).trans ((gsL_b (by omega)).trans ((gsL_b (by omega)).trans ((gsL_b (by omega)).trans ((gsL_b (by omega)).trans ((gsL_b (by omega)).trans ((gsL_b (by omega)).trans ((gsL_b (by omega)).trans ((gsL_b (by omega)).trans ((gsL_b (by omega)).trans ((gsL_b (by omega)).trans ((gsL_b (by omega)).trans ((gsL_b (by omega)).trans ((gsL_b (by omega)).trans ((gsL_b (by omega)).trans ((gsL_b (by omega)).trans ((gsL_b (by omega)).trans ((gsL_b (by omega)).trans ((gsL_b (by omega)).trans ((gsL_b (by omega)).trans ((gsL_b (by omega)).trans (n_q39)))))))))))))))))))))))
      | 40, _ => exact (gsL_b (by omega)).trans ((gsL_b (by omega)).trans ((gsL_b (by omega)).trans ((gsL_b (by omega)).trans ((gsL_b (by omega)).trans ((gsL_b (by omega)).trans ((gsL_b (by omega)).trans ((gsL_b (by omega)).trans ((gsL_b (by omega)).trans ((gsL_b (by omega)).trans ((gsL_b (by omega)).trans ((gsL_b (by omega)).trans ((gsL_b (by omega)).trans ((gsL_b (by omega)).trans ((gsL_b (by omega)).trans ((gsL_b (by omega)).trans ((gsL_b (by omega)).trans ((gsL_b (by omega)).trans ((gsL_b (by omega)).trans ((gsL_b (by omega)).trans ((gsL_b (by omega)).trans ((gsL_b (by omega)).trans ((gsL_b (by omega)).trans (n_q40)))))))))))))))))))))))
      | 41, _ => exact (gsL_b (by omega)).trans ((gsL_b (by omega)).trans ((gsL_b (by omega)).trans ((gsL_b (by omega)).trans ((gsL_b (by omega)).trans ((gsL_b (by omega)).trans ((gsL_b (by omega)).trans ((gsL_b (by omega)).trans ((gsL_b (by omega)).trans ((gsL_b (by omega)).trans ((gsL_b (by omega)).trans ((gsL_b (by omega)).trans ((gsL_b (by omega)).trans ((gsL_b (by omega)).trans ((gsL_b (by omega)).trans ((gsL_b (by omega)).trans ((gsL_b (by omega)).trans ((gsL_b (by omega)).trans ((gsL_b (by omega)).trans ((gsL_b (by omega)).trans ((gsL_b (by omega)).trans ((gsL_b (by omega)).trans ((gsL_b (by omega)).trans (n_q41)))))))))))))))))))))))
      | 42, _ => exact (gsL_b (by omega)).trans ((gsL_b (by omega)).trans ((gsL_b (by omega)).trans ((gsL_b (by omega)).trans ((gsL_b (by omega)).trans ((gsL_b (by omega)).trans ((gsL_b (by omega)).trans ((gsL_b (by omega)).trans ((gsL_b (by omega)).trans ((gsL_b (by omega)).trans ((gsL_b (by omega)).trans ((gsL_b (by omega)).trans ((gsL_b (by omega)).trans ((gsL_b (by omega)).trans ((gsL_b (by omega)).trans ((gsL_b (by omega)).trans ((gsL_b (by omega)).trans ((gsL_b (by omega)).trans ((gsL_b (by omega)).trans ((gsL_b (by omega)).trans ((gsL_b (by omega)).trans ((gsL_b (by omega)).trans ((gsL_b (by omega)).trans (n_q42)))))))))))))))))))))))
      | 43, _ => exact (gsL_b (by omega)).trans ((gsL_b (by omega)).trans ((gsL_b (by omega)).trans ((gsL_b (by omega)).trans ((gsL_b (by omega)).trans ((gsL_b (by omega)).trans ((gsL_b (by omega)).trans ((gsL_b (by omega)).trans ((gsL_b (by omega)).trans ((gsL_b (by omega)).trans ((gsL_b (by omega)).trans ((gsL_b (by omega)).trans ((gsL_b (by omega)).trans ((gsL_b (by omega)).trans ((gsL_b (by omega)).trans ((gsL_b (by omega)).trans ((gsL_b (by omega)).trans ((gsL_b (by omega)).trans ((gsL_b (by omega)).trans ((gsL_b (by omega)).trans ((gsL_b (by omega)).trans ((gsL_b (by omega)).trans ((gsL_b (by omega)).trans (n_q43)))))))))))))))))))))))
      | 44, _ => exact (gsL_b (by omega)).trans ((gsL_b (by omega)).trans ((gsL_b (by omega)).trans ((gsL_b (by omega)).trans ((gsL_b (by omega)).trans ((gsL_b (by omega)).trans ((gsL_b (by omega)).trans ((gsL_b (by omega)).trans ((gsL_b (by omega)).trans ((gsL_b (by omega)).trans ((gsL_b (by omega)).trans ((gsL_b (by omega)).trans ((gsL_b (by omega)).trans ((gsL_b (by omega)).trans ((gsL_b (by omega)).trans ((gsL_b (by omega)).trans ((gsL_b (by omega)).trans ((gsL_b (by omega)).trans ((gsL_b (by omega)).trans ((gsL_b (by omega)).trans ((gsL_b (by omega)).trans ((gsL_b (by omega)).trans ((gsL_b (by omega)).trans (n_q44)))))))))))))))))))))))
      | 45, _ => exact (gsL_b (by omega)).trans ((gsL_b (by omega)).trans ((gsL_b (by omega)).trans ((gsL_b (by omega)).trans ((gsL_b (by omega)).trans ((gsL_b (by omega)).trans ((gsL_b (by omega)).trans ((gsL_b (by omega)).trans ((gsL_b (by omega)).trans ((gsL_b (by omega)).trans ((gsL_b (by omega)).trans ((gsL_b (by omega)).trans ((gsL_b (by omega)).trans ((gsL_b (by omega)).trans ((gsL_b (by omega)).trans ((gsL_b (by omega)).trans ((gsL_b (by omega)).trans ((gsL_b (by omega)).trans ((gsL_b (by omega)).trans ((gsL_b (by omega)).trans ((gsL_b (by omega)).trans ((gsL_b (by omega)).trans (n_q45))))))))))))))))))))))
      | 46, _ => exact (gsL_b (by omega)).trans ((gsL_b (by omega)).trans ((gsL_b (by omega)).trans ((gsL_b (by omega)).trans ((gsL_b (by omega)).trans ((gsL_b (by omega)).trans ((gsL_b (by omega)).trans ((gsL_b (by omega)).trans ((gsL_b (by omega)).trans ((gsL_b (by omega)).trans ((gsL_b (by omega)).trans ((gsL_b (by omega)).trans ((gsL_b (by omega)).trans ((gsL_b (by omega)).trans ((gsL_b (by omega)).trans ((gsL_b (by omega)).trans ((gsL_b (by omega)).trans ((gsL_b (by omega)).trans ((gsL_b (by omega)).trans ((gsL_b (by omega)).trans ((gsL_b (by omega)).trans ((gsL_b (by omega)).trans (n_q46))))))))))))))))))))))
      | 47, _ => exact (gsL_b (by omega)).trans ((gsL_b (by omega)).trans ((gsL_b (by omega)).trans ((gsL_b (by omega)).trans ((gsL_b (by omega)).trans ((gsL_b (by omega)).trans ((gsL_b (by omega)).trans ((gsL_b (by omega)).trans ((gsL_b (by omega)).trans ((gsL_b (by omega)).trans ((gsL_b (by omega)).trans ((gsL_b (by omega)).trans ((gsL_b (by omega)).trans ((gsL_b (by omega)).trans ((gsL_b (by omega)).trans ((gsL_b (by omega)).trans ((gsL_b (by omega)).trans ((gsL_b (by omega)).trans ((gsL_b (by omega)).trans ((gsL_b (by omega)).trans ((gsL_b (by omega)).trans ((gsL_b (by omega)).trans (n_q47))))))))))))))))))))))
      | 48, _ => exact (gsL_b (by omega)).trans ((gsL_b (by omega)).trans ((gsL_b (by omega)).trans ((gsL_b (by omega)).trans ((gsL_b (by omega)).trans ((gsL_b (by omega)).trans ((gsL_b (by omega)).trans ((gsL_b (by omega)).trans ((gsL_b (by omega)).trans ((gsL_b (by omega)).trans ((gsL_b (by omega)).trans ((gsL_b (by omega)).trans ((gsL_b (by omega)).trans ((gsL_b (by omega)).trans ((gsL_b (by omega)).trans ((gsL_b (by omega)).trans ((gsL_b (by omega)).trans ((gsL_b (by omega)).trans ((gsL_b (by omega)).trans ((gsL_b (by omega)).trans ((gsL_b (by omega)).trans ((gsL_b (by omega)).trans (n_q48))))))))))))))))))))))
      | 49, _ => exact (gsL_b (by omega)).trans ((gsL_b (by omega)).trans ((gsL_b (by omega)).trans ((gsL_b (by omega)).trans ((gsL_b (by omega)).trans ((gsL_b (by omega)).trans ((gsL_b (by omega)).trans ((gsL_b (by omega)).trans ((gsL_b (by omega)).trans ((gsL_b (by omega)).trans ((gsL_b (by omega)).trans ((gsL_b (by omega)).trans ((gsL_b (by omega)).trans ((gsL_b (by omega)).trans ((gsL_b (by omega)).trans ((gsL_b (by omega)).trans ((gsL_b (by omega)).trans ((gsL_b (by omega)).trans ((gsL_b (by omega)).trans ((gsL_b (by omega)).trans ((gsL_b (by omega)).trans ((gsL_b (by omega)).trans (n_q49))))))))))))))))))))))
      | 50, _ => exact (gsL_b (by omega)).trans ((gsL_b (by omega)).trans ((gsL_b (by omega)).trans ((gsL_b (by omega)).trans ((gsL_b (by omega)).trans ((gsL_b (by omega)).trans ((gsL_b (by omega)).trans ((gsL_b (by omega)).trans ((gsL_b (by omega)).trans ((gsL_b (by omega)).trans ((gsL_b (by omega)).trans ((gsL_b (by omega)).trans ((gsL_b (by omega)).trans ((gsL_b (by omega)).trans ((gsL_b (by omega)).trans ((gsL_b (by omega)).trans ((gsL_b (by omega)).trans ((gsL_b (by omega)).trans ((gsL_b (by omega)).trans ((gsL_b (by omega)).trans ((gsL_b (by omega)).trans ((gsL_b (by omega)).trans (n_q50))))))))))))))))))))))
      | 51, _ => exact (gsL_b (by omega)).trans ((gsL_b (by omega)).trans ((gsL_b (by omega)).trans ((gsL_b (by omega)).trans ((gsL_b (by omega)).trans ((gsL_b (by omega)).trans ((gsL_b (by omega)).trans ((gsL_b (by omega)).trans ((gsL_b (by omega)).trans ((gsL_b (by omega)).trans ((gsL_b (by omega)).trans ((gsL_b (by omega)).trans ((gsL_b (by omega)).trans ((gsL_b (by omega)).trans ((gsL_b (by omega)).trans ((gsL_b (by omega)).trans ((gsL_b (by omega)).trans ((gsL_b (by omega)).trans ((gsL_b (by omega)).trans ((gsL_b (by omega)).trans ((gsL_b (by omega)).trans ((gsL_b (by omega)).trans (n_q51))))))))))))))))))))))
      | 52, _ => exact (gsL_b (by omega)).trans ((gsL_b (by omega)).trans ((gsL_b (by omega)).trans ((gsL_b (by omega)).trans ((gsL_b (by omega)).trans ((gsL_b (by omega)).trans ((gsL_b (by omega)).trans ((gsL_b (by omega)).trans ((gsL_b (by omega)).trans ((gsL_b (by omega)).trans ((gsL_b (by omega)).trans ((gsL_b (by omega)).trans ((gsL_b (by omega)).trans ((gsL_b (by omega)).trans ((gsL_b (by omega)).trans ((gsL_b (by omega)).trans ((gsL_b (by omega)).trans ((gsL_b (by omega)).trans ((gsL_b (by omega)).trans ((gsL_b (by omega)).trans ((gsL_b (by omega)).trans (n_q52)))))))))))))))))))))
      | 53, _ => exact (gsL_b (by omega)).trans ((gsL_b (by omega)).trans ((gsL_b (by omega)).trans ((gsL_b (by omega)).trans ((gsL_b (by omega)).trans ((gsL_b (by omega)).trans ((gsL_b (by omega)).trans ((gsL_b (by omega)).trans ((gsL_b (by omega)).trans ((gsL_b (by omega)).trans ((gsL_b (by omega)).trans ((gsL_b (by omega)).trans ((gsL_b (by omega)).trans ((gsL_b (by omega)).trans ((gsL_b (by omega)).trans ((gsL_b (by omega)).trans ((gsL_b (by omega)).trans ((gsL_b (by omega)).trans ((gsL_b (by omega)).trans ((gsL_b (by omega)).trans ((gsL_b (by omega)).trans (n_q53)))))))))))))))))))))
      | 54, _ => exact (gsL_b (by omega)).trans ((gsL_b (by omega)).trans ((gsL_b (by omega)).trans ((gsL_b (by omega)).trans ((gsL_b (by omega)).trans ((gsL_b (by omega)).trans ((gsL_b (by omega)).trans ((gsL_b (by omega)).trans ((gsL_b (by omega)).trans ((gsL_b (by omega)).trans ((gsL_b (by omega)).trans ((gsL_b (by omega)).trans ((gsL_b (by omega)).trans ((gsL_b (by omega)).trans ((gsL_b (by omega)).trans ((gsL_b (by omega)).trans ((gsL_b (by omega)).trans ((gsL_b (by omega)).trans ((gsL_b (by omega)).trans ((gsL_b (by omega)).trans ((gsL_b (by omega)).trans (n_q54)))))))))))))))))))))
      | 55, _ => exact (gsL_b (by omega)).trans ((gsL_b (by omega)).trans ((gsL_b (by omega)).trans ((gsL_b (by omega)).trans ((gsL_b (by omega)).trans ((gsL_b (by omega)).trans ((gsL_b (by omega)).trans ((gsL_b (by omega)).trans ((gsL_b (by omega)).trans ((gsL_b (by omega)).trans ((gsL_b (by omega)).trans ((gsL_b (by omega)).trans ((gsL_b (by omega)).trans ((gsL_b (by omega)).trans ((gsL_b (by omega)).trans ((gsL_b (by omega)).trans ((gsL_b (by omega)).trans ((gsL_b (by omega)).trans ((gsL_b (by omega)).trans ((gsL_b (by omega)).trans ((gsL_b (by omega)).trans (n_q55)))))))))))))))))))))
      | 56, _ => exact (gsL_b (by omega)).trans ((gsL_b (by omega)).trans ((gsL_b (by omega)).trans ((gsL_b (by omega)).trans ((gsL_b (by omega)).trans ((gsL_b (by omega)).trans ((gsL_b (by omega)).trans ((gsL_b (by omega)).trans ((gsL_b (by omega)).trans ((gsL_b (by omega)).trans ((gsL_b (by omega)).trans ((gsL_b (by omega)).trans ((gsL_b (by omega)).trans ((gsL_b (by omega)).trans ((gsL_b (by omega)).trans ((gsL_b (by omega)).trans ((gsL_b (by omega)).trans ((gsL_b (by omega)).trans ((gsL_b (by omega)).trans ((gsL_b (by omega)).trans ((gsL_b (by omega)).trans (n_q56)))))))))))))))))))))
      | 57, _ => exact (gsL_b (by omega)).trans ((gsL_b (by omega)).trans ((gsL_b (by omega)).trans ((gsL_b (by omega)).trans ((gsL_b (by omega)).trans ((gsL_b (by omega)).trans ((gsL_b (by omega)).trans ((gsL_b (by omega)).trans ((gsL_b (by omega)).trans ((gsL_b (by omega)).trans ((gsL_b (by omega)).trans ((gsL_b (by omega)).trans ((gsL_b (by omega)).trans ((gsL_b (by omega)).trans ((gsL_b (by omega)).trans ((gsL_b (by omega)).trans ((gsL_b (by omega)).trans ((gsL_b (by omega)).trans ((gsL_b (by omega)).trans ((gsL_b (by omega)).trans ((gsL_b (by omega)).trans (n_q57)))))))))))))))))))))
      | 58, _ => exact (gsL_b (by omega)).trans ((gsL_b (by omega)).trans ((gsL_b (by omega)).trans ((gsL_b (by omega)).trans ((gsL_b (by omega)).trans ((gsL_b (by omega)).trans ((gsL_b (by omega)).trans ((gsL_b (by omega)).trans ((gsL_b (by omega)).trans ((gsL_b (by omega)).trans ((gsL_b (by omega)).trans ((gsL_b (by omega)).trans ((gsL_b (by omega)).trans ((gsL_b (by omega)).trans ((gsL_b (by omega)).trans ((gsL_b (by omega)).trans ((gsL_b (by omega)).trans ((gsL_b (by omega)).trans ((gsL_b (by omega)).trans ((gsL_b (by omega)).trans ((gsL_b (by omega)).trans (n_q58)))))))))))))))))))))
      | 59, _ => exact (gsL_b (by omega)).trans ((gsL_b (by omega)).trans ((gsL_b (by omega)).trans ((gsL_b (by omega)).trans ((gsL_b (by omega)).trans ((gsL_b (by omega)).trans ((gsL_b (by omega)).trans ((gsL_b (by omega)).trans ((gsL_b (by omega)).trans ((gsL_b (by omega)).trans ((gsL_b (by omega)).trans ((gsL_b (by omega)).trans ((gsL_b (by omega)).trans ((gsL_b (by omega)).trans ((gsL_b (by omega)).trans ((gsL_b (by omega)).trans ((gsL_b (by omega)).trans ((gsL_b (by omega)).trans ((gsL_b (by omega)).trans ((gsL_b (by omega)).trans (n_q59))))))))))))))))))))
      | 60, _ => exact (gsL_b (by omega)).trans ((gsL_b (by omega)).trans ((gsL_b (by omega)).trans ((gsL_b (by omega)).trans ((gsL_b (by omega)).trans ((gsL_b (by omega)).trans ((gsL_b (by omega)).trans ((gsL_b (by omega)).trans ((gsL_b (by omega)).trans ((gsL_b (by omega)).trans ((gsL_b (by omega)).trans ((gsL_b (by omega)).trans ((gsL_b (by omega)).trans ((gsL_b (by omega)).trans ((gsL_b (by omega)).trans ((gsL_b (by omega)).trans ((gsL_b (by omega)).trans ((gsL_b (by omega)).trans ((gsL_b (by omega)).trans ((gsL_b (by omega)).trans (n_q60))))))))))))))))))))
      | 61, _ => exact (gsL_b (by omega)).trans ((gsL_b (by omega)).trans ((gsL_b (by omega)).trans ((gsL_b (by omega)).trans ((gsL_b (by omega)).trans ((gsL_b (by omega)).trans ((gsL_b (by omega)).trans ((gsL_b (by omega)).trans ((gsL_b (by omega)).trans ((gsL_b (by omega)).trans ((gsL_b (by omega)).trans ((gsL_b (by omega)).trans ((gsL_b (by omega)).trans ((gsL_b (by omega)).trans ((gsL_b (by omega)).trans ((gsL_b (by omega)).trans ((gsL_b (by omega)).trans ((gsL_b (by omega)).trans ((gsL_b (by omega)).trans ((gsL_b (by omega)).trans (n_q61))))))))))))))))))))
      | 62, _ => exact (gsL_b (by omega)).trans ((gsL_b (by omega)).trans ((gsL_b (by omega)).trans ((gsL_b (by omega)).trans ((gsL_b (by omega)).trans ((gsL_b (by omega)).trans ((gsL_b (by omega)).trans ((gsL_b (by omega)).trans ((gsL_b (by omega)).trans ((gsL_b (by omega)).trans ((gsL_b (by omega)).trans ((gsL_b (by omega)).trans ((gsL_b (by omega)).trans ((gsL_b (by omega)).trans ((gsL_b (by omega)).trans ((gsL_b (by omega)).trans ((gsL_b (by omega)).trans ((gsL_b (by omega)).trans ((gsL_b (by omega)).trans ((gsL_b (by omega)).trans (n_q62))))))))))))))))))))
      | 63, _ => exact (gsL_b (by omega)).trans ((gsL_b (by omega)).trans ((gsL_b (by omega)).trans ((gsL_b (by omega)).trans ((gsL_b (by omega)).trans ((gsL_b (by omega)).trans ((gsL_b (by omega)).trans ((gsL_b (by omega)).trans ((gsL_b (by omega)).trans ((gsL_b (by omega)).trans ((gsL_b (by omega)).trans ((gsL_b (by omega)).trans ((gsL_b (by omega)).trans ((gsL_b (by omega)).trans ((gsL_b (by omega)).trans ((gsL_b (by omega)).trans ((gsL_b (by omega)).trans ((gsL_b (by omega)).trans ((gsL_b (by omega)).trans ((gsL_b (by omega)).trans (n_q63))))))))))))))))))))
      | 64, _ => exact (gsL_b (by omega)).trans ((gsL_b (by omega)).trans ((gsL_b (by omega)).trans ((gsL_b (by omega)).trans ((gsL_b (by omega)).trans ((gsL_b (by omega)).trans ((gsL_b (by omega)).trans ((gsL_b (by omega)).trans ((gsL_b (by omega)).trans ((gsL_b (by omega)).trans ((gsL_b (by omega)).trans ((gsL_b (by omega)).trans ((gsL_b (by omega)).trans ((gsL_b (by omega)).trans ((gsL_b (by omega)).trans ((gsL_b (by omega)).trans ((gsL_b (by omega)).trans ((gsL_b (by omega)).trans ((gsL_b (by omega)).trans ((gsL_b (by omega)).trans (n_q64))))))))))))))))))))
      | 65, _ => exact (gsL_b (by omega)).trans ((gsL_b (by omega)).trans ((gsL_b (by omega)).trans ((gsL_b (by omega)).trans ((gsL_b (by omega)).trans ((gsL_b (by omega)).trans ((gsL_b (by omega)).trans ((gsL_b (by omega)).trans ((gsL_b (by omega)).trans ((gsL_b (by omega)).trans ((gsL_b (by omega)).trans ((gsL_b (by omega)).trans ((gsL_b (by omega)).trans ((gsL_b (by omega)).trans ((gsL_b (by omega)).trans ((gsL_b (by omega)).trans ((gsL_b (by omega)).trans ((gsL_b (by omega)).trans ((gsL_b (by omega)).trans ((gsL_b (by omega)).trans (n_q65))))))))))))))))))))
      | 66, _ => exact (gsL_b (by omega)).trans ((gsL_b (by omega)).trans ((gsL_b (by omega)).trans ((gsL_b (by omega)).trans ((gsL_b (by omega)).trans ((gsL_b (by omega)).trans ((gsL_b (by omega)).trans ((gsL_b (by omega)).trans ((gsL_b (by omega)).trans ((gsL_b (by omega)).trans ((gsL_b (by omega)).trans ((gsL_b (by omega)).trans ((gsL_b (by omega)).trans ((gsL_b (by omega)).trans ((gsL_b (by omega)).trans ((gsL_b (by omega)).trans ((gsL_b (by omega)).trans ((gsL_b (by omega)).trans ((gsL_b (by omega)).trans (n_q66)))))))))))))))))))
      | 67, _ => exact (gsL_b (by omega)).trans ((gsL_b (by omega)).trans ((gsL_b (by omega)).trans ((gsL_b (by omega)).trans ((gsL_b (by omega)).trans ((gsL_b (by omega)).trans ((gsL_b (by omega)).trans ((gsL_b (by omega)).trans ((gsL_b (by omega)).trans ((gsL_b (by omega)).trans ((gsL_b (by omega)).trans ((gsL_b (by omega)).trans ((gsL_b (by omega)).trans ((gsL_b (by omega)).trans ((gsL_b (by omega)).trans ((gsL_b (by omega)).trans ((gsL_b (by omega)).trans ((gsL_b (by omega)).trans (n_q67))))))))))))))))))
      | 68, _ => exact (gsL_b (by omega)).trans ((gsL_b (by omega)).trans ((gsL_b (by omega)).trans ((gsL_b (by omega)).trans ((gsL_b (by omega)).trans ((gsL_b (by omega)).trans ((gsL_b (by omega)).trans ((gsL_b (by omega)).trans ((gsL_b (by omega)).trans ((gsL_b (by omega)).trans ((gsL_b (by omega)).trans ((gsL_b (by omega)).trans ((gsL_b (by omega)).trans ((gsL_b (by omega)).trans ((gsL_b (by omega)).trans ((gsL_b (by omega)).trans ((gsL_b (by omega)).trans (n_q68)))))))))))))))))
      | 69, _ => exact (gsL_b (by omega)).trans ((gsL_b (by omega)).trans ((gsL_b (by omega)).trans ((gsL_b (by omega)).trans ((gsL_b (by omega)).trans ((gsL_b (by omega)).trans ((gsL_b (by omega)).trans ((gsL_b (by omega)).trans ((gsL_b (by omega)).trans ((gsL_b (by omega)).trans ((gsL_b (by omega)).trans ((gsL_b (by omega)).trans ((gsL_b (by omega)).trans ((gsL_b (by omega)).trans ((gsL_b (by omega)).trans ((gsL_b (by omega)).trans (n_q69))))))))))))))))
      | q + 70, hq => exact absurd hq (by omega)
    · have hz : zhc zC0 zMz (zer2 zC0 ((140, 0, sl), fun q => if q = 1000 then some (.inl (9, L, .inl xs)) else none)) q = (zhc zC0 zMz ((140, 0, sl), fun q => if q = 1000 then some (.inl (9, L, .inl xs)) else none) (q - 70)).map rnC := by
        rw [zhc_hi _ _ _ (by omega)]
        exact if_pos hq
      rw [hz]
      match q, hq, h70 with
      | 0, _, h => exact absurd (show 0 < 70 by omega) h
      | 1, _, h => exact absurd (show 1 < 70 by omega) h
      | 2, _, h => exact absurd (show 2 < 70 by omega) h
      | 3, _, h => exact absurd (show 3 < 70 by omega) h
      | 4, _, h => exact absurd (show 4 < 70 by omega) h
      | 5, _, h => exact absurd (show 5 < 70 by omega) h
      | 6, _, h => exact absurd (show 6 < 70 by omega) h
      | 7, _, h => exact absurd (show 7 < 70 by omega) h
      | 8, _, h => exact absurd (show 8 < 70 by omega) h
      | 9, _, h => exact absurd (show 9 < 70 by omega) h
      | 10, _, h => exact absurd (show 10 < 70 by omega) h
      | 11, _, h => exact absurd (show 11 < 70 by omega) h
      | 12, _, h => exact absurd (show 12 < 70 by omega) h
      | 13, _, h => exact absurd (show 13 < 70 by omega) h
      | 14, _, h => exact absurd (show 14 < 70 by omega) h
      | 15, _, h => exact absurd (show 15 < 70 by omega) h
      | 16, _, h => exact absurd (show 16 < 70 by omega) h
      | 17, _, h => exact absurd (show 17 < 70 by omega) h
      | 18, _, h => exact absurd (show 18 < 70 by omega) h
      | 19, _, h => exact absurd (show 19 < 70 by omega) h
      | 20, _, h => exact absurd (show 20 < 70 by omega) h
      | 21, _, h => exact absurd (show 21 < 70 by omega) h
      | 22, _, h => exact absurd (show 22 < 70 by omega) h
      | 23, _, h => exact absurd (show 23 < 70 by omega) h
      | 24, _, h => exact absurd (show 24 < 70 by omega) h
      | 25, _, h => exact absurd (show 25 < 70 by omega) h
      | 26, _, h => exact absurd (show 26 < 70 by omega) h
      | 27, _, h => exact absurd (show 27 < 70 by omega) h
      | 28, _, h => exact absurd (show 28 < 70 by omega) h
      | 29, _, h => exact absurd (show 29 < 70 by omega) h
      | 30, _, h => exact absurd (show 30 < 70 by omega) h
      | 31, _, h => exact absurd (show 31 < 70 by omega) h
      | 32, _, h => exact absurd (show 32 < 70 by omega) h
      | 33, _, h => exact absurd (show 33 < 70 by omega) h
      | 34, _, h => exact absurd (show 34 < 70 by omega) h
      | 35, _, h => exact absurd (show 35 < 70 by omega) h
      | 36, _, h => exact absurd (show 36 < 70 by omega) h
      | 37, _, h => exact absurd (show 37 < 70 by omega) h
      | 38, _, h => exact absurd (show 38 < 70 by omega) h
      | 39, _, h => exact absurd (show 39 < 70 by omega) h
      | 40, _, h => exact absurd (show 40 < 70 by omega) h
      | 41, _, h => exact absurd (show 41 < 70 by omega) h
      | 42, _, h => exact absurd (show 42 < 70 by omega) h
      | 43, _, h => exact absurd (show 43 < 70 by omega) h
      | 44, _, h => exact absurd (show 44 < 70 by omega) h
      | 45, _, h => exact absurd (show 45 < 70 by omega) h
      | 46, _, h => exact absurd (show 46 < 70 by omega) h
      | 47, _, h => exact absurd (show 47 < 70 by omega) h
      | 48, _, h => exact absurd (show 48 < 70 by omega) h
      | 49, _, h => exact absurd (show 49 < 70 by omega) h
      | 50, _, h => exact absurd (show 50 < 70 by omega) h
      | 51, _, h => exact absurd (show 51 < 70 by omega) h
      | 52, _, h => exact absurd (show 52 < 70 by omega) h
      | 53, _, h => exact absurd (show 53 < 70 by omega) h
      | 54, _, h => exact absurd (show 54 < 70 by omega) h
      | 55, _, h => exact absurd (show 55 < 70 by omega) h
      | 56, _, h => exact absurd (show 56 < 70 by omega) h
      | 57, _, h => exact absurd (show 57 < 70 by omega) h
      | 58, _, h => exact absurd (show 58 < 70 by omega) h
      | 59, _, h => exact absurd (show 59 < 70 by omega) h
      | 60, _, h => exact absurd (show 60 < 70 by omega) h
      | 61, _, h => exact absurd (show 61 < 70 by omega) h
      | 62, _, h => exact absurd (show 62 < 70 by omega) h
      | 63, _, h => exact absurd (show 63 < 70 by omega) h
      | 64, _, h => exact absurd (show 64 < 70 by omega) h
      | 65, _, h => exact absurd (show 65 < 70 by omega) h
      | 66, _, h => exact absurd (show 66 < 70 by omega) h
      | 67, _, h => exact absurd (show 67 < 70 by omega) h
      | 68, _, h => exact absurd (show 68 < 70 by omega) h
      | 69, _, h => exact absurd (show 69 < 70 by omega) h
      | 70, _, _ => exact (gsL_b (by omega)).trans ((gsL_b (by omega)).trans ((gsL_b (by omega)).trans ((gsL_b (by omega)).trans ((gsL_b (by omega)).trans ((gsL_b (by omega)).trans ((gsL_b (by omega)).trans ((gsL_b (by omega)).trans ((gsL_b (by omega)).trans ((gsL_b (by omega)).trans ((gsL_b (by omega)).trans ((gsL_b (by omega)).trans ((gsL_b (by omega)).trans ((gsL_b (by omega)).trans ((gsL_b (by omega)).trans (n_q70)))))))))))))))
      | 71, _, _ => exact (gsL_b (by omega)).trans ((gsL_b (by omega)).trans ((gsL_b (by omega)).trans ((gsL_b (by omega)).trans ((gsL_b (by omega)).trans ((gsL_b (by omega)).trans ((gsL_b (by omega)).trans ((gsL_b (by omega)).trans ((gsL_b (by omega)).trans ((gsL_b (by omega)).trans ((gsL_b (by omega)).trans ((gsL_b (by omega)).trans ((gsL_b (by omega)).trans ((gsL_b (by omega)).trans (n_q71))))))))))))))
      | 72, _, _ => exact (gsL_b (by omega)).trans ((gsL_b (by omega)).trans ((gsL_b (by omega)).trans ((gsL_b (by omega)).trans ((gsL_b (by omega)).trans ((gsL_b (by omega)).trans ((gsL_b (by omega)).trans ((gsL_b (by omega)).trans ((gsL_b (by omega)).trans ((gsL_b (by omega)).trans ((gsL_b (by omega)).trans ((gsL_b (by omega)).trans ((gsL_b (by omega)).trans ((gsL_b (by omega)).trans (n_q72))))))))))))))
      | 73, _, _ => exact (gsL_b (by omega)).trans ((gsL_b (by omega)).trans ((gsL_b (by omega)).trans ((gsL_b (by omega)).trans ((gsL_b (by omega)).trans ((gsL_b (by omega)).trans ((gsL_b (by omega)).trans ((gsL_b (by omega)).trans ((gsL_b (by omega)).trans ((gsL_b (by omega)).trans ((gsL_b (by omega)).trans ((gsL_b (by omega)).trans ((gsL_b (by omega)).trans ((gsL_b (by omega)).trans (n_q73))))))))))))))
      | 74, _, _ => exact (gsL_b (by omega)).trans ((gsL_b (by omega)).trans ((gsL_b (by omega)).trans ((gsL_b (by omega)).trans ((gsL_b (by omega)).trans ((gsL_b (by omega)).trans ((gsL_b (by omega)).trans ((gsL_b (by omega)).trans ((gsL_b (by omega)).trans ((gsL_b (by omega)).trans ((gsL_b (by omega)).trans ((gsL_b (by omega)).trans ((gsL_b (by omega)).trans ((gsL_b (by omega)).trans (n_q74))))))))))))))
      | 75, _, _ => exact (gsL_b (by omega)).trans ((gsL_b (by omega)).trans ((gsL_b (by omega)).trans ((gsL_b (by omega)).trans ((gsL_b (by omega)).trans ((gsL_b (by omega)).trans ((gsL_b (by omega)).trans ((gsL_b (by omega)).trans ((gsL_b (by omega)).trans ((gsL_b (by omega)).trans ((gsL_b (by omega)).trans ((gsL_b (by omega)).trans ((gsL_b (by omega)).trans ((gsL_b (by omega)).trans (n_q75))))))))))))))
      | 76, _, _ => exact (gsL_b (by omega)).trans ((gsL_b (by omega)).trans ((gsL_b (by omega)).trans ((gsL_b (by omega)).trans ((gsL_b (by omega)).trans ((gsL_b (by omega)).trans ((gsL_b (by omega)).trans ((gsL_b (by omega)).trans ((gsL_b (by omega)).trans ((gsL_b (by omega)).trans ((gsL_b (by omega)).trans ((gsL_b (by omega)).trans ((gsL_b (by omega)).trans ((gsL_b (by omega)).trans (n_q76))))))))))))))
      | 77, _, _ => exact (gsL_b (by omega)).trans ((gsL_b (by omega)).trans ((gsL_b (by omega)).trans ((gsL_b (by omega)).trans ((gsL_b (by omega)).trans ((gsL_b (by omega)).trans ((gsL_b (by omega)).trans ((gsL_b (by omega)).trans ((gsL_b (by omega)).trans ((gsL_b (by omega)).trans ((gsL_b (by omega)).trans ((gsL_b (by omega)).trans ((gsL_b (by omega)).trans ((gsL_b (by omega)).trans (n_q77))))))))))))))
      | 78, _, _ => exact (gsL_b (by omega)).trans ((gsL_b (by omega)).trans ((gsL_b (by omega)).trans ((gsL_b (by omega)).trans ((gsL_b (by omega)).trans ((gsL_b (by omega)).trans ((gsL_b (by omega)).trans ((gsL_b (by omega)).trans ((gsL_b (by omega)).trans ((gsL_b (by omega)).trans ((gsL_b (by omega)).trans ((gsL_b (by omega)).trans ((gsL_b (by omega)).trans (n_q78)))))))))))))
      | 79, _, _ => exact (gsL_b (by omega)).trans ((gsL_b (by omega)).trans ((gsL_b (by omega)).trans ((gsL_b (by omega)).trans ((gsL_b (by omega)).trans ((gsL_b (by omega)).trans ((gsL_b (by omega)).trans ((gsL_b (by omega)).trans ((gsL_b (by omega)).trans ((gsL_b (by omega)).trans ((gsL_b (by omega)).trans ((gsL_b (by omega)).trans ((gsL_b (by omega)).trans (n_q79)))))))))))))
      | 80, _, _ => exact (gsL_b (by omega)).trans ((gsL_b (by omega)).trans ((gsL_b (by omega)).trans ((gsL_b (by omega)).trans ((gsL_b (by omega)).trans ((gsL_b (by omega)).trans ((gsL_b (by omega)).trans ((gsL_b (by omega)).trans ((gsL_b (by omega)).trans ((gsL_b (by omega)).trans ((gsL_b (by omega)).trans ((gsL_b (by omega)).trans ((gsL_b (by omega)).trans (n_q80)))))))))))))
      | 81, _, _ => exact (gsL_b (by omega)).trans ((gsL_b (by omega)).trans ((gsL_b (by omega)).trans ((gsL_b (by omega)).trans ((gsL_b (by omega)).trans ((gsL_b (by omega)).trans ((gsL_b (by omega)).trans ((gsL_b (by omega)).trans ((gsL_b (by omega)).trans ((gsL_b (by omega)).trans ((gsL_b (by omega)).trans ((gsL_b (by omega)).trans ((gsL_b (by omega)).trans (n_q81)))))))))))))
      | 82, _, _ => exact (gsL_b (by omega)).trans ((gsL_b (by omega)).trans ((gsL_b (by omega)).trans ((gsL_b (by omega)).trans ((gsL_b (by omega)).trans ((gsL_b (by omega)).trans ((gsL_b (by omega)).trans ((gsL_b (by omega)).trans ((gsL_b (by omega)).trans ((gsL_b (by omega)).trans ((gsL_b (by omega)).trans ((gsL_b (by omega)).trans ((gsL_b (by omega)).trans (n_q82)))))))))))))
      | 83, _, _ => exact (gsL_b (by omega)).trans ((gsL_b (by omega)).trans ((gsL_b (by omega)).trans ((gsL_b (by omega)).trans ((gsL_b (by omega)).trans ((gsL_b (by omega)).trans ((gsL_b (by omega)).trans ((gsL_b (by omega)).trans ((gsL_b (by omega)).trans ((gsL_b (by omega)).trans ((gsL_b (by omega)).trans ((gsL_b (by omega)).trans ((gsL_b (by omega)).trans (n_q83)))))))))))))
      | 84, _, _ => exact (gsL_b (by omega)).trans ((gsL_b (by omega)).trans ((gsL_b (by omega)).trans ((gsL_b (by omega)).trans ((gsL_b (by omega)).trans ((gsL_b (by omega)).trans ((gsL_b (by omega)).trans ((gsL_b (by omega)).trans ((gsL_b (by omega)).trans ((gsL_b (by omega)).trans ((gsL_b (by omega)).trans ((gsL_b (by omega)).trans ((gsL_b (by omega)).trans (n_q84)))))))))))))
      | 85, _, _ => exact (gsL_b (by omega)).trans ((gsL_b (by omega)).trans ((gsL_b (by omega)).trans ((gsL_b (by omega)).trans ((gsL_b (by omega)).trans ((gsL_b (by omega)).trans ((gsL_b (by omega)).trans ((gsL_b (by omega)).trans ((gsL_b (by omega)).trans ((gsL_b (by omega)).trans ((gsL_b (by omega)).trans ((gsL_b (by omega)).trans (n_q85))))))))))))
      | 86, _, _ => exact (gsL_b (by omega)).trans ((gsL_b (by omega)).trans ((gsL_b (by omega)).trans ((gsL_b (by omega)).trans ((gsL_b (by omega)).trans ((gsL_b (by omega)).trans ((gsL_b (by omega)).trans ((gsL_b (by omega)).trans ((gsL_b (by omega)).trans ((gsL_b (by omega)).trans ((gsL_b (by omega)).trans ((gsL_b (by omega)).trans (n_q86))))))))))))
      | 87, _, _ => exact (gsL_b (by omega)).trans ((gsL_b (by omega)).trans ((gsL_b (by omega)).trans ((gsL_b (by omega)).trans ((gsL_b (by omega)).trans ((gsL_b (by omega)).trans ((gsL_b (by omega)).trans ((gsL_b (by omega)).trans ((gsL_b (by omega)).trans ((gsL_b (by omega)).trans ((gsL_b (by omega)).trans ((gsL_b (by omega)).trans (n_q87))))))))))))
      | 88, _, _ => exact (gsL_b (by omega)).trans ((gsL_b (by omega)).trans ((gsL_b (by omega)).trans ((gsL_b (by omega)).trans ((gsL_b (by omega)).trans ((gsL_b (by omega)).trans ((gsL_b (by omega)).trans ((gsL_b (by omega)).trans ((gsL_b (by omega)).trans ((gsL_b (by omega)).trans ((gsL_b (by omega)).trans ((gsL_b (by omega)).trans (n_q88))))))))))))
      | 89, _, _ => exact (gsL_b (by omega)).trans ((gsL_b (by omega)).trans ((gsL_b (by omega)).trans ((gsL_b (by omega)).trans ((gsL_b (by omega)).trans ((gsL_b (by omega)).trans ((gsL_b (by omega)).trans ((gsL_b (by omega)).trans ((gsL_b (by omega)).trans ((gsL_b (by omega)).trans ((gsL_b (by omega)).trans ((gsL_b (by omega)).trans (n_q89))))))))))))
      | 90, _, _ => exact (gsL_b (by omega)).trans ((gsL_b (by omega)).trans ((gsL_b (by omega)).trans ((gsL_b (by omega)).trans ((gsL_b (by omega)).trans ((gsL_b (by omega)).trans ((gsL_b (by omega)).trans ((gsL_b (by omega)).trans ((gsL_b (by omega)).trans ((gsL_b (by omega)).trans ((gsL_b (by omega)).trans ((gsL_b (by omega)).trans (n_q90))))))))))))
      | 91, _, _ => exact (gsL_b (by omega)).trans ((gsL_b (by omega)).trans ((gsL_b (by omega)).trans ((gsL_b (by omega)).trans ((gsL_b (by omega)).trans ((gsL_b (by omega)).trans ((gsL_b (by omega)).trans ((gsL_b (by omega)).trans ((gsL_b (by omega)).trans ((gsL_b (by omega)).trans ((gsL_b (by omega)).trans ((gsL_b (by omega)).trans (n_q91))))))))))))
      | 92, _, _ => exact (gsL_b (by omega)).trans ((gsL_b (by omega)).trans ((gsL_b (by omega)).trans ((gsL_b (by omega)).trans ((gsL_b (by omega)).trans ((gsL_b (by omega)).trans ((gsL_b (by omega)).trans ((gsL_b (by omega)).trans ((gsL_b (by omega)).trans ((gsL_b (by omega)).trans ((gsL_b (by omega)).trans (n_q92)))))))))))
      | 93, _, _ => exact (gsL_b (by omega)).trans ((gsL_b (by omega)).trans ((gsL_b (by omega)).trans ((gsL_b (by omega)).trans ((gsL_b (by omega)).trans ((gsL_b (by omega)).trans ((gsL_b (by omega)).trans ((gsL_b (by omega)).trans ((gsL_b (by omega)).trans ((gsL_b (by omega)).trans (n_q93))))))))))
      | 94, _, _ => exact (gsL_b (by omega)).trans ((gsL_b (by omega)).trans ((gsL_b (by omega)).trans ((gsL_b (by omega)).trans ((gsL_b (by omega)).trans ((gsL_b (by omega)).trans ((gsL_b (by omega)).trans ((gsL_b (by omega)).trans ((gsL_b (by omega)).trans (n_q94)))))))))
      | 95, _, _ => exact (gsL_b (by omega)).trans ((gsL_b (by omega)).trans ((gsL_b (by omega)).trans ((gsL_b (by omega)).trans ((gsL_b (by omega)).trans ((gsL_b (by omega)).trans ((gsL_b (by omega)).trans ((gsL_b (by omega)).trans ((gsL_b (by omega)).trans (n_q95)))))))))
      | 96, _, _ => exact (gsL_b (by omega)).trans ((gsL_b (by omega)).trans ((gsL_b (by omega)).trans ((gsL_b (by omega)).trans ((gsL_b (by omega)).trans ((gsL_b (by omega)).trans ((gsL_b (by omega)).trans ((gsL_b (by omega)).trans ((gsL_b (by omega)).trans (n_q96)))))))))
      | 97, _, _ => exact (gsL_b (by omega)).trans ((gsL_b (by omega)).trans ((gsL_b (by omega)).trans ((gsL_b (by omega)).trans ((gsL_b (by omega)).trans ((gsL_b (by omega)).trans ((gsL_b (by omega)).trans ((gsL_b (by omega)).trans ((gsL_b (by omega)).trans (n_q97)))))))))
      | 98, _, _ => exact (gsL_b (by omega)).trans ((gsL_b (by omega)).trans ((gsL_b (by omega)).trans ((gsL_b (by omega)).trans ((gsL_b (by omega)).trans ((gsL_b (by omega)).trans ((gsL_b (by omega)).trans ((gsL_b (by omega)).trans ((gsL_b (by omega)).trans (n_q98)))))))))
      | 99, _, _ => exact (gsL_b (by omega)).trans ((gsL_b (by omega)).trans ((gsL_b (by omega)).trans ((gsL_b (by omega)).trans ((gsL_b (by omega)).trans ((gsL_b (by omega)).trans ((gsL_b (by omega)).trans ((gsL_b (by omega)).trans ((gsL_b (by omega)).trans (n_q99)))))))))
      | 100, _, _ => exact (gsL_b (by omega)).trans ((gsL_b (by omega)).trans ((gsL_b (by omega)).trans ((gsL_b (by omega)).trans ((gsL_b (by omega)).trans ((gsL_b (by omega)).trans ((gsL_b (by omega)).trans ((gsL_b (by omega)).trans ((gsL_b (by omega)).trans (n_q100)))))))))
      | 101, _, _ => exact (gsL_b (by omega)).trans ((gsL_b (by omega)).trans ((gsL_b (by omega)).trans ((gsL_b (by omega)).trans ((gsL_b (by omega)).trans ((gsL_b (by omega)).trans ((gsL_b (by omega)).trans ((gsL_b (by omega)).trans (n_q101))))))))
      | 102, _, _ => exact (gsL_b (by omega)).trans ((gsL_b (by omega)).trans ((gsL_b (by omega)).trans ((gsL_b (by omega)).trans ((gsL_b (by omega)).trans ((gsL_b (by omega)).trans ((gsL_b (by omega)).trans ((gsL_b (by omega)).trans (n_q102))))))))
      | 103, _, _ => exact (gsL_b (by omega)).trans ((gsL_b (by omega)).trans ((gsL_b (by omega)).trans ((gsL_b (by omega)).trans ((gsL_b (by omega)).trans ((gsL_b (by omega)).trans ((gsL_b (by omega)).trans ((gsL_b (by omega)).trans (n_q103))))))))
      | 104, _, _ => exact (gsL_b (by omega)).trans ((gsL_b (by omega)).trans ((gsL_b (by omega)).trans ((gsL_b (by omega)).trans ((gsL_b (by omega)).trans ((gsL_b (by omega)).trans ((gsL_b (by omega)).trans ((gsL_b (by omega)).trans (n_q104))))))))
      | 105, _, _ => exact (gsL_b (by omega)).trans ((gsL_b (by omega)).trans ((gsL_b (by omega)).trans ((gsL_b (by omega)).trans ((gsL_b (by omega)).trans ((gsL_b (by omega)).trans ((gsL_b (by omega)).trans ((gsL_b (by omega)).trans (n_q105))))))))
      | 106, _, _ => exact (gsL_b (by omega)).trans ((gsL_b (by omega)).trans ((gsL_b (by omega)).trans ((gsL_b (by omega)).trans ((gsL_b (by omega)).trans ((gsL_b (by omega)).trans ((gsL_b (by omega)).trans ((gsL_b (by omega)).trans (n_q106))))))))
      | 107, _, _ => exact (gsL_b (by omega)).trans ((gsL_b (by omega)).trans ((gsL_b (by omega)).trans ((gsL_b (by omega)).trans ((gsL_b (by omega)).trans ((gsL_b (by omega)).trans ((gsL_b (by omega)).trans ((gsL_b (by omega)).trans (n_q107))))))))
      | 108, _, _ => exact (gsL_b (by omega)).trans ((gsL_b (by omega)).trans ((gsL_b (by omega)).trans ((gsL_b (by omega)).trans ((gsL_b (by omega)).trans ((gsL_b (by omega)).trans ((gsL_b (by omega)).trans (n_q108)))))))
      | 109, _, _ => exact (gsL_b (by omega)).trans ((gsL_b (by omega)).trans ((gsL_b (by omega)).trans ((gsL_b (by omega)).trans ((gsL_b (by omega)).trans ((gsL_b (by omega)).trans ((gsL_b (by omega)).trans (n_q109)))))))
      | 110, _, _ => exact (gsL_b (by omega)).trans ((gsL_b (by omega)).trans ((gsL_b (by omega)).trans ((gsL_b (by omega)).trans ((gsL_b (by omega)).trans ((gsL_b (by omega)).trans ((gsL_b (by omega)).trans (n_q110)))))))
      | 111, _, _ => exact (gsL_b (by omega)).trans ((gsL_b (by omega)).trans ((gsL_b (by omega)).trans ((gsL_b (by omega)).trans ((gsL_b (by omega)).trans ((gsL_b (by omega)).trans ((gsL_b (by omega)).trans (n_q111)))))))
      | 112, _, _ => exact (gsL_b (by omega)).trans ((gsL_b (by omega)).trans ((gsL_b (by omega)).trans ((gsL_b (by omega)).trans ((gsL_b (by omega)).trans ((gsL_b (by omega)).trans ((gsL_b (by omega)).trans (n_q112)))))))
      | 113, _, _ => exact (gsL_b (by omega)).trans ((gsL_b (by omega)).trans ((gsL_b (by omega)).trans ((gsL_b (by omega)).trans ((gsL_b (by omega)).trans ((gsL_b (by omega)).trans ((gsL_b (by omega)).trans (n_q113)))))))
      | 114, _, _ => exact (gsL_b (by omega)).trans ((gsL_b (by omega)).trans ((gsL_b (by omega)).trans ((gsL_b (by omega)).trans ((gsL_b (by omega)).trans ((gsL_b (by omega)).trans ((gsL_b (by omega)).trans (n_q114)))))))
      | 115, _, _ => exact (gsL_b (by omega)).trans ((gsL_b (by omega)).trans ((gsL_b (by omega)).trans ((gsL_b (by omega)).trans ((gsL_b (by omega)).trans ((gsL_b (by omega)).trans (n_q115))))))
      | 116, _, _ => exact (gsL_b (by omega)).trans ((gsL_b (by omega)).trans ((gsL_b (by omega)).trans ((gsL_b (by omega)).trans ((gsL_b (by omega)).trans ((gsL_b (by omega)).trans (n_q116))))))
      | 117, _, _ => exact (gsL_b (by omega)).trans ((gsL_b (by omega)).trans ((gsL_b (by omega)).trans ((gsL_b (by omega)).trans ((gsL_b (by omega)).trans ((gsL_b (by omega)).trans (n_q117))))))
      | 118, _, _ => exact (gsL_b (by omega)).trans ((gsL_b (by omega)).trans ((gsL_b (by omega)).trans ((gsL_b (by omega)).trans ((gsL_b (by omega)).trans ((gsL_b (by omega)).trans (n_q118))))))
      | 119, _, _ => exact (gsL_b (by omega)).trans ((gsL_b (by omega)).trans ((gsL_b (by omega)).trans ((gsL_b (by omega)).trans ((gsL_b (by omega)).trans ((gsL_b (by omega)).trans (n_q119))))))
      | 120, _, _ => exact (gsL_b (by omega)).trans ((gsL_b (by omega)).trans ((gsL_b (by omega)).trans ((gsL_b (by omega)).trans ((gsL_b (by omega)).trans ((gsL_b (by omega)).trans (n_q120))))))
      | 121, _, _ => exact (gsL_b (by omega)).trans ((gsL_b (by omega)).trans ((gsL_b (by omega)).trans ((gsL_b (by omega)).trans ((gsL_b (by omega)).trans ((gsL_b (by omega)).trans (n_q121))))))
      | 122, _, _ => exact (gsL_b (by omega)).trans ((gsL_b (by omega)).trans ((gsL_b (by omega)).trans ((gsL_b (by omega)).trans ((gsL_b (by omega)).trans (n_q122)))))
      | 123, _, _ => exact (gsL_b (by omega)).trans ((gsL_b (by omega)).trans ((gsL_b (by omega)).trans ((gsL_b (by omega)).trans ((gsL_b (by omega)).trans (n_q123)))))
      | 124, _, _ => exact (gsL_b (by omega)).trans ((gsL_b (by omega)).trans ((gsL_b (by omega)).trans ((gsL_b (by omega)).trans ((gsL_b (by omega)).trans (n_q124)))))
      | 125, _, _ => exact (gsL_b (by omega)).trans ((gsL_b (by omega)).trans ((gsL_b (by omega)).trans ((gsL_b (by omega)).trans ((gsL_b (by omega)).trans (n_q125)))))
      | 126, _, _ => exact (gsL_b (by omega)).trans ((gsL_b (by omega)).trans ((gsL_b (by omega)).trans ((gsL_b (by omega)).trans ((gsL_b (by omega)).trans (n_q126)))))
      | 127, _, _ => exact (gsL_b (by omega)).trans ((gsL_b (by omega)).trans ((gsL_b (by omega)).trans ((gsL_b (by omega)).trans ((gsL_b (by omega)).trans (n_q127)))))
      | 128, _, _ => exact (gsL_b (by omega)).trans ((gsL_b (by omega)).trans ((gsL_b (by omega)).trans ((gsL_b (by omega)).trans ((gsL_b (by omega)).trans (n_q128)))))
      | 129, _, _ => exact (gsL_b (by omega)).trans ((gsL_b (by omega)).trans ((gsL_b (by omega)).trans ((gsL_b (by omega)).trans (n_q129))))
      | 130, _, _ => exact (gsL_b (by omega)).trans ((gsL_b (by omega)).trans ((gsL_b (by omega)).trans ((gsL_b (by omega)).trans (n_q130))))
      | 131, _, _ => exact (gsL_b (by omega)).trans ((gsL_b (by omega)).trans ((gsL_b (by omega)).trans ((gsL_b (by omega)).trans (n_q131))))
      | 132, _, _ => exact (gsL_b (by omega)).trans ((gsL_b (by omega)).trans ((gsL_b (by omega)).trans ((gsL_b (by omega)).trans (n_q132))))
      | 133, _, _ => exact (gsL_b (by omega)).trans ((gsL_b (by omega)).trans ((gsL_b (by omega)).trans ((gsL_b (by omega)).trans (n_q133))))
      | 134, _, _ => exact (gsL_b (by omega)).trans ((gsL_b (by omega)).trans ((gsL_b (by omega)).trans ((gsL_b (by omega)).trans (n_q134))))
      | 135, _, _ => exact (gsL_b (by omega)).trans ((gsL_b (by omega)).trans ((gsL_b (by omega)).trans ((gsL_b (by omega)).trans (n_q135))))
      | 136, _, _ => exact (gsL_b (by omega)).trans ((gsL_b (by omega)).trans ((gsL_b (by omega)).trans (n_q136)))
      | 137, _, _ => exact (gsL_b (by omega)).trans ((gsL_b (by omega)).trans (n_q137))
      | 138, _, _ => exact (gsL_b (by omega)).trans (n_q138)
      | 139, _, _ => exact n_q139
      | q + 140, hq, _ => exact absurd hq (by omega)
  · unfold zclR zcl
    refine (gsL_f (l := 1) (by omega) rfl).trans ?_
    refine (gsL_f (l := 1) (by omega) rfl).trans ?_
    refine (gsL_f (l := 1) (by omega) rfl).trans ?_
    refine (gsL_f (l := 1) (by omega) rfl).trans ?_
    refine (gsL_f (l := 7) (by omega) rfl).trans ?_
    refine (gsL_f (l := 7) (by omega) rfl).trans ?_
    refine (gsL_f (l := 7) (by omega) rfl).trans ?_
    refine (gsL_f (l := 7) (by omega) rfl).trans ?_
    refine (gsL_f (l := 7) (by omega) rfl).trans ?_
    refine (gsL_f (l := 7) (by omega) rfl).trans ?_
    refine (gsL_f (l := 1) (by omega) rfl).trans ?_
    refine (gsL_f (l := 1) (by omega) rfl).trans ?_
    refine (gsL_f (l := 7) (by omega) rfl).trans ?_
    refine (gsL_f (l := 7) (by omega) rfl).trans ?_
    refine (gsL_f (l := 7) (by omega) rfl).trans ?_
    refine (gsL_f (l := 1) (by omega) rfl).trans ?_
    refine (gsL_f (l := 1) (by omega) rfl).trans ?_
    refine (gsL_f (l := 1) (by omega) rfl).trans ?_
    refine (gsL_f (l := 1) (by omega) rfl).trans ?_
    refine (gsL_f (l := 1) (by omega) rfl).trans ?_
    refine (gsL_f (l := 7) (by omega) rfl).trans ?_
    refine (gsL_f (l := 7) (by omega) rfl).trans ?_
    refine (gsL_f (l := 7) (by omega) rfl).trans ?_
    refine (gsL_f (l := 7) (by omega) rfl).trans ?_
    refine (gsL_f (l := 7) (by omega) rfl).trans ?_
    refine (gsL_f (l := 7) (by omega) rfl).trans ?_
    refine (gsL_f (l := 1) (by omega) rfl).trans ?_
    refine (gsL_f (l := 1) (by omega) rfl).trans ?_
    refine (gsL_f (l := 7) (by omega) rfl).trans ?_
    refine (gsL_f (l := 7) (by omega) rfl).trans ?_
    refine (gsL_f (l := 7) (by omega) rfl).trans ?_
    refine (gsL_f (l := 1) (by omega) rfl).trans ?_
    rw [zhc_hi _ _ _ (by omega)]
    show _ = (if q < 140 then _ else (if q = 1000 then (some (.inl (9, L, .inl xs)) : Option xC) else none))
    rw [if_neg hq]
    rfl
theorem zR0 : zR zP0 zs0 := by
  unfold zR
  refine ⟨?_, ?_, ?_, ?_, ?_, ?_, ?_, ?_⟩ <;> decide +kernel
theorem zWF0 : zWF zs0 := by
  refine ⟨⟨?_, ?_, ?_, ?_, ?_⟩, ?_, ⟨2, 3, 2, ?_⟩, ⟨20, 20, 20, ?_⟩⟩
  · unfold zW1; decide +kernel
  · unfold zOW; decide +kernel
  · unfold zW2; decide +kernel
  · unfold zW3; decide +kernel
  · unfold zW4; decide +kernel
  · unfold zXY; decide +kernel
  · decide +kernel
  · decide +kernel
theorem zKR0 : zKR zC0 zM0 := ⟨0, 0, 0, 0, ⟨by omega, by omega, by omega, by omega⟩, ⟨rfl, rfl, rfl, rfl⟩, ⟨rfl, rfl, rfl⟩, ⟨zR0, zWF0⟩, fun k hk => absurd hk (by omega), fun q => absurd q (by omega), fun j hj => absurd hj (Nat.not_lt_zero _)⟩
theorem zXI0 : zXI zs0 := by
  refine ⟨?_, ⟨0, ?_, ?_⟩, ?_, ?_⟩
  · unfold zX1; decide +kernel
  · decide +kernel
  · decide +kernel
  · unfold zX3; decide +kernel
  · have key : ∀ i, i < 3 → ∀ j, j < 3 → i ≠ j → ¬ (zpx zs0 i = zpx zs0 j ∧ zpy zs0 i = zpy zs0 j) := by decide +kernel
    exact fun i j hi hj hij => key i hi j hj hij
theorem zIM0 : zIM zM0 0 0 0 := ⟨⟨⟨rfl, rfl, rfl⟩, by omega, by omega, by omega⟩, ⟨zWF0, zXI0⟩, fun k hk => absurd hk (Nat.not_lt_zero _), fun h => absurd h (by omega)⟩
theorem zca0 : zca zs0 = 0 := zfst_eq (by omega) (by decide +kernel) (fun i hi => absurd hi (Nat.not_lt_zero _))
end Z9E
