/-! ===== constructors: the heap grows by segments ===== -/
def gsL (h : Nat → Option xC) (a : Nat) (l : List xC) : Nat → Option xC := fun j => if a ≤ j ∧ j < a + l.length then l[j - a]? else h j
def gsN (h : Nat → Option xC) (a : Nat) (l : List xC) (sl : Nat) : xS := (gsL h a l, (a + l.length, 0, sl))
def gsT (h : Nat → Option xC) (b : Nat) (c : xC) : Nat → Option xC := fun j => if j = b then some c else h j
def gcls (o : Option xC) : Option Nat := match o with
  | some (.inr p) => some p.1
  | _ => none
def gfld (o : Option xC) (ci k : Nat) : Option Value := match o with
  | some (.inr p) => if p.1 = ci then p.2[k]? else none
  | _ => none
def gfst (o : Option xC) (ci k : Nat) (v : Value) : Option xC := match o with
  | some (.inr p) => if p.1 = ci ∧ k < p.2.length then some (.inr (ci, p.2.set k v)) else none
  | _ => none
def gint (o : Option xC) (t : Nat) : Option (Nat × (Nat → Int32)) := match o with
  | some (.inl (t', n, .inl f)) => if t' = t then some (n, f) else none
  | _ => none
def gref (o : Option xC) : Option (Nat × Nat × (Nat → Option Nat)) := match o with
  | some (.inl (t, n, .inr (.inr (.inr (.inr f))))) => some (t, n, f)
  | _ => none
section Z9D
variable {h : Nat → Option xC} {a b k sl ci f t s : Nat} {l : List xC} {c c0 : xC} {v : Value}
theorem gsN_g : (gsN h a l sl).2.2.1 = 0 := rfl
theorem gsN_p : (gsN h a l sl).2.1 = a + l.length := rfl
theorem ghnew_a : hnew (gsN h a l sl) c s = gsN h a (l ++ [c]) (sl + s) := by
  unfold hnew gsN
  refine Prod.ext (funext fun j => ?_) ?_
  · show (if j = a + l.length then some c else gsL h a l j) = gsL h a (l ++ [c]) j
    unfold gsL
    rw [List.length_append, List.length_singleton]
    by_cases h1 : j = a + l.length
    · subst h1
      rw [if_pos rfl, if_pos (by omega), Nat.add_sub_cancel_left, List.getElem?_append_right (Nat.le_refl _), Nat.sub_self]
      rfl
    · rw [if_neg h1]
      by_cases h2 : a ≤ j ∧ j < a + l.length
      · rw [if_pos h2, if_pos (by omega), List.getElem?_append_left (by omega)]
      · rw [if_neg h2, if_neg (by omega)]
  · show (a + l.length + 1, 0, sl + s) = (a + (l ++ [c]).length, 0, sl + s)
    rw [List.length_append, List.length_singleton]
    rfl
theorem ghnew_n : hnew (gsN h a l sl) c s = gsN (gsL h a l) (a + l.length) [c] (sl + s) := by
  unfold hnew gsN
  refine Prod.ext (funext fun j => ?_) rfl
  show (if j = a + l.length then some c else gsL h a l j) = gsL (gsL h a l) (a + l.length) [c] j
  by_cases h1 : j = a + l.length
  · subst h1
    rw [if_pos rfl]
    unfold gsL
    rw [if_pos (by rw [List.length_singleton]; omega), Nat.sub_self]
    rfl
  · rw [if_neg h1]
    show gsL h a l j = (if a + l.length ≤ j ∧ j < a + l.length + [c].length then [c][j - (a + l.length)]? else gsL h a l j)
    rw [if_neg (by rw [List.length_singleton]; omega)]
theorem gsL_k (hk : k < l.length) : gsL h a l (a + k) = l[k]? := by
  unfold gsL
  rw [if_pos (by omega), Nat.add_sub_cancel_left]
theorem gsL_z : gsL h a (c :: l) a = some c := by
  unfold gsL
  rw [if_pos (by rw [List.length_cons]; omega), Nat.sub_self]
  rfl
theorem gsL_b (hb : b < a) : gsL h a l b = h b := if_neg (by omega)
theorem gsT_k (hk : k < l.length) : gsT (gsL h a l) (a + k) c = gsL h a (l.set k c) := by
  funext j
  unfold gsT gsL
  rw [List.length_set]
  by_cases h1 : j = a + k
  · subst h1
    rw [if_pos rfl, if_pos (by omega), Nat.add_sub_cancel_left, List.getElem?_set_self hk]
  · rw [if_neg h1]
    by_cases h2 : a ≤ j ∧ j < a + l.length
    · rw [if_pos h2, if_pos h2, List.getElem?_set_ne (by omega)]
    · rw [if_neg h2, if_neg h2]
theorem gsT_z : gsT (gsL h a (c0 :: l)) a c = gsL h a (c :: l) := by
  have := gsT_k (h := h) (a := a) (k := 0) (l := c0 :: l) (c := c) (by rw [List.length_cons]; omega)
  exact this
theorem gsT_b (hb : b < a) : gsT (gsL h a l) b c = gsL (gsT h b c) a l := by
  funext j
  show (if j = b then some c else (if a ≤ j ∧ j < a + l.length then l[j - a]? else h j)) = (if a ≤ j ∧ j < a + l.length then l[j - a]? else (if j = b then some c else h j))
  by_cases h1 : j = b
  · subst h1
    rw [if_pos rfl, if_neg (by omega), if_pos rfl]
  · rw [if_neg h1]
    by_cases h2 : a ≤ j ∧ j < a + l.length
    · rw [if_pos h2, if_pos h2]
    · rw [if_neg h2, if_neg h2, if_neg h1]
theorem ghup_k (hk : k < l.length) : hup (gsN h a l sl) (a + k) c = gsN h a (l.set k c) sl := by
  unfold gsN
  rw [← gsT_k hk, List.length_set]
  rfl
theorem ghup_z : hup (gsN h a (c0 :: l) sl) a c = gsN h a (c :: l) sl :=
  ghup_k (h := h) (a := a) (k := 0) (l := c0 :: l) (c := c) (sl := sl) (by rw [List.length_cons]; omega)
theorem ghup_b (hb : b < a) : hup (gsN h a l sl) b c = gsN (gsT h b c) a l sl := by
  unfold gsN
  rw [← gsT_b hb]
  rfl
-- lookups by address, then by cell
theorem glo_fld {σ : xS} {j : Nat} : hfld σ j ci f = gfld (σ.1 j) ci f := by
  unfold hfld hobj gfld
  cases σ.1 j with
  | none => rfl
  | some x => cases x with
    | inl _ => rfl
    | inr _ => rfl
theorem glo_cls {σ : xS} {j : Nat} : hcls σ j = gcls (σ.1 j) := by
  unfold hcls hobj gcls
  cases σ.1 j with
  | none => rfl
  | some x => cases x with
    | inl _ => rfl
    | inr _ => rfl
theorem glo_int {σ : xS} {j : Nat} : hint σ t j = gint (σ.1 j) t := rfl
theorem glo_ref {σ : xS} {j : Nat} : href σ j = gref (σ.1 j) := rfl
theorem glo_fst {σ : xS} {j : Nat} : hfst σ j ci f v = (gfst (σ.1 j) ci f v).map (fun c => hup σ j c) := by
  unfold hfst hobj gfst
  cases σ.1 j with
  | none => rfl
  | some x => cases x with
    | inl _ => rfl
    | inr p =>
      show (if p.1 = ci ∧ f < p.2.length then some (hup σ j (.inr (ci, p.2.set f v))) else none) = (if p.1 = ci ∧ f < p.2.length then some (.inr (ci, p.2.set f v)) else none : Option xC).map (fun c => hup σ j c)
      by_cases q : p.1 = ci ∧ f < p.2.length
      · rw [if_pos q, if_pos q]; rfl
      · rw [if_neg q, if_neg q]; rfl
theorem gsN_1 : (gsN h a l sl).1 = gsL h a l := rfl
theorem gcls_o {vs : List Value} : gcls (some (.inr (ci, vs))) = some ci := rfl
theorem gfld_o {vs : List Value} : gfld (some (.inr (ci, vs))) ci f = vs[f]? := if_pos rfl
theorem gfst_o {vs : List Value} (hf : f < vs.length) : gfst (some (.inr (ci, vs))) ci f v = some (.inr (ci, vs.set f v)) := if_pos ⟨rfl, hf⟩
theorem gint_a {n : Nat} {g : Nat → Int32} : gint (some (.inl (t, n, .inl g))) t = some (n, g) := if_pos rfl
theorem gref_a {n : Nat} {g : Nat → Option Nat} : gref (some (.inl (t, n, .inr (.inr (.inr (.inr g)))))) = some (t, n, g) := rfl
theorem xb0 : xblk 0 = [.null, .int 0] := rfl
theorem xb1 : xblk 1 = [.long 0, .long 0, .long 0, .null, .null, .null, .int 0, .int 0, .int 0, .int 0] := rfl
theorem xb2 : xblk 2 = [.null] := rfl
theorem xb3 : xblk 3 = [.null, .int 0, .int 0] := rfl
theorem xb4 : xblk 4 = [.int 0, .int 0, .int 0, .int 0, .int 0, .int 0, .long 0] := rfl
theorem xb5 : xblk 5 = [.null, .null, .null, .null, .null, .null, .int 0] := rfl
theorem xb6 : xblk 6 = [.null, .null, .null, .int 0, .null, .int 0, .null, .int 0, .int 0, .null, .null, .null, .int 0] := rfl
theorem xe1 : xelt 1 = some 2 := rfl
theorem xe4 : xelt 4 = some 3 := rfl
theorem nI_nn {j : Nat} (hj : j ≤ 10000) : (¬ (nI j : Int32) < 0) = True := eq_true (by
  rw [Int32.lt_iff_toInt_lt, nI_toInt (by omega)]
  show ¬ ((j : Int) < 0)
  omega)
-- a skater
theorem n_skater {x y : Int32} (hl : k < l.length) (hc : l[k]? = some (.inr (4, xblk 4))) : xC1 mX5_init [.ref (a + k), .int x, .int y] (gsN h a l sl) = some (.inl none, gsN h a (l.set k (.inr (4, [.int x, .int y, .int (nI 20), .int (nI 0), .int (nI 0), .int (nI 0), .long 0]))) sl) := by
  have hk : ∀ (l' : List xC) (c' : xC), l'.length = l.length → (gsN h a (l'.set k c') sl).1 (a + k) = some c' := fun l' c' q => by
    rw [gsN_1, gsL_k (by rw [List.length_set]; omega), List.getElem?_set_self (by omega)]
  have h0 : (gsN h a l sl).1 (a + k) = some (.inr (4, [.int 0, .int 0, .int 0, .int 0, .int 0, .int 0, .long 0])) := by
    rw [gsN_1, gsL_k hl, hc]; rfl
  have hu : ∀ (c' : xC), hup (gsN h a l sl) (a + k) c' = gsN h a (l.set k c') sl := fun c' => ghup_k hl
  have hv : ∀ (c1 c' : xC), hup (gsN h a (l.set k c1) sl) (a + k) c' = gsN h a (l.set k c') sl := fun c1 c' => by
    rw [ghup_k (by rw [List.length_set]; exact hl), List.set_set]
  have hk := fun c' => hk l c' rfl
  simp (disch := first | omega | (simp only [List.length_cons, List.length_nil]; omega)) only [e_X5_init, r_X5_init_0, r_X5_init_1, r_X5_init_4, r_X5_init_5, r_X5_init_6, r_X5_init_9, r_X5_init_10, r_X5_init_11, r_X5_init_14, r_X5_init_15, r_X5_init_17, r_X5_init_20, r_X5_init_21, r_X5_init_22, r_X5_init_25, r_X5_init_26, r_X5_init_27, r_X5_init_30, r_X5_init_31, r_X5_init_32, r_X5_init_35, r_X5_init_36, r_X5_init_37, r_X5_init_40, ↓glI0, ↓glL0, ↓glF0, ↓glD0, ↓glA0, ↓glI1, ↓glL1, ↓glF1, ↓glD1, ↓glA1, ↓glI2, ↓glL2, ↓glF2, ↓glD2, ↓glA2, ↓glI3, ↓glL3, ↓glF3, ↓glD3, ↓glA3, ↓glI4, ↓glL4, ↓glF4, ↓glD4, ↓glA4, ↓glI5, ↓glL5, ↓glF5, ↓glD5, ↓glA5, ↓glI6, ↓glL6, ↓glF6, ↓glD6, ↓glA6, ↓glI7, ↓glL7, ↓glF7, ↓glD7, ↓glA7, ↓glI8, ↓glL8, ↓glF8, ↓glD8, ↓glA8, ↓glI9, ↓glL9, ↓glF9, ↓glD9, ↓glA9, ↓glI10, ↓glL10, ↓glF10, ↓glD10, ↓glA10, ↓glI11, ↓glL11, ↓glF11, ↓glD11, ↓glA11, ↓glI12, ↓glL12, ↓glF12, ↓glD12, ↓glA12, ↓glI13, ↓glL13, ↓glF13, ↓glD13, ↓glA13, ↓glI14, ↓glL14, ↓glF14, ↓glD14, ↓glA14, ↓glI15, ↓glL15, ↓glF15, ↓glD15, ↓glA15, ↓glI16, ↓glL16, ↓glF16, ↓glD16, ↓glA16, ↓glI17, ↓glL17, ↓glF17, ↓glD17, ↓glA17, ↓glI18, ↓glL18, ↓glF18, ↓glD18, ↓glA18, ↓glI19, ↓glL19, ↓glF19, ↓glD19, ↓glA19, ↓glI20, ↓glL20, ↓glF20, ↓glD20, ↓glA20, ↓glI21, ↓glL21, ↓glF21, ↓glD21, ↓glA21, ↓glI22, ↓glL22, ↓glF22, ↓glD22, ↓glA22, ↓glI23, ↓glL23, ↓glF23, ↓glD23, ↓glA23, ↓glI24, ↓glL24, ↓glF24, ↓glD24, ↓glA24, ↓bs0, ↓bs1, ↓bs2, ↓bs3, ↓bs4, ↓bs5, ↓bs6, ↓bs7, ↓bs8, ↓bs9, ↓bs10, ↓bs11, ↓bs12, ↓bs13, ↓bs14, ↓bs15, ↓bs16, ↓bs17, ↓bs18, ↓bs19, ↓bs20, ↓bs21, ↓bs22, ↓bs23, ↓bs24, ↓bw0, ↓bw1, ↓bw2, ↓bw3, ↓bw4, ↓bw5, ↓bw6, ↓bw7, ↓bw8, ↓bw9, ↓bw10, ↓bw11, ↓bw13, ↓bw14, ↓bw15, ↓bw16, ↓bw17, ↓bw18, ↓bw19, ↓bw20, ↓bw21, ↓bw22, ↓bw23, ↓bw24, lk0, lkI, lkA, lkL, lkD, lkF, gI1, gL1, gF1, gD1, gA1, xw0, xwI, xwA, xwL, xwD, xwF, vtS, vtN, Option.bind_some, true_or, or_true, ↓reduceIte, if_true, if_false, yC_s, yV_s, Nat.reduceAdd, Nat.reduceLeDiff, Nat.zero_le, not_true_eq_false, not_false_eq_true, eq_self, true_and, and_true, nI_add, pk_mul, nI_clamp, pk_sub, pk_div, zmod, zn_m1, zn_leT, zn_leF, zn_ltT, zn_ltF, zn_eqF, zn_in, zn_0le, zn_nlt0, zn_pos, zn_npos, zn_le0F, zn_le0T, zn_0F, zn_0T, nI_0i, zq_lt0, zq_le0, zq_0le, zq_11, bI_eq0c, bI_01c, zm_lt0, zm_0le, zm_ne, zm_ne2, zm_le0, bI_eq0, bI_ne0, zfit_b, zfit_0, zfit_1, z01_0, z01_1, Bool.false_eq_true, Bool.true_eq_false, Nat.zero_add, ztr_lt, Nat.add_zero, Nat.reduceMul, zms_s, zms_n, zms_zms, zso_1_0, zso_2_0, zso_2_1, zso_3_0, zso_3_1, zso_3_2, zso_4_0, zso_4_1, zso_4_2, zso_4_3, zso_5_0, zso_5_1, zso_5_2, zso_5_3, zso_5_4, zso_6_0, zso_6_1, zso_6_2, zso_6_3, zso_6_4, zso_6_5, zso_7_0, zso_7_1, zso_7_2, zso_7_3, zso_7_4, zso_7_5, zso_7_6, zso_8_0, zso_8_1, zso_8_2, zso_8_3, zso_8_4, zso_8_5, zso_8_6, zso_8_7, zcp_s, zcp_n, zcp_zcp, zcp_2, upd_s, upd_n, updL_s, updL_n, zsS_1, zsS_2, zsS_3, zsS_4, zsL_1, zsL_2, zsL_3, zsL_4, bI_01b, yw_X0_placeBehind_1_0, yw_X0_placeBehind_1_1, yw_X0_placeBehind_1_2, yw_X0_placeBehind_1_3, yw_X0_placeBehind_1_4, yw_X1_leading_1_0, yw_X1_leading_1_1, yw_X1_leading_1_2, yw_X1_leading_1_3, yw_X1_leading_1_4, yw_X6_thawingCells_59_0, yw_X6_thawingCells_59_1, yw_X6_thawingCells_59_2, yw_X6_thawingCells_59_3, yw_X6_thawingCells_59_4, yw_X6_stateNumber_1_0, yw_X6_stateNumber_1_1, yw_X6_stateNumber_1_2, yw_X6_stateNumber_1_3, yw_X6_stateNumber_1_4, yw_X6_stateNumber_1_5, yw_X6_stateNumber_1_6, yw_X6_stateNumber_1_7, yw_X6_stateNumber_1_8, yw_X6_stateNumber_1_9, yw_X6_stateNumber_1_10, yw_X6_stateNumber_1_11, yw_X6_cellNumber_1_0, yw_X6_cellNumber_1_1, yw_X6_cellNumber_1_2, yw_X6_cellNumber_1_3, yw_X6_cellNumber_1_4, yw_X6_cellNumber_1_5, yw_X6_skaterNumber_11_0, yw_X6_skaterNumber_11_1, yw_X6_skaterNumber_11_2, yw_X6_skaterNumber_11_3, yw_X6_skaterNumber_11_4, yw_X6_skaterNumber_11_5, yw_X6_skaterNumber_11_6, yw_X6_skaterNumber_11_7, yw_X6_skaterNumber_11_8, yw_X6_ifGlided_77_0, yw_X6_ifGlided_77_1, yw_X6_ifGlided_77_2, yw_X6_ifGlided_77_3, zk_p, zk_s, zk_0, zk_22, zk_66, zk_68, zskr_k, zpor_k, zu_W, zu_Wc, zu_T, zu_Tc, zu_67, zu_69, ↓zb_q_W, ↓zb_q_T, ↓zb_q_K, ↓zb_q_23, ↓zb_q_67, ↓zb_q_69, ↓zb_f_p0, ↓zb_g_p0, ↓zb_f_p1, ↓zb_g_p1, ↓zb_f_p2, ↓zb_g_p2, ↓zb_f_p3, ↓zb_f_p4, ↓zb_f_p5, ↓zb_f_p6, ↓zb_g_p6, ↓zb_f_p7, ↓zb_g_p7, ↓zb_f_p8, ↓zb_g_p8, ↓zb_f_p9, ↓zb_g_p9, ↓zb_f_s0, ↓zb_g_s0, ↓zb_f_s1, ↓zb_g_s1, ↓zb_f_s2, ↓zb_g_s2, ↓zb_f_s3, ↓zb_g_s3, ↓zb_f_s4, ↓zb_g_s4, ↓zb_f_s5, ↓zb_g_s5, ↓zb_f_s6, ↓zb_g_s6, ↓zb_f_c0, ↓zb_f_c1, ↓zb_f_c2, ↓zb_f_c3, ↓zb_f_c4, ↓zb_f_c5, ↓zb_f_c6, ↓zb_g_c6, ↓zb_f_d0, ↓zb_f_d1, ↓zb_g_d1, ↓zb_f_d2, ↓zb_g_d2, ↓zb_f_t0, ↓zb_f_t1, ↓zb_g_t1, ↓zb_f_j0, glo_fst, h0, hk, hu, hv, gfst_o, List.length_cons, List.length_nil, List.set_cons_succ, List.set_cons_zero, Option.map_some]
end Z9D
