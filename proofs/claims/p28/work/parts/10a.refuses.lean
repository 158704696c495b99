/-! ===== calls that are refused change nothing: by program (wip/p28/tools/gen_ref.py) ===== -/
theorem zlt0 {y : Nat} (hy : y < 2 ^ 30) : ((-1 : Int32) - nI y) < 0 := by
  rw [Int32.lt_iff_toInt_lt, Int32.toInt_sub, nI_toInt (by omega)]
  show ((-1 : Int32).toInt - (y : Int)).bmod (2 ^ 32) < (0 : Int32).toInt
  rw [show (-1 : Int32).toInt = -1 from by decide, show (0 : Int32).toInt = 0 from by decide]
  unfold Int.bmod
  dsimp only
  split <;> omega
theorem zrI_neg {x : Int32} {a b : Nat} (ha : a < 2 ^ 31) (h : x < 0) : zrI x a b = false := by
  unfold zrI
  refine decide_eq_false (fun q => ?_)
  have h2 := Int32.lt_of_le_of_lt q.1 h
  exact nI_pos ha h2
theorem zrI_big {k a b : Nat} (hb : b < k) (hk : k < 2 ^ 31) : zrI (nI k) a b = false := by
  unfold zrI
  refine decide_eq_false (fun q => ?_)
  exact nI_ge hb hk q.2
theorem zrI_lo {k a b : Nat} (hb : k < a) (hk : a < 2 ^ 31) : zrI (nI k) a b = false := by
  unfold zrI
  refine decide_eq_false (fun q => ?_)
  exact nI_ge hb hk q.1
theorem zin_1 {x y : Int32} (h : zrI x 0 7 = false) : zin x y = false := by
  unfold zin
  unfold zrI at h
  rw [h]; rfl
theorem zin_2 {x y : Int32} (h : zrI y 0 7 = false) : zin x y = false := by
  unfold zin
  unfold zrI at h
  rw [h]
  exact Bool.and_false _
/-- so many throws later -/
def zegn : Nat → ZE → ZE
  | 0, e => e
  | n + 1, e => zegn n (zeg e)
theorem zegn_E : ∀ (n : Nat) (e : ZE), zE e (zegn n e) n
  | 0, e => zE_rf e 0
  | n + 1, e => zE_le (zE_tr (zE_g e) (zegn_E n (zeg e))) (by omega)
theorem zKr_txt {C : ZC} {M M' : ZM} {o n kp : Nat} (h : zKr C M o n 0 kp) (h0 : M' 0 = M 0) (h2 : M' 2 = M 2) (h3 : M' 3 = M 3) (h8 : ∀ j, j < 3 → M' 8 j = M 8 j) : zKr C M' o n 0 kp := by
  unfold zKr at *
  rw [h0, h2, h3, h8 0 (by omega), h8 1 (by omega), h8 2 (by omega)]
  obtain ⟨a, b, c, d, f, g, k⟩ := h
  exact ⟨a, b, c, d, f, g, fun j hj => absurd hj (Nat.not_lt_zero _)⟩
section Z10A
variable {C : ZC} {M : ZM} {e : ZE} {n l kp : Nat}
theorem rf_0 {y : Nat} {no off : Int32} (hy : y < 100000) (hno : zrI no 0 2 = false) (hoff : zrI off 0 7 = false) (hM : zok M n l kp) (h : zKR C M) (e : ZE) : xC1 mL_glide [.ref 0, .int no, .int (nI 0), .int (nI 0)] (zH C M e) = some (.inl (some (.int (-3))), zH C M (zeg e)) := by
  have hv : vt_gl no (nI 0) (nI 0) = 1 := by unfold vt_gl; rw [if_neg (by rw [hno]; decide)]
  have q := k_glide_e (C := C) (M := M) (e := e) (x := no) (y := (nI 0)) (z := (nI 0)) (by rw [hv]; decide)
  rw [hv] at q
  exact (ct_glide C M e).2 0 (-3) (by decide) q
theorem rf_1 {y : Nat} {no off : Int32} (hy : y < 100000) (hno : zrI no 0 2 = false) (hoff : zrI off 0 7 = false) (hM : zok M n l kp) (h : zKR C M) (e : ZE) : xC1 mL_glide [.ref 0, .int (nI 0), .int (nI (4 + y)), .int (nI 1)] (zH C M e) = some (.inl (some (.int (-2))), zH C M (zeg e)) := by
  have hv : vt_gl (nI 0) (nI (4 + y)) (nI 1) = 2 := by unfold vt_gl; rw [if_pos (zrI_n2 (by omega) (by omega) (by omega)), if_neg (fun q => by rw [zrI_big (by omega) (by omega)] at q; exact absurd q.1 (by decide))]
  have q := k_glide_e (C := C) (M := M) (e := e) (x := (nI 0)) (y := (nI (4 + y))) (z := (nI 1)) (by rw [hv]; decide)
  rw [hv] at q
  exact (ct_glide C M e).2 1 (-2) (by decide) q
theorem rf_2 {y : Nat} {no off : Int32} (hy : y < 100000) (hno : zrI no 0 2 = false) (hoff : zrI off 0 7 = false) (hM : zok M n l kp) (h : zKR C M) (e : ZE) : xC1 mL_glide [.ref 0, .int (nI 0), .int (nI 0), .int (nI (9 + y))] (zH C M e) = some (.inl (some (.int (-2))), zH C M (zeg e)) := by
  have hv : vt_gl (nI 0) (nI 0) (nI (9 + y)) = 2 := by unfold vt_gl; rw [if_pos (zrI_n2 (by omega) (by omega) (by omega)), if_neg (fun q => by rw [zrI_big (k := 9 + y) (by omega) (by omega)] at q; exact absurd q.2 (by decide))]
  have q := k_glide_e (C := C) (M := M) (e := e) (x := (nI 0)) (y := (nI 0)) (z := (nI (9 + y))) (by rw [hv]; decide)
  rw [hv] at q
  exact (ct_glide C M e).2 1 (-2) (by decide) q
theorem rf_3 {y : Nat} {no off : Int32} (hy : y < 100000) (hno : zrI no 0 2 = false) (hoff : zrI off 0 7 = false) (hM : zok M n l kp) (h : zKR C M) (e : ZE) : xC1 mL_hole [.ref 0, .int off, .int (nI 0)] (zH C M e) = some (.inl (some (.int (-3))), zH C M (zeg e)) := by
  have hv : vt_ho (M 0) off (nI 0) = 1 := by unfold vt_ho; rw [if_neg (by rw [zin_1 hoff]; decide)]
  have q := k_hole_e (C := C) (M := M) (e := e) (x := off) (y := (nI 0)) (s := M 0) (zKR_R h).1 (by rw [hv]; decide)
  rw [hv] at q
  exact (ct_hole C M e).2 0 (-3) (by decide) q
theorem rf_4 {y : Nat} {no off : Int32} (hy : y < 100000) (hno : zrI no 0 2 = false) (hoff : zrI off 0 7 = false) (hM : zok M n l kp) (h : zKR C M) (e : ZE) : xC1 mL_hole [.ref 0, .int (nI 0), .int off] (zH C M e) = some (.inl (some (.int (-3))), zH C M (zeg e)) := by
  have hv : vt_ho (M 0) (nI 0) off = 1 := by unfold vt_ho; rw [if_neg (by rw [zin_2 hoff]; decide)]
  have q := k_hole_e (C := C) (M := M) (e := e) (x := (nI 0)) (y := off) (s := M 0) (zKR_R h).1 (by rw [hv]; decide)
  rw [hv] at q
  exact (ct_hole C M e).2 0 (-3) (by decide) q
theorem rf_5 {y : Nat} {no off : Int32} (hy : y < 100000) (hno : zrI no 0 2 = false) (hoff : zrI off 0 7 = false) (hM : zok M n l kp) (h : zKR C M) (e : ZE) : xC1 mL_pay [.ref 0, .int no, .int (nI 0)] (zH C M e) = some (.inl (some (.int (-3))), zH C M (zeg e)) := by
  have hv : vt_pa (M 0) no (nI 0) = 1 := by unfold vt_pa; rw [if_neg (by rw [hno]; decide)]
  have q := k_pay_e (C := C) (M := M) (e := e) (x := no) (c := (nI 0)) (s := M 0) (zKR_R h).1 (by rw [hv]; decide)
  rw [hv] at q
  exact (ct_pay C M e).2 0 (-3) (by decide) q
theorem rf_6 {y : Nat} {no off : Int32} (hy : y < 100000) (hno : zrI no 0 2 = false) (hoff : zrI off 0 7 = false) (hM : zok M n l kp) (h : zKR C M) (e : ZE) : xC1 mL_pay [.ref 0, .int (nI 0), .int (nI (100 + y))] (zH C M e) = some (.inl (some (.int (-2))), zH C M (zeg e)) := by
  have hv : vt_pa (M 0) (nI 0) (nI (100 + y)) = 2 := by unfold vt_pa; rw [if_pos (zrI_n2 (by omega) (by omega) (by omega)), if_neg (by rw [zrI_big (by omega) (by omega)]; decide)]
  have q := k_pay_e (C := C) (M := M) (e := e) (x := (nI 0)) (c := (nI (100 + y))) (s := M 0) (zKR_R h).1 (by rw [hv]; decide)
  rw [hv] at q
  exact (ct_pay C M e).2 1 (-2) (by decide) q
theorem rf_7 {y : Nat} {no off : Int32} (hy : y < 100000) (hno : zrI no 0 2 = false) (hoff : zrI off 0 7 = false) (hM : zok M n l kp) (h : zKR C M) (e : ZE) : xC1 mL_set [.ref 0, .int no, .int (nI 0)] (zH C M e) = some (.inl (some (.int (-3))), zH C M (zeg e)) := by
  have hv : vt_se no (nI 0) = 1 := by unfold vt_se; rw [if_neg (by rw [hno]; decide)]
  have q := k_set_e (C := C) (M := M) (e := e) (x := no) (v := (nI 0)) (by rw [hv]; decide)
  rw [hv] at q
  exact (ct_set C M e).2 0 (-3) (by decide) q
theorem rf_8 {y : Nat} {no off : Int32} (hy : y < 100000) (hno : zrI no 0 2 = false) (hoff : zrI off 0 7 = false) (hM : zok M n l kp) (h : zKR C M) (e : ZE) : xC1 mL_set [.ref 0, .int (nI 0), .int (nI (10 + y))] (zH C M e) = some (.inl (some (.int (-2))), zH C M (zeg e)) := by
  have hv : vt_se (nI 0) (nI (10 + y)) = 2 := by unfold vt_se; rw [if_pos (zrI_n2 (by omega) (by omega) (by omega)), if_neg (by rw [show zhv (nI 0) = 9 from by decide, zrI_big (by omega) (by omega)]; decide)]
  have q := k_set_e (C := C) (M := M) (e := e) (x := (nI 0)) (v := (nI (10 + y))) (by rw [hv]; decide)
  rw [hv] at q
  exact (ct_set C M e).2 1 (-2) (by decide) q
theorem rf_9 {y : Nat} {no off : Int32} (hy : y < 100000) (hno : zrI no 0 2 = false) (hoff : zrI off 0 7 = false) (hM : zok M n l kp) (h : zKR C M) (e : ZE) : xC1 mL_set [.ref 0, .int (nI 1), .int (nI 0)] (zH C M e) = some (.inl (some (.int (-2))), zH C M (zeg e)) := by
  have hv : vt_se (nI 1) (nI 0) = 2 := by decide
  have q := k_set_e (C := C) (M := M) (e := e) (x := (nI 1)) (v := (nI 0)) (by rw [hv]; decide)
  rw [hv] at q
  exact (ct_set C M e).2 1 (-2) (by decide) q
theorem rf_10 {y : Nat} {no off : Int32} (hy : y < 100000) (hno : zrI no 0 2 = false) (hoff : zrI off 0 7 = false) (hM : zok M n l kp) (h : zKR C M) (e : ZE) : xC1 mL_set [.ref 0, .int (nI 2), .int (nI (5 + y))] (zH C M e) = some (.inl (some (.int (-2))), zH C M (zeg e)) := by
  have hv : vt_se (nI 2) (nI (5 + y)) = 2 := by unfold vt_se; rw [if_pos (zrI_n2 (by omega) (by omega) (by omega)), if_neg (by rw [show zhv (nI 2) = 4 from by decide, zrI_big (by omega) (by omega)]; decide)]
  have q := k_set_e (C := C) (M := M) (e := e) (x := (nI 2)) (v := (nI (5 + y))) (by rw [hv]; decide)
  rw [hv] at q
  exact (ct_set C M e).2 1 (-2) (by decide) q
theorem rf_11 {y : Nat} {no off : Int32} (hy : y < 100000) (hno : zrI no 0 2 = false) (hoff : zrI off 0 7 = false) (hM : zok M n l kp) (h : zKR C M) (e : ZE) : xC1 mL_pond [.ref 0, .int off, .int (nI 0), .int (nI 0)] (zH C M e) = some (.inl (some (.int (-3))), zH C M (zeg e)) := by
  have hv : vt_ce off (nI 0) (nI 0) = 1 := by unfold vt_ce; rw [if_neg (by rw [zin_1 hoff]; decide)]
  have q := k_cell_e (C := C) (M := M) (e := e) (x := off) (y := (nI 0)) (w := (nI 0)) (by rw [hv]; decide)
  rw [hv] at q
  exact (ct_pond C M e).2 0 (-3) (by decide) q
theorem rf_12 {y : Nat} {no off : Int32} (hy : y < 100000) (hno : zrI no 0 2 = false) (hoff : zrI off 0 7 = false) (hM : zok M n l kp) (h : zKR C M) (e : ZE) : xC1 mL_pond [.ref 0, .int (nI 0), .int (nI 0), .int (nI (6 + y))] (zH C M e) = some (.inl (some (.int (-2))), zH C M (zeg e)) := by
  have hv : vt_ce (nI 0) (nI 0) (nI (6 + y)) = 2 := by unfold vt_ce; rw [if_pos (zin_n (by omega) (by omega)), if_neg (by rw [zrI_big (by omega) (by omega)]; decide)]
  have q := k_cell_e (C := C) (M := M) (e := e) (x := (nI 0)) (y := (nI 0)) (w := (nI (6 + y))) (by rw [hv]; decide)
  rw [hv] at q
  exact (ct_pond C M e).2 1 (-2) (by decide) q
theorem rf_13 {y : Nat} {no off : Int32} (hy : y < 100000) (hno : zrI no 0 2 = false) (hoff : zrI off 0 7 = false) (hM : zok M n l kp) (h : zKR C M) (e : ZE) : xC1 mL_line [.ref 0, .int (nI (9 + y)), .int (nI 0), .int (nI 2), .int (nI 0)] (zH C M e) = some (.inl (some (.int (-3))), zH C M (zeg e)) := by
  have hv : vt_li (nI (9 + y)) (nI 0) (nI 2) (nI 0) = 1 := by unfold vt_li; rw [if_neg (fun q => by rw [zrI_big (k := 9 + y) (by omega) (by omega)] at q; exact absurd q.1.1 (by decide))]
  have q := k_line_e (C := C) (M := M) (e := e) (x := (nI (9 + y))) (y := (nI 0)) (d := (nI 2)) (w := (nI 0)) (by rw [hv]; decide)
  rw [hv] at q
  exact (ct_line C M e).2 0 (-3) (by decide) q
theorem rf_14 {y : Nat} {no off : Int32} (hy : y < 100000) (hno : zrI no 0 2 = false) (hoff : zrI off 0 7 = false) (hM : zok M n l kp) (h : zKR C M) (e : ZE) : xC1 mL_line [.ref 0, .int (nI 8), .int (nI 0), .int (nI 1), .int (nI 9)] (zH C M e) = some (.inl (some (.int (-3))), zH C M (zeg e)) := by
  have hv : vt_li (nI 8) (nI 0) (nI 1) (nI 9) = 1 := by decide
  have q := k_line_e (C := C) (M := M) (e := e) (x := (nI 8)) (y := (nI 0)) (d := (nI 1)) (w := (nI 9)) (by rw [hv]; decide)
  rw [hv] at q
  exact (ct_line C M e).2 0 (-3) (by decide) q
theorem rf_15 {y : Nat} {no off : Int32} (hy : y < 100000) (hno : zrI no 0 2 = false) (hoff : zrI off 0 7 = false) (hM : zok M n l kp) (h : zKR C M) (e : ZE) : xC1 mL_line [.ref 0, .int (nI 0), .int (nI 8), .int (nI 2), .int (nI 9)] (zH C M e) = some (.inl (some (.int (-3))), zH C M (zeg e)) := by
  have hv : vt_li (nI 0) (nI 8) (nI 2) (nI 9) = 1 := by decide
  have q := k_line_e (C := C) (M := M) (e := e) (x := (nI 0)) (y := (nI 8)) (d := (nI 2)) (w := (nI 9)) (by rw [hv]; decide)
  rw [hv] at q
  exact (ct_line C M e).2 0 (-3) (by decide) q
theorem rf_16 {y : Nat} {no off : Int32} (hy : y < 100000) (hno : zrI no 0 2 = false) (hoff : zrI off 0 7 = false) (hM : zok M n l kp) (h : zKR C M) (e : ZE) : xC1 mL_line [.ref 0, .int (nI 0), .int (nI 0), .int (nI 1), .int (nI (3 + y))] (zH C M e) = some (.inl (some (.int (-2))), zH C M (zeg e)) := by
  have hv : vt_li (nI 0) (nI 0) (nI 1) (nI (3 + y)) = 2 := by unfold vt_li; rw [if_pos (by decide), if_neg (fun q => by rw [zrI_big (k := 3 + y) (by omega) (by omega)] at q; exact absurd q.2 (by decide))]
  have q := k_line_e (C := C) (M := M) (e := e) (x := (nI 0)) (y := (nI 0)) (d := (nI 1)) (w := (nI (3 + y))) (by rw [hv]; decide)
  rw [hv] at q
  exact (ct_line C M e).2 1 (-2) (by decide) q
theorem rf_17 {y : Nat} {no off : Int32} (hy : y < 100000) (hno : zrI no 0 2 = false) (hoff : zrI off 0 7 = false) (hM : zok M n l kp) (h : zKR C M) (e : ZE) : xC1 mL_skater [.ref 0, .int no, .int (nI 9)] (zH C M e) = some (.inl (some (.int (-3))), zH C M (zeg e)) := by
  have hv : vt_sk no (nI 9) = 1 := by unfold vt_sk; rw [if_neg (by rw [hno]; decide)]
  have q := k_skater_e (C := C) (M := M) (e := e) (x := no) (w := (nI 9)) (by rw [hv]; decide)
  rw [hv] at q
  exact (ct_skater C M e).2 0 (-3) (by decide) q
theorem rf_18 {y : Nat} {no off : Int32} (hy : y < 100000) (hno : zrI no 0 2 = false) (hoff : zrI off 0 7 = false) (hM : zok M n l kp) (h : zKR C M) (e : ZE) : xC1 mL_skater [.ref 0, .int (nI 0), .int (nI (9 + y))] (zH C M e) = some (.inl (some (.int (-2))), zH C M (zeg e)) := by
  have hv : vt_sk (nI 0) (nI (9 + y)) = 2 := by unfold vt_sk; rw [if_pos (zrI_n2 (by omega) (by omega) (by omega)), if_neg (by rw [zrI_big (by omega) (by omega)]; decide)]
  have q := k_skater_e (C := C) (M := M) (e := e) (x := (nI 0)) (w := (nI (9 + y))) (by rw [hv]; decide)
  rw [hv] at q
  exact (ct_skater C M e).2 1 (-2) (by decide) q
theorem rf_19 {y : Nat} {no off : Int32} (hy : y < 100000) (hno : zrI no 0 2 = false) (hoff : zrI off 0 7 = false) (hM : zok M n l kp) (h : zKR C M) (e : ZE) : xC1 mL_rink [.ref 0, .int (-1 - nI y), .int (nI 5)] (zH C M e) = some (.inl (some (.int (-3))), zH C M (zeg e)) := by
  have hng := zlt0 (y := y) (by omega)
  have hv : vt_ri (-1 - nI y) (nI 5) = 1 := by unfold vt_ri; rw [if_neg (fun q => nI_pos (n := 0) (by omega) (Int32.lt_of_le_of_lt q hng))]
  have q := k_rink_e (C := C) (M := M) (e := e) (x := (-1 - nI y)) (w := (nI 5)) (by rw [hv]; decide)
  rw [hv] at q
  exact (ct_rink C M e).2 0 (-3) (by decide) q
theorem rf_20 {y : Nat} {no off : Int32} (hy : y < 100000) (hno : zrI no 0 2 = false) (hoff : zrI off 0 7 = false) (hM : zok M n l kp) (h : zKR C M) (e : ZE) : xC1 mL_rink [.ref 0, .int (nI 0), .int (nI (3 + y))] (zH C M e) = some (.inl (some (.int (-2))), zH C M (zeg e)) := by
  have hv : vt_ri (nI 0) (nI (3 + y)) = 2 := by unfold vt_ri; rw [if_pos (Int32.le_refl _), if_neg (by rw [zrI_big (by omega) (by omega)]; decide)]
  have q := k_rink_e (C := C) (M := M) (e := e) (x := (nI 0)) (w := (nI (3 + y))) (by rw [hv]; decide)
  rw [hv] at q
  exact (ct_rink C M e).2 1 (-2) (by decide) q
theorem rf_21 {y : Nat} {no off : Int32} (hy : y < 100000) (hno : zrI no 0 2 = false) (hoff : zrI off 0 7 = false) (hM : zok M n l kp) (h : zKR C M) (e : ZE) : xC1 mL_count [.ref 0, .int (nI (12 + y))] (zH C M e) = some (.inl (some (.int (-2))), zH C M (zeg e)) := by
  have hv : vt_co (nI (12 + y)) = 1 := by unfold vt_co; rw [if_neg (by rw [zrI_big (by omega) (by omega)]; decide)]
  have q := k_count_e (C := C) (M := M) (e := e) (w := (nI (12 + y))) (by rw [hv]; decide)
  exact (ct_count C M e).2 1 (-2) (by decide) q
theorem rf_22 {y : Nat} {no off : Int32} (hy : y < 100000) (hno : zrI no 0 2 = false) (hoff : zrI off 0 7 = false) (hM : zok M n l kp) (h : zKR C M) (e : ZE) : xC1 mL_count [.ref 0, .int (-1 - nI y)] (zH C M e) = some (.inl (some (.int (-2))), zH C M (zeg e)) := by
  have hng := zlt0 (y := y) (by omega)
  have hv : vt_co (-1 - nI y) = 1 := by unfold vt_co; rw [if_neg (by rw [zrI_neg (by omega) hng]; decide)]
  have q := k_count_e (C := C) (M := M) (e := e) (w := (-1 - nI y)) (by rw [hv]; decide)
  exact (ct_count C M e).2 1 (-2) (by decide) q
theorem rf_23 {y : Nat} {no off : Int32} (hy : y < 100000) (hno : zrI no 0 2 = false) (hoff : zrI off 0 7 = false) (hM : zok M n l kp) (h : zKR C M) (e : ZE) : xC1 mL_why [.ref 0, .int no, .int (nI 9)] (zH C M e) = some (.inl (some (.int (-3))), zH C M (zeg e)) := by
  have hv : vt_wh no (nI 9) = 1 := by unfold vt_wh; rw [if_neg (by rw [hno]; decide)]
  have q := k_why_e (C := C) (M := M) (e := e) (x := no) (d := (nI 9)) (by rw [hv]; decide)
  rw [hv] at q
  exact (ct_why C M e).2 0 (-3) (by decide) q
theorem rf_24 {y : Nat} {no off : Int32} (hy : y < 100000) (hno : zrI no 0 2 = false) (hoff : zrI off 0 7 = false) (hM : zok M n l kp) (h : zKR C M) (e : ZE) : xC1 mL_why [.ref 0, .int (nI 0), .int (-1 - nI y)] (zH C M e) = some (.inl (some (.int (-2))), zH C M (zeg e)) := by
  have hng := zlt0 (y := y) (by omega)
  have hv : vt_wh (nI 0) (-1 - nI y) = 2 := by unfold vt_wh; rw [if_pos (zrI_n2 (by omega) (by omega) (by omega)), if_neg (by rw [zrI_neg (by omega) hng]; decide)]
  have q := k_why_e (C := C) (M := M) (e := e) (x := (nI 0)) (d := (-1 - nI y)) (by rw [hv]; decide)
  rw [hv] at q
  exact (ct_why C M e).2 1 (-2) (by decide) q
theorem rf_25 {y : Nat} {no off : Int32} (hy : y < 100000) (hno : zrI no 0 2 = false) (hoff : zrI off 0 7 = false) (hM : zok M n l kp) (h : zKR C M) (e : ZE) : xC1 mL_ifGlided [.ref 0, .int no, .int (nI 0), .int (nI 1), .int (nI 0)] (zH C M e) = some (.inl (some (.int (-103))), zH C M (zeg e)) := by
  have hv : vt_if no (nI 0) (nI 1) (nI 0) = 1 := by unfold vt_if; rw [if_neg (by rw [hno]; decide)]
  have q := k_ifGlided_e (C := C) (M := M) (e := e) (x := no) (d := (nI 0)) (t := (nI 1)) (w := (nI 0)) (by rw [hv]; decide)
  rw [hv] at q
  exact (ct_ifGlided C M e).2 0 (-103) (by decide) q
theorem rf_26 {y : Nat} {no off : Int32} (hy : y < 100000) (hno : zrI no 0 2 = false) (hoff : zrI off 0 7 = false) (hM : zok M n l kp) (h : zKR C M) (e : ZE) : xC1 mL_ifGlided [.ref 0, .int (nI 0), .int (nI 0), .int (nI 1), .int (nI (4 + y))] (zH C M e) = some (.inl (some (.int (-102))), zH C M (zeg e)) := by
  have hv : vt_if (nI 0) (nI 0) (nI 1) (nI (4 + y)) = 2 := by unfold vt_if; rw [if_pos (zrI_n2 (by omega) (by omega) (by omega)), if_neg (fun q => by rw [zrI_big (k := 4 + y) (by omega) (by omega)] at q; exact absurd q.2.2 (by decide))]
  have q := k_ifGlided_e (C := C) (M := M) (e := e) (x := (nI 0)) (d := (nI 0)) (t := (nI 1)) (w := (nI (4 + y))) (by rw [hv]; decide)
  rw [hv] at q
  exact (ct_ifGlided C M e).2 1 (-102) (by decide) q
theorem rf_27 {y : Nat} {no off : Int32} (hy : y < 100000) (hno : zrI no 0 2 = false) (hoff : zrI off 0 7 = false) (hM : zok M n l kp) (h : zKR C M) (e : ZE) : xC1 mL_best [.ref 0, .int no] (zH C M e) = some (.inl (some (.int (-3))), zH C M (zeg e)) := by
  have hv : vt_be no = 1 := by unfold vt_be; rw [if_neg (by rw [hno]; decide)]
  have q := k_best_e (C := C) (M := M) (e := e) (x := no) (by rw [hv]; decide)
  exact (ct_best C M e).2 0 (-3) (by decide) q
theorem rf_28 {y : Nat} {no off : Int32} (hy : y < 100000) (hno : zrI no 0 2 = false) (hoff : zrI off 0 7 = false) (hM : zok M n l kp) (h : zKR C M) (e : ZE) : xC1 mL_setting [.ref 0, .int no] (zH C M e) = some (.inl (some (.int (-2))), zH C M (zeg e)) := by
  have hv : vt_st no = 1 := by unfold vt_st; rw [if_neg (by rw [hno]; decide)]
  have q := k_setting_e (C := C) (M := M) (e := e) (x := no) (by rw [hv]; decide)
  exact (ct_setting C M e).2 0 (-2) (by decide) q
theorem rf_29 {y : Nat} {no off : Int32} (hy : y < 100000) (hno : zrI no 0 2 = false) (hoff : zrI off 0 7 = false) (hM : zok M n l kp) (h : zKR C M) (e : ZE) : xC1 mL_append [.ref 0, .int (nI 32 - nI y)] (zH C M e) = some (.inl (some (.int (-2))), zH C M (zeg e)) := by
  have h32 : zrI (nI 32 - nI y) 33 126 = false := by
    by_cases hle : y ≤ 32
    · rw [pk_sub hle]; exact zrI_lo (by omega) (by omega)
    · refine zrI_neg (by omega) ?_
      rw [Int32.lt_iff_toInt_lt, Int32.toInt_sub, nI_toInt (by omega), nI_toInt (by omega)]
      show (((32 : Nat) : Int) - (y : Int)).bmod (2 ^ 32) < (0 : Int32).toInt
      rw [show (0 : Int32).toInt = 0 from by decide]
      unfold Int.bmod
      dsimp only
      split <;> omega
  have hv : vt_ap (nI l) (nI 32 - nI y) = 1 := by unfold vt_ap; rw [if_neg (by rw [h32]; decide)]
  obtain ⟨o, h⟩ := zKR_at hM h
  have q := k_append_e (C := C) (M := M) (e := e) h.2.1.1 h.1.2.2.1 (c := (nI 32 - nI y)) (by rw [hv]; decide)
  rw [hv] at q
  exact (ct_append C M e).2 1 (-2) (by decide) q
theorem rf_30 {y : Nat} {no off : Int32} (hy : y < 100000) (hno : zrI no 0 2 = false) (hoff : zrI off 0 7 = false) (hM : zok M n l kp) (h : zKR C M) (e : ZE) : xC1 mL_append [.ref 0, .int (nI (127 + y))] (zH C M e) = some (.inl (some (.int (-2))), zH C M (zeg e)) := by
  have hv : vt_ap (nI l) (nI (127 + y)) = 1 := by unfold vt_ap; rw [if_neg (by rw [zrI_big (by omega) (by omega)]; decide)]
  obtain ⟨o, h⟩ := zKR_at hM h
  have q := k_append_e (C := C) (M := M) (e := e) h.2.1.1 h.1.2.2.1 (c := (nI (127 + y))) (by rw [hv]; decide)
  rw [hv] at q
  exact (ct_append C M e).2 1 (-2) (by decide) q
theorem rf_all {y : Nat} {no off : Int32} (hy : y < 100000) (hno : zrI no 0 2 = false) (hoff : zrI off 0 7 = false) (hM : zok M n l kp) (h : zKR C M) (e : ZE) : xR mL_refuses 33 [some (.ref 0), some (.int (nI y)), some (.int no), some (.int off), none, none] [] (zH C M e) = xR mL_refuses 439 [some (.ref 0), some (.int (nI y)), some (.int no), some (.int off), none, none] [.int (nI 1)] (zH C M (zegn 31 e)) := by
  have g0 := rf_0 (y := y) (no := no) (off := off) hy hno hoff hM h
  have g1 := rf_1 (y := y) (no := no) (off := off) hy hno hoff hM h
  have g2 := rf_2 (y := y) (no := no) (off := off) hy hno hoff hM h
  have g3 := rf_3 (y := y) (no := no) (off := off) hy hno hoff hM h
  have g4 := rf_4 (y := y) (no := no) (off := off) hy hno hoff hM h
  have g5 := rf_5 (y := y) (no := no) (off := off) hy hno hoff hM h
  have g6 := rf_6 (y := y) (no := no) (off := off) hy hno hoff hM h
  have g7 := rf_7 (y := y) (no := no) (off := off) hy hno hoff hM h
  have g8 := rf_8 (y := y) (no := no) (off := off) hy hno hoff hM h
  have g9 := rf_9 (y := y) (no := no) (off := off) hy hno hoff hM h
  have g10 := rf_10 (y := y) (no := no) (off := off) hy hno hoff hM h
  have g11 := rf_11 (y := y) (no := no) (off := off) hy hno hoff hM h
  have g12 := rf_12 (y := y) (no := no) (off := off) hy hno hoff hM h
  have g13 := rf_13 (y := y) (no := no) (off := off) hy hno hoff hM h
  have g14 := rf_14 (y := y) (no := no) (off := off) hy hno hoff hM h
  have g15 := rf_15 (y := y) (no := no) (off := off) hy hno hoff hM h
  have g16 := rf_16 (y := y) (no := no) (off := off) hy hno hoff hM h
  have g17 := rf_17 (y := y) (no := no) (off := off) hy hno hoff hM h
  have g18 := rf_18 (y := y) (no := no) (off := off) hy hno hoff hM h
  have g19 := rf_19 (y := y) (no := no) (off := off) hy hno hoff hM h
  have g20 := rf_20 (y := y) (no := no) (off := off) hy hno hoff hM h
  have g21 := rf_21 (y := y) (no := no) (off := off) hy hno hoff hM h
  have g22 := rf_22 (y := y) (no := no) (off := off) hy hno hoff hM h
  have g23 := rf_23 (y := y) (no := no) (off := off) hy hno hoff hM h
  have g24 := rf_24 (y := y) (no := no) (off := off) hy hno hoff hM h
  have g25 := rf_25 (y := y) (no := no) (off := off) hy hno hoff hM h
  have g26 := rf_26 (y := y) (no := no) (off := off) hy hno hoff hM h
  have g27 := rf_27 (y := y) (no := no) (off := off) hy hno hoff hM h
  have g28 := rf_28 (y := y) (no := no) (off := off) hy hno hoff hM h
  have g29 := rf_29 (y := y) (no := no) (off := off) hy hno hoff hM h
  have g30 := rf_30 (y := y) (no := no) (off := off) hy hno hoff hM h
  simp (disch := omega) only [r_L_refuses_33, r_L_refuses_34, r_L_refuses_35, r_L_refuses_36, r_L_refuses_37, r_L_refuses_40, r_L_refuses_42, r_L_refuses_45, r_L_refuses_46, r_L_refuses_47, r_L_refuses_48, r_L_refuses_49, r_L_refuses_50, r_L_refuses_51, r_L_refuses_54, r_L_refuses_56, r_L_refuses_59, r_L_refuses_60, r_L_refuses_61, r_L_refuses_62, r_L_refuses_64, r_L_refuses_65, r_L_refuses_66, r_L_refuses_69, r_L_refuses_71, r_L_refuses_74, r_L_refuses_75, r_L_refuses_76, r_L_refuses_77, r_L_refuses_80, r_L_refuses_82, r_L_refuses_85, r_L_refuses_86, r_L_refuses_87, r_L_refuses_88, r_L_refuses_91, r_L_refuses_93, r_L_refuses_96, r_L_refuses_97, r_L_refuses_98, r_L_refuses_99, r_L_refuses_102, r_L_refuses_104, r_L_refuses_107, r_L_refuses_108, r_L_refuses_109, r_L_refuses_111, r_L_refuses_112, r_L_refuses_113, r_L_refuses_116, r_L_refuses_118, r_L_refuses_121, r_L_refuses_122, r_L_refuses_123, r_L_refuses_124, r_L_refuses_127, r_L_refuses_129, r_L_refuses_132, r_L_refuses_133, r_L_refuses_134, r_L_refuses_136, r_L_refuses_137, r_L_refuses_138, r_L_refuses_141, r_L_refuses_143, r_L_refuses_146, r_L_refuses_147, r_L_refuses_148, r_L_refuses_149, r_L_refuses_152, r_L_refuses_154, r_L_refuses_157, r_L_refuses_158, r_L_refuses_159, r_L_refuses_160, r_L_refuses_161, r_L_refuses_162, r_L_refuses_165, r_L_refuses_167, r_L_refuses_170, r_L_refuses_171, r_L_refuses_172, r_L_refuses_173, r_L_refuses_174, r_L_refuses_177, r_L_refuses_179, r_L_refuses_182, r_L_refuses_183, r_L_refuses_184, r_L_refuses_185, r_L_refuses_187, r_L_refuses_188, r_L_refuses_189, r_L_refuses_192, r_L_refuses_194, r_L_refuses_197, r_L_refuses_198, r_L_refuses_200, r_L_refuses_201, r_L_refuses_202, r_L_refuses_203, r_L_refuses_204, r_L_refuses_205, r_L_refuses_208, r_L_refuses_210, r_L_refuses_213, r_L_refuses_214, r_L_refuses_216, r_L_refuses_217, r_L_refuses_218, r_L_refuses_220, r_L_refuses_223, r_L_refuses_225, r_L_refuses_228, r_L_refuses_229, r_L_refuses_230, r_L_refuses_232, r_L_refuses_233, r_L_refuses_235, r_L_refuses_238, r_L_refuses_240, r_L_refuses_243, r_L_refuses_244, r_L_refuses_245, r_L_refuses_246, r_L_refuses_247, r_L_refuses_248, r_L_refuses_249, r_L_refuses_250, r_L_refuses_253, r_L_refuses_255, r_L_refuses_258, r_L_refuses_259, r_L_refuses_260, r_L_refuses_262, r_L_refuses_265, r_L_refuses_267, r_L_refuses_270, r_L_refuses_271, r_L_refuses_272, r_L_refuses_274, r_L_refuses_275, r_L_refuses_276, r_L_refuses_279, r_L_refuses_281, r_L_refuses_284, r_L_refuses_285, r_L_refuses_286, r_L_refuses_287, r_L_refuses_288, r_L_refuses_289, r_L_refuses_292, r_L_refuses_294, r_L_refuses_297, r_L_refuses_298, r_L_refuses_299, r_L_refuses_300, r_L_refuses_301, r_L_refuses_302, r_L_refuses_305, r_L_refuses_307, r_L_refuses_310, r_L_refuses_311, r_L_refuses_313, r_L_refuses_314, r_L_refuses_315, r_L_refuses_318, r_L_refuses_320, r_L_refuses_323, r_L_refuses_324, r_L_refuses_325, r_L_refuses_326, r_L_refuses_327, r_L_refuses_330, r_L_refuses_332, r_L_refuses_335, r_L_refuses_336, r_L_refuses_337, r_L_refuses_339, r_L_refuses_342, r_L_refuses_344, r_L_refuses_347, r_L_refuses_348, r_L_refuses_349, r_L_refuses_350, r_L_refuses_351, r_L_refuses_352, r_L_refuses_355, r_L_refuses_357, r_L_refuses_360, r_L_refuses_361, r_L_refuses_362, r_L_refuses_363, r_L_refuses_364, r_L_refuses_365, r_L_refuses_368, r_L_refuses_370, r_L_refuses_373, r_L_refuses_374, r_L_refuses_375, r_L_refuses_376, r_L_refuses_377, r_L_refuses_378, r_L_refuses_379, r_L_refuses_380, r_L_refuses_383, r_L_refuses_385, r_L_refuses_388, r_L_refuses_389, r_L_refuses_390, r_L_refuses_393, r_L_refuses_395, r_L_refuses_398, r_L_refuses_399, r_L_refuses_400, r_L_refuses_403, r_L_refuses_405, r_L_refuses_408, r_L_refuses_409, r_L_refuses_411, r_L_refuses_412, r_L_refuses_413, r_L_refuses_416, r_L_refuses_418, r_L_refuses_421, r_L_refuses_422, r_L_refuses_424, r_L_refuses_425, r_L_refuses_426, r_L_refuses_429, r_L_refuses_431, r_L_refuses_434, r_L_refuses_435, ↓glI0, ↓glL0, ↓glF0, ↓glD0, ↓glA0, ↓glI1, ↓glL1, ↓glF1, ↓glD1, ↓glA1, ↓glI2, ↓glL2, ↓glF2, ↓glD2, ↓glA2, ↓glI3, ↓glL3, ↓glF3, ↓glD3, ↓glA3, ↓glI4, ↓glL4, ↓glF4, ↓glD4, ↓glA4, ↓glI5, ↓glL5, ↓glF5, ↓glD5, ↓glA5, ↓glI6, ↓glL6, ↓glF6, ↓glD6, ↓glA6, ↓glI7, ↓glL7, ↓glF7, ↓glD7, ↓glA7, ↓glI8, ↓glL8, ↓glF8, ↓glD8, ↓glA8, ↓glI9, ↓glL9, ↓glF9, ↓glD9, ↓glA9, ↓glI10, ↓glL10, ↓glF10, ↓glD10, ↓glA10, ↓glI11, ↓glL11, ↓glF11, ↓glD11, ↓glA11, ↓glI12, ↓glL12, ↓glF12, ↓glD12, ↓glA12, ↓glI13, ↓glL13, ↓glF13, ↓glD13, ↓glA13, ↓glI14, ↓glL14, ↓glF14, ↓glD14, ↓glA14, ↓glI15, ↓glL15, ↓glF15, ↓glD15, ↓glA15, ↓glI16, ↓glL16, ↓glF16, ↓glD16, ↓glA16, ↓glI17, ↓glL17, ↓glF17, ↓glD17, ↓glA17, ↓glI18, ↓glL18, ↓glF18, ↓glD18, ↓glA18, ↓glI19, ↓glL19, ↓glF19, ↓glD19, ↓glA19, ↓glI20, ↓glL20, ↓glF20, ↓glD20, ↓glA20, ↓glI21, ↓glL21, ↓glF21, ↓glD21, ↓glA21, ↓glI22, ↓glL22, ↓glF22, ↓glD22, ↓glA22, ↓glI23, ↓glL23, ↓glF23, ↓glD23, ↓glA23, ↓glI24, ↓glL24, ↓glF24, ↓glD24, ↓glA24, ↓bs0, ↓bs1, ↓bs2, ↓bs3, ↓bs4, ↓bs5, ↓bs6, ↓bs7, ↓bs8, ↓bs9, ↓bs10, ↓bs11, ↓bs12, ↓bs13, ↓bs14, ↓bs15, ↓bs16, ↓bs17, ↓bs18, ↓bs19, ↓bs20, ↓bs21, ↓bs22, ↓bs23, ↓bs24, ↓bw0, ↓bw1, ↓bw2, ↓bw3, ↓bw4, ↓bw5, ↓bw6, ↓bw7, ↓bw8, ↓bw9, ↓bw10, ↓bw11, ↓bw13, ↓bw14, ↓bw15, ↓bw16, ↓bw17, ↓bw18, ↓bw19, ↓bw20, ↓bw21, ↓bw22, ↓bw23, ↓bw24, lk0, lkI, lkA, lkL, lkD, lkF, gI1, gL1, gF1, gD1, gA1, xw0, xwI, xwA, xwL, xwD, xwF, vtS, vtN, Option.bind_some, true_or, or_true, ↓reduceIte, if_true, if_false, yC_s, yV_s, Nat.reduceAdd, Nat.reduceLeDiff, Nat.zero_le, not_true_eq_false, not_false_eq_true, eq_self, true_and, and_true, nI_add, pk_mul, nI_clamp, pk_sub, pk_div, zmod, zn_m1, zn_leT, zn_leF, zn_ltT, zn_ltF, zn_eqF, zn_in, zn_0le, zn_nlt0, zn_pos, zn_npos, zn_le0F, zn_le0T, zn_0F, zn_0T, nI_0i, zq_lt0, zq_le0, zq_0le, zq_11, bI_eq0c, bI_01c, zm_lt0, zm_0le, zm_ne, zm_ne2, zm_le0, bI_eq0, bI_ne0, zfit_b, zfit_0, zfit_1, z01_0, z01_1, Bool.false_eq_true, Bool.true_eq_false, Nat.zero_add, ztr_lt, Nat.add_zero, Nat.reduceMul, zms_s, zms_n, zms_zms, zso_1_0, zso_2_0, zso_2_1, zso_3_0, zso_3_1, zso_3_2, zso_4_0, zso_4_1, zso_4_2, zso_4_3, zso_5_0, zso_5_1, zso_5_2, zso_5_3, zso_5_4, zso_6_0, zso_6_1, zso_6_2, zso_6_3, zso_6_4, zso_6_5, zso_7_0, zso_7_1, zso_7_2, zso_7_3, zso_7_4, zso_7_5, zso_7_6, zso_8_0, zso_8_1, zso_8_2, zso_8_3, zso_8_4, zso_8_5, zso_8_6, zso_8_7, zcp_s, zcp_n, zcp_zcp, zcp_2, upd_s, upd_n, updL_s, updL_n, zsS_1, zsS_2, zsS_3, zsS_4, zsL_1, zsL_2, zsL_3, zsL_4, bI_01b, yw_X0_placeBehind_1_0, yw_X0_placeBehind_1_1, yw_X0_placeBehind_1_2, yw_X0_placeBehind_1_3, yw_X0_placeBehind_1_4, yw_X1_leading_1_0, yw_X1_leading_1_1, yw_X1_leading_1_2, yw_X1_leading_1_3, yw_X1_leading_1_4, yw_X6_thawingCells_59_0, yw_X6_thawingCells_59_1, yw_X6_thawingCells_59_2, yw_X6_thawingCells_59_3, yw_X6_thawingCells_59_4, yw_X6_stateNumber_1_0, yw_X6_stateNumber_1_1, yw_X6_stateNumber_1_2, yw_X6_stateNumber_1_3, yw_X6_stateNumber_1_4, yw_X6_stateNumber_1_5, yw_X6_stateNumber_1_6, yw_X6_stateNumber_1_7, yw_X6_stateNumber_1_8, yw_X6_stateNumber_1_9, yw_X6_stateNumber_1_10, yw_X6_stateNumber_1_11, yw_X6_cellNumber_1_0, yw_X6_cellNumber_1_1, yw_X6_cellNumber_1_2, yw_X6_cellNumber_1_3, yw_X6_cellNumber_1_4, yw_X6_cellNumber_1_5, yw_X6_skaterNumber_11_0, yw_X6_skaterNumber_11_1, yw_X6_skaterNumber_11_2, yw_X6_skaterNumber_11_3, yw_X6_skaterNumber_11_4, yw_X6_skaterNumber_11_5, yw_X6_skaterNumber_11_6, yw_X6_skaterNumber_11_7, yw_X6_skaterNumber_11_8, yw_X6_ifGlided_77_0, yw_X6_ifGlided_77_1, yw_X6_ifGlided_77_2, yw_X6_ifGlided_77_3, zk_p, zk_s, zk_0, zk_22, zk_66, zk_68, zskr_k, zpor_k, zu_W, zu_Wc, zu_T, zu_Tc, zu_67, zu_69, ↓zb_q_W, ↓zb_q_T, ↓zb_q_K, ↓zb_q_23, ↓zb_q_67, ↓zb_q_69, ↓zb_f_p0, ↓zb_g_p0, ↓zb_f_p1, ↓zb_g_p1, ↓zb_f_p2, ↓zb_g_p2, ↓zb_f_p3, ↓zb_f_p4, ↓zb_f_p5, ↓zb_f_p6, ↓zb_g_p6, ↓zb_f_p7, ↓zb_g_p7, ↓zb_f_p8, ↓zb_g_p8, ↓zb_f_p9, ↓zb_g_p9, ↓zb_f_s0, ↓zb_g_s0, ↓zb_f_s1, ↓zb_g_s1, ↓zb_f_s2, ↓zb_g_s2, ↓zb_f_s3, ↓zb_g_s3, ↓zb_f_s4, ↓zb_g_s4, ↓zb_f_s5, ↓zb_g_s5, ↓zb_f_s6, ↓zb_g_s6, ↓zb_f_c0, ↓zb_f_c1, ↓zb_f_c2, ↓zb_f_c3, ↓zb_f_c4, ↓zb_f_c5, ↓zb_f_c6, ↓zb_g_c6, ↓zb_f_d0, ↓zb_f_d1, ↓zb_g_d1, ↓zb_f_d2, ↓zb_g_d2, ↓zb_f_t0, ↓zb_f_t1, ↓zb_g_t1, ↓zb_f_j0, g0, g1, g2, g3, g4, g5, g6, g7, g8, g9, g10, g11, g12, g13, g14, g15, g16, g17, g18, g19, g20, g21, g22, g23, g24, g25, g26, g27, g28, g29, g30]
  rfl
theorem rf_end {y : Nat} {no off : Option Value} (hM : zok M n 0 kp) (h : zKR C M) : ∃ C' e', xR mL_refuses 439 [some (.ref 0), some (.int (nI y)), no, off, none, none] [.int (nI 1)] (zH C M e) = some (.inl (some (.int (nI 1))), zH C' M e') ∧ zKR C' M ∧ zE e e' 2 := by
  have m0 : zok (zgC M) n 0 kp := ⟨⟨by rw [← hM.1.1]; rfl, rfl, by rw [← hM.1.2.2]; rfl⟩, hM.2.1, by omega, hM.2.2.2⟩
  have m1 : zok (zgA (zgC M) 0 (nI 59)) n 1 kp := ⟨⟨by rw [← hM.1.1]; rfl, rfl, by rw [← hM.1.2.2]; rfl⟩, hM.2.1, by omega, hM.2.2.2⟩
  have z4 : zpn (zgA (zgC M) 0 (nI 59) 4) 1 = 4 := by
    show zpb 0 (upd (M 4) 0 (nI 59) 0) = 4
    rw [upd_s]
    decide
  have z0 : zer (zgA (zgC M) 0 (nI 59) 4) 1 = 0 := zfst_eq (by omega) (decide_eq_true z4) (fun i hi => absurd hi (Nat.not_lt_zero _))
  obtain ⟨C1, e1, q1, h1, E1⟩ := o_clear hM C e h
  obtain ⟨C2, e2, q2, h2, E2⟩ := o_play_e m0 (by show (0 : Nat) ≠ 3; decide) C1 e1 h1
  obtain ⟨C3, e3, q3, h3, E3⟩ := o_append (c := nI 59) m0 (by decide) (by omega) C2 e2 h2
  obtain ⟨C4, e4, q4, h4, E4⟩ := o_firstError m1 C3 e3 h3
  obtain ⟨C5, e5, q5, h5, E5⟩ := o_play_e m1 (by rw [z4]; decide) C4 e4 h4
  obtain ⟨C6, e6, q6, h6, E6⟩ := o_clear m1 C5 e5 h5
  rw [z0] at q4
  have hE := zE_tr (zE_tr (zE_tr (zE_tr (zE_tr E1 E2) E3) E4) E5) E6
  refine ⟨C6, e6, ?_, ?_, zE_le hE (by omega)⟩
  · simp (disch := omega) only [r_L_refuses_439, r_L_refuses_441, r_L_refuses_442, r_L_refuses_445, r_L_refuses_447, r_L_refuses_449, r_L_refuses_452, r_L_refuses_454, r_L_refuses_457, r_L_refuses_458, r_L_refuses_461, r_L_refuses_463, r_L_refuses_466, r_L_refuses_467, r_L_refuses_469, r_L_refuses_472, r_L_refuses_473, r_L_refuses_476, r_L_refuses_477, r_L_refuses_480, r_L_refuses_483, r_L_refuses_484, r_L_refuses_487, r_L_refuses_489, r_L_refuses_492, r_L_refuses_493, r_L_refuses_496, r_L_refuses_497, r_L_refuses_500, r_L_refuses_501, r_L_refuses_504, r_L_refuses_505, ↓glI0, ↓glL0, ↓glF0, ↓glD0, ↓glA0, ↓glI1, ↓glL1, ↓glF1, ↓glD1, ↓glA1, ↓glI2, ↓glL2, ↓glF2, ↓glD2, ↓glA2, ↓glI3, ↓glL3, ↓glF3, ↓glD3, ↓glA3, ↓glI4, ↓glL4, ↓glF4, ↓glD4, ↓glA4, ↓glI5, ↓glL5, ↓glF5, ↓glD5, ↓glA5, ↓glI6, ↓glL6, ↓glF6, ↓glD6, ↓glA6, ↓glI7, ↓glL7, ↓glF7, ↓glD7, ↓glA7, ↓glI8, ↓glL8, ↓glF8, ↓glD8, ↓glA8, ↓glI9, ↓glL9, ↓glF9, ↓glD9, ↓glA9, ↓glI10, ↓glL10, ↓glF10, ↓glD10, ↓glA10, ↓glI11, ↓glL11, ↓glF11, ↓glD11, ↓glA11, ↓glI12, ↓glL12, ↓glF12, ↓glD12, ↓glA12, ↓glI13, ↓glL13, ↓glF13, ↓glD13, ↓glA13, ↓glI14, ↓glL14, ↓glF14, ↓glD14, ↓glA14, ↓glI15, ↓glL15, ↓glF15, ↓glD15, ↓glA15, ↓glI16, ↓glL16, ↓glF16, ↓glD16, ↓glA16, ↓glI17, ↓glL17, ↓glF17, ↓glD17, ↓glA17, ↓glI18, ↓glL18, ↓glF18, ↓glD18, ↓glA18, ↓glI19, ↓glL19, ↓glF19, ↓glD19, ↓glA19, ↓glI20, ↓glL20, ↓glF20, ↓glD20, ↓glA20, ↓glI21, ↓glL21, ↓glF21, ↓glD21, ↓glA21, ↓glI22, ↓glL22, ↓glF22, ↓glD22, ↓glA22, ↓glI23, ↓glL23, ↓glF23, ↓glD23, ↓glA23, ↓glI24, ↓glL24, ↓glF24, ↓glD24, ↓glA24, ↓bs0, ↓bs1, ↓bs2, ↓bs3, ↓bs4, ↓bs5, ↓bs6, ↓bs7, ↓bs8, ↓bs9, ↓bs10, ↓bs11, ↓bs12, ↓bs13, ↓bs14, ↓bs15, ↓bs16, ↓bs17, ↓bs18, ↓bs19, ↓bs20, ↓bs21, ↓bs22, ↓bs23, ↓bs24, ↓bw0, ↓bw1, ↓bw2, ↓bw3, ↓bw4, ↓bw5, ↓bw6, ↓bw7, ↓bw8, ↓bw9, ↓bw10, ↓bw11, ↓bw13, ↓bw14, ↓bw15, ↓bw16, ↓bw17, ↓bw18, ↓bw19, ↓bw20, ↓bw21, ↓bw22, ↓bw23, ↓bw24, lk0, lkI, lkA, lkL, lkD, lkF, gI1, gL1, gF1, gD1, gA1, xw0, xwI, xwA, xwL, xwD, xwF, vtS, vtN, Option.bind_some, true_or, or_true, ↓reduceIte, if_true, if_false, yC_s, yV_s, Nat.reduceAdd, Nat.reduceLeDiff, Nat.zero_le, not_true_eq_false, not_false_eq_true, eq_self, true_and, and_true, nI_add, pk_mul, nI_clamp, pk_sub, pk_div, zmod, zn_m1, zn_leT, zn_leF, zn_ltT, zn_ltF, zn_eqF, zn_in, zn_0le, zn_nlt0, zn_pos, zn_npos, zn_le0F, zn_le0T, zn_0F, zn_0T, nI_0i, zq_lt0, zq_le0, zq_0le, zq_11, bI_eq0c, bI_01c, zm_lt0, zm_0le, zm_ne, zm_ne2, zm_le0, bI_eq0, bI_ne0, zfit_b, zfit_0, zfit_1, z01_0, z01_1, Bool.false_eq_true, Bool.true_eq_false, Nat.zero_add, ztr_lt, Nat.add_zero, Nat.reduceMul, zms_s, zms_n, zms_zms, zso_1_0, zso_2_0, zso_2_1, zso_3_0, zso_3_1, zso_3_2, zso_4_0, zso_4_1, zso_4_2, zso_4_3, zso_5_0, zso_5_1, zso_5_2, zso_5_3, zso_5_4, zso_6_0, zso_6_1, zso_6_2, zso_6_3, zso_6_4, zso_6_5, zso_7_0, zso_7_1, zso_7_2, zso_7_3, zso_7_4, zso_7_5, zso_7_6, zso_8_0, zso_8_1, zso_8_2, zso_8_3, zso_8_4, zso_8_5, zso_8_6, zso_8_7, zcp_s, zcp_n, zcp_zcp, zcp_2, upd_s, upd_n, updL_s, updL_n, zsS_1, zsS_2, zsS_3, zsS_4, zsL_1, zsL_2, zsL_3, zsL_4, bI_01b, yw_X0_placeBehind_1_0, yw_X0_placeBehind_1_1, yw_X0_placeBehind_1_2, yw_X0_placeBehind_1_3, yw_X0_placeBehind_1_4, yw_X1_leading_1_0, yw_X1_leading_1_1, yw_X1_leading_1_2, yw_X1_leading_1_3, yw_X1_leading_1_4, yw_X6_thawingCells_59_0, yw_X6_thawingCells_59_1, yw_X6_thawingCells_59_2, yw_X6_thawingCells_59_3, yw_X6_thawingCells_59_4, yw_X6_stateNumber_1_0, yw_X6_stateNumber_1_1, yw_X6_stateNumber_1_2, yw_X6_stateNumber_1_3, yw_X6_stateNumber_1_4, yw_X6_stateNumber_1_5, yw_X6_stateNumber_1_6, yw_X6_stateNumber_1_7, yw_X6_stateNumber_1_8, yw_X6_stateNumber_1_9, yw_X6_stateNumber_1_10, yw_X6_stateNumber_1_11, yw_X6_cellNumber_1_0, yw_X6_cellNumber_1_1, yw_X6_cellNumber_1_2, yw_X6_cellNumber_1_3, yw_X6_cellNumber_1_4, yw_X6_cellNumber_1_5, yw_X6_skaterNumber_11_0, yw_X6_skaterNumber_11_1, yw_X6_skaterNumber_11_2, yw_X6_skaterNumber_11_3, yw_X6_skaterNumber_11_4, yw_X6_skaterNumber_11_5, yw_X6_skaterNumber_11_6, yw_X6_skaterNumber_11_7, yw_X6_skaterNumber_11_8, yw_X6_ifGlided_77_0, yw_X6_ifGlided_77_1, yw_X6_ifGlided_77_2, yw_X6_ifGlided_77_3, zk_p, zk_s, zk_0, zk_22, zk_66, zk_68, zskr_k, zpor_k, zu_W, zu_Wc, zu_T, zu_Tc, zu_67, zu_69, ↓zb_q_W, ↓zb_q_T, ↓zb_q_K, ↓zb_q_23, ↓zb_q_67, ↓zb_q_69, ↓zb_f_p0, ↓zb_g_p0, ↓zb_f_p1, ↓zb_g_p1, ↓zb_f_p2, ↓zb_g_p2, ↓zb_f_p3, ↓zb_f_p4, ↓zb_f_p5, ↓zb_f_p6, ↓zb_g_p6, ↓zb_f_p7, ↓zb_g_p7, ↓zb_f_p8, ↓zb_g_p8, ↓zb_f_p9, ↓zb_g_p9, ↓zb_f_s0, ↓zb_g_s0, ↓zb_f_s1, ↓zb_g_s1, ↓zb_f_s2, ↓zb_g_s2, ↓zb_f_s3, ↓zb_g_s3, ↓zb_f_s4, ↓zb_g_s4, ↓zb_f_s5, ↓zb_g_s5, ↓zb_f_s6, ↓zb_g_s6, ↓zb_f_c0, ↓zb_f_c1, ↓zb_f_c2, ↓zb_f_c3, ↓zb_f_c4, ↓zb_f_c5, ↓zb_f_c6, ↓zb_g_c6, ↓zb_f_d0, ↓zb_f_d1, ↓zb_g_d1, ↓zb_f_d2, ↓zb_g_d2, ↓zb_f_t0, ↓zb_f_t1, ↓zb_g_t1, ↓zb_f_j0, zk_0, q1, q2, q3, q4, q5, q6]
    rfl
  · obtain ⟨o, h6⟩ := zKR_at (n := n) (l := 0) (kp := kp) ⟨⟨by rw [← hM.1.1]; rfl, rfl, by rw [← hM.1.2.2]; rfl⟩, hM.2.1, by omega, hM.2.2.2⟩ h6
    refine ⟨o, n, 0, kp, zKr_txt h6 rfl rfl rfl (fun j hj => ?_)⟩
    have : j = 0 ∨ j = 1 ∨ j = 2 := by omega
    rcases this with rfl | rfl | rfl
    · rfl
    · rfl
    · exact hM.1.2.1
theorem rf_refuses {y : Nat} (hy : y < 100000) (hM : zok M n 0 kp) : zC mL_refuses [.int (nI y)] 40 M (.int (nI 1)) M := by
  intro C e h
  have key : ∀ no off : Int32, zrI no 0 2 = false → zrI off 0 7 = false → xC1 mL_refuses [.ref 0, .int (nI y)] (zH C M e) = xR mL_refuses 33 [some (.ref 0), some (.int (nI y)), some (.int no), some (.int off), none, none] [] (zH C M e) → ∃ C' e', xC1 mL_refuses [.ref 0, .int (nI y)] (zH C M e) = some (.inl (some (.int (nI 1))), zH C' M e') ∧ zKR C' M ∧ zE e e' 40 := by
    intro no off hno hoff hq
    rw [hq, rf_all hy hno hoff hM h e]
    obtain ⟨C', e', q1, q2, q3⟩ := rf_end (y := y) (no := some (.int no)) (off := some (.int off)) (e := zegn 31 e) hM h
    exact ⟨C', e', q1, q2, zE_le (zE_tr (zegn_E 31 e) q3) (by omega)⟩
  have hng := zlt0 (y := y) (by omega)
  by_cases h2 : y % 2 = 0
  · refine key (nI (3 + y)) (nI (8 + y)) (zrI_big (by omega) (by omega)) (zrI_big (by omega) (by omega)) ?_
    have h2' : (nI (y % 2) : Int32) = nI 0 := by rw [h2]
    simp (disch := omega) only [e_L_refuses, r_L_refuses_0, r_L_refuses_1, r_L_refuses_2, r_L_refuses_3, r_L_refuses_6, r_L_refuses_7, r_L_refuses_8, r_L_refuses_9, r_L_refuses_12, r_L_refuses_13, r_L_refuses_14, r_L_refuses_15, r_L_refuses_16, r_L_refuses_17, r_L_refuses_18, r_L_refuses_19, r_L_refuses_22, r_L_refuses_24, r_L_refuses_25, r_L_refuses_26, r_L_refuses_29, r_L_refuses_30, r_L_refuses_31, r_L_refuses_32, ↓glI0, ↓glL0, ↓glF0, ↓glD0, ↓glA0, ↓glI1, ↓glL1, ↓glF1, ↓glD1, ↓glA1, ↓glI2, ↓glL2, ↓glF2, ↓glD2, ↓glA2, ↓glI3, ↓glL3, ↓glF3, ↓glD3, ↓glA3, ↓glI4, ↓glL4, ↓glF4, ↓glD4, ↓glA4, ↓glI5, ↓glL5, ↓glF5, ↓glD5, ↓glA5, ↓glI6, ↓glL6, ↓glF6, ↓glD6, ↓glA6, ↓glI7, ↓glL7, ↓glF7, ↓glD7, ↓glA7, ↓glI8, ↓glL8, ↓glF8, ↓glD8, ↓glA8, ↓glI9, ↓glL9, ↓glF9, ↓glD9, ↓glA9, ↓glI10, ↓glL10, ↓glF10, ↓glD10, ↓glA10, ↓glI11, ↓glL11, ↓glF11, ↓glD11, ↓glA11, ↓glI12, ↓glL12, ↓glF12, ↓glD12, ↓glA12, ↓glI13, ↓glL13, ↓glF13, ↓glD13, ↓glA13, ↓glI14, ↓glL14, ↓glF14, ↓glD14, ↓glA14, ↓glI15, ↓glL15, ↓glF15, ↓glD15, ↓glA15, ↓glI16, ↓glL16, ↓glF16, ↓glD16, ↓glA16, ↓glI17, ↓glL17, ↓glF17, ↓glD17, ↓glA17, ↓glI18, ↓glL18, ↓glF18, ↓glD18, ↓glA18, ↓glI19, ↓glL19, ↓glF19, ↓glD19, ↓glA19, ↓glI20, ↓glL20, ↓glF20, ↓glD20, ↓glA20, ↓glI21, ↓glL21, ↓glF21, ↓glD21, ↓glA21, ↓glI22, ↓glL22, ↓glF22, ↓glD22, ↓glA22, ↓glI23, ↓glL23, ↓glF23, ↓glD23, ↓glA23, ↓glI24, ↓glL24, ↓glF24, ↓glD24, ↓glA24, ↓bs0, ↓bs1, ↓bs2, ↓bs3, ↓bs4, ↓bs5, ↓bs6, ↓bs7, ↓bs8, ↓bs9, ↓bs10, ↓bs11, ↓bs12, ↓bs13, ↓bs14, ↓bs15, ↓bs16, ↓bs17, ↓bs18, ↓bs19, ↓bs20, ↓bs21, ↓bs22, ↓bs23, ↓bs24, ↓bw0, ↓bw1, ↓bw2, ↓bw3, ↓bw4, ↓bw5, ↓bw6, ↓bw7, ↓bw8, ↓bw9, ↓bw10, ↓bw11, ↓bw13, ↓bw14, ↓bw15, ↓bw16, ↓bw17, ↓bw18, ↓bw19, ↓bw20, ↓bw21, ↓bw22, ↓bw23, ↓bw24, lk0, lkI, lkA, lkL, lkD, lkF, gI1, gL1, gF1, gD1, gA1, xw0, xwI, xwA, xwL, xwD, xwF, vtS, vtN, Option.bind_some, true_or, or_true, ↓reduceIte, if_true, if_false, yC_s, yV_s, Nat.reduceAdd, Nat.reduceLeDiff, Nat.zero_le, not_true_eq_false, not_false_eq_true, eq_self, true_and, and_true, nI_add, pk_mul, nI_clamp, pk_sub, pk_div, zmod, zn_m1, zn_leT, zn_leF, zn_ltT, zn_ltF, zn_eqF, zn_in, zn_0le, zn_nlt0, zn_pos, zn_npos, zn_le0F, zn_le0T, zn_0F, zn_0T, nI_0i, zq_lt0, zq_le0, zq_0le, zq_11, bI_eq0c, bI_01c, zm_lt0, zm_0le, zm_ne, zm_ne2, zm_le0, bI_eq0, bI_ne0, zfit_b, zfit_0, zfit_1, z01_0, z01_1, Bool.false_eq_true, Bool.true_eq_false, Nat.zero_add, ztr_lt, Nat.add_zero, Nat.reduceMul, zms_s, zms_n, zms_zms, zso_1_0, zso_2_0, zso_2_1, zso_3_0, zso_3_1, zso_3_2, zso_4_0, zso_4_1, zso_4_2, zso_4_3, zso_5_0, zso_5_1, zso_5_2, zso_5_3, zso_5_4, zso_6_0, zso_6_1, zso_6_2, zso_6_3, zso_6_4, zso_6_5, zso_7_0, zso_7_1, zso_7_2, zso_7_3, zso_7_4, zso_7_5, zso_7_6, zso_8_0, zso_8_1, zso_8_2, zso_8_3, zso_8_4, zso_8_5, zso_8_6, zso_8_7, zcp_s, zcp_n, zcp_zcp, zcp_2, upd_s, upd_n, updL_s, updL_n, zsS_1, zsS_2, zsS_3, zsS_4, zsL_1, zsL_2, zsL_3, zsL_4, bI_01b, yw_X0_placeBehind_1_0, yw_X0_placeBehind_1_1, yw_X0_placeBehind_1_2, yw_X0_placeBehind_1_3, yw_X0_placeBehind_1_4, yw_X1_leading_1_0, yw_X1_leading_1_1, yw_X1_leading_1_2, yw_X1_leading_1_3, yw_X1_leading_1_4, yw_X6_thawingCells_59_0, yw_X6_thawingCells_59_1, yw_X6_thawingCells_59_2, yw_X6_thawingCells_59_3, yw_X6_thawingCells_59_4, yw_X6_stateNumber_1_0, yw_X6_stateNumber_1_1, yw_X6_stateNumber_1_2, yw_X6_stateNumber_1_3, yw_X6_stateNumber_1_4, yw_X6_stateNumber_1_5, yw_X6_stateNumber_1_6, yw_X6_stateNumber_1_7, yw_X6_stateNumber_1_8, yw_X6_stateNumber_1_9, yw_X6_stateNumber_1_10, yw_X6_stateNumber_1_11, yw_X6_cellNumber_1_0, yw_X6_cellNumber_1_1, yw_X6_cellNumber_1_2, yw_X6_cellNumber_1_3, yw_X6_cellNumber_1_4, yw_X6_cellNumber_1_5, yw_X6_skaterNumber_11_0, yw_X6_skaterNumber_11_1, yw_X6_skaterNumber_11_2, yw_X6_skaterNumber_11_3, yw_X6_skaterNumber_11_4, yw_X6_skaterNumber_11_5, yw_X6_skaterNumber_11_6, yw_X6_skaterNumber_11_7, yw_X6_skaterNumber_11_8, yw_X6_ifGlided_77_0, yw_X6_ifGlided_77_1, yw_X6_ifGlided_77_2, yw_X6_ifGlided_77_3, zk_p, zk_s, zk_0, zk_22, zk_66, zk_68, zskr_k, zpor_k, zu_W, zu_Wc, zu_T, zu_Tc, zu_67, zu_69, ↓zb_q_W, ↓zb_q_T, ↓zb_q_K, ↓zb_q_23, ↓zb_q_67, ↓zb_q_69, ↓zb_f_p0, ↓zb_g_p0, ↓zb_f_p1, ↓zb_g_p1, ↓zb_f_p2, ↓zb_g_p2, ↓zb_f_p3, ↓zb_f_p4, ↓zb_f_p5, ↓zb_f_p6, ↓zb_g_p6, ↓zb_f_p7, ↓zb_g_p7, ↓zb_f_p8, ↓zb_g_p8, ↓zb_f_p9, ↓zb_g_p9, ↓zb_f_s0, ↓zb_g_s0, ↓zb_f_s1, ↓zb_g_s1, ↓zb_f_s2, ↓zb_g_s2, ↓zb_f_s3, ↓zb_g_s3, ↓zb_f_s4, ↓zb_g_s4, ↓zb_f_s5, ↓zb_g_s5, ↓zb_f_s6, ↓zb_g_s6, ↓zb_f_c0, ↓zb_f_c1, ↓zb_f_c2, ↓zb_f_c3, ↓zb_f_c4, ↓zb_f_c5, ↓zb_f_c6, ↓zb_g_c6, ↓zb_f_d0, ↓zb_f_d1, ↓zb_g_d1, ↓zb_f_d2, ↓zb_g_d2, ↓zb_f_t0, ↓zb_f_t1, ↓zb_g_t1, ↓zb_f_j0, h2, h2']
  · refine key (-1 - nI y) (-1 - nI y) (zrI_neg (by omega) hng) (zrI_neg (by omega) hng) ?_
    have h2' : y % 2 = 1 := by omega
    simp (disch := omega) only [e_L_refuses, r_L_refuses_0, r_L_refuses_1, r_L_refuses_2, r_L_refuses_3, r_L_refuses_6, r_L_refuses_7, r_L_refuses_8, r_L_refuses_9, r_L_refuses_12, r_L_refuses_13, r_L_refuses_14, r_L_refuses_15, r_L_refuses_16, r_L_refuses_17, r_L_refuses_18, r_L_refuses_19, r_L_refuses_22, r_L_refuses_24, r_L_refuses_25, r_L_refuses_26, r_L_refuses_29, r_L_refuses_30, r_L_refuses_31, r_L_refuses_32, ↓glI0, ↓glL0, ↓glF0, ↓glD0, ↓glA0, ↓glI1, ↓glL1, ↓glF1, ↓glD1, ↓glA1, ↓glI2, ↓glL2, ↓glF2, ↓glD2, ↓glA2, ↓glI3, ↓glL3, ↓glF3, ↓glD3, ↓glA3, ↓glI4, ↓glL4, ↓glF4, ↓glD4, ↓glA4, ↓glI5, ↓glL5, ↓glF5, ↓glD5, ↓glA5, ↓glI6, ↓glL6, ↓glF6, ↓glD6, ↓glA6, ↓glI7, ↓glL7, ↓glF7, ↓glD7, ↓glA7, ↓glI8, ↓glL8, ↓glF8, ↓glD8, ↓glA8, ↓glI9, ↓glL9, ↓glF9, ↓glD9, ↓glA9, ↓glI10, ↓glL10, ↓glF10, ↓glD10, ↓glA10, ↓glI11, ↓glL11, ↓glF11, ↓glD11, ↓glA11, ↓glI12, ↓glL12, ↓glF12, ↓glD12, ↓glA12, ↓glI13, ↓glL13, ↓glF13, ↓glD13, ↓glA13, ↓glI14, ↓glL14, ↓glF14, ↓glD14, ↓glA14, ↓glI15, ↓glL15, ↓glF15, ↓glD15, ↓glA15, ↓glI16, ↓glL16, ↓glF16, ↓glD16, ↓glA16, ↓glI17, ↓glL17, ↓glF17, ↓glD17, ↓glA17, ↓glI18, ↓glL18, ↓glF18, ↓glD18, ↓glA18, ↓glI19, ↓glL19, ↓glF19, ↓glD19, ↓glA19, ↓glI20, ↓glL20, ↓glF20, ↓glD20, ↓glA20, ↓glI21, ↓glL21, ↓glF21, ↓glD21, ↓glA21, ↓glI22, ↓glL22, ↓glF22, ↓glD22, ↓glA22, ↓glI23, ↓glL23, ↓glF23, ↓glD23, ↓glA23, ↓glI24, ↓glL24, ↓glF24, ↓glD24, ↓glA24, ↓bs0, ↓bs1, ↓bs2, ↓bs3, ↓bs4, ↓bs5, ↓bs6, ↓bs7, ↓bs8, ↓bs9, ↓bs10, ↓bs11, ↓bs12, ↓bs13, ↓bs14, ↓bs15, ↓bs16, ↓bs17, ↓bs18, ↓bs19, ↓bs20, ↓bs21, ↓bs22, ↓bs23, ↓bs24, ↓bw0, ↓bw1, ↓bw2, ↓bw3, ↓bw4, ↓bw5, ↓bw6, ↓bw7, ↓bw8, ↓bw9, ↓bw10, ↓bw11, ↓bw13, ↓bw14, ↓bw15, ↓bw16, ↓bw17, ↓bw18, ↓bw19, ↓bw20, ↓bw21, ↓bw22, ↓bw23, ↓bw24, lk0, lkI, lkA, lkL, lkD, lkF, gI1, gL1, gF1, gD1, gA1, xw0, xwI, xwA, xwL, xwD, xwF, vtS, vtN, Option.bind_some, true_or, or_true, ↓reduceIte, if_true, if_false, yC_s, yV_s, Nat.reduceAdd, Nat.reduceLeDiff, Nat.zero_le, not_true_eq_false, not_false_eq_true, eq_self, true_and, and_true, nI_add, pk_mul, nI_clamp, pk_sub, pk_div, zmod, zn_m1, zn_leT, zn_leF, zn_ltT, zn_ltF, zn_eqF, zn_in, zn_0le, zn_nlt0, zn_pos, zn_npos, zn_le0F, zn_le0T, zn_0F, zn_0T, nI_0i, zq_lt0, zq_le0, zq_0le, zq_11, bI_eq0c, bI_01c, zm_lt0, zm_0le, zm_ne, zm_ne2, zm_le0, bI_eq0, bI_ne0, zfit_b, zfit_0, zfit_1, z01_0, z01_1, Bool.false_eq_true, Bool.true_eq_false, Nat.zero_add, ztr_lt, Nat.add_zero, Nat.reduceMul, zms_s, zms_n, zms_zms, zso_1_0, zso_2_0, zso_2_1, zso_3_0, zso_3_1, zso_3_2, zso_4_0, zso_4_1, zso_4_2, zso_4_3, zso_5_0, zso_5_1, zso_5_2, zso_5_3, zso_5_4, zso_6_0, zso_6_1, zso_6_2, zso_6_3, zso_6_4, zso_6_5, zso_7_0, zso_7_1, zso_7_2, zso_7_3, zso_7_4, zso_7_5, zso_7_6, zso_8_0, zso_8_1, zso_8_2, zso_8_3, zso_8_4, zso_8_5, zso_8_6, zso_8_7, zcp_s, zcp_n, zcp_zcp, zcp_2, upd_s, upd_n, updL_s, updL_n, zsS_1, zsS_2, zsS_3, zsS_4, zsL_1, zsL_2, zsL_3, zsL_4, bI_01b, yw_X0_placeBehind_1_0, yw_X0_placeBehind_1_1, yw_X0_placeBehind_1_2, yw_X0_placeBehind_1_3, yw_X0_placeBehind_1_4, yw_X1_leading_1_0, yw_X1_leading_1_1, yw_X1_leading_1_2, yw_X1_leading_1_3, yw_X1_leading_1_4, yw_X6_thawingCells_59_0, yw_X6_thawingCells_59_1, yw_X6_thawingCells_59_2, yw_X6_thawingCells_59_3, yw_X6_thawingCells_59_4, yw_X6_stateNumber_1_0, yw_X6_stateNumber_1_1, yw_X6_stateNumber_1_2, yw_X6_stateNumber_1_3, yw_X6_stateNumber_1_4, yw_X6_stateNumber_1_5, yw_X6_stateNumber_1_6, yw_X6_stateNumber_1_7, yw_X6_stateNumber_1_8, yw_X6_stateNumber_1_9, yw_X6_stateNumber_1_10, yw_X6_stateNumber_1_11, yw_X6_cellNumber_1_0, yw_X6_cellNumber_1_1, yw_X6_cellNumber_1_2, yw_X6_cellNumber_1_3, yw_X6_cellNumber_1_4, yw_X6_cellNumber_1_5, yw_X6_skaterNumber_11_0, yw_X6_skaterNumber_11_1, yw_X6_skaterNumber_11_2, yw_X6_skaterNumber_11_3, yw_X6_skaterNumber_11_4, yw_X6_skaterNumber_11_5, yw_X6_skaterNumber_11_6, yw_X6_skaterNumber_11_7, yw_X6_skaterNumber_11_8, yw_X6_ifGlided_77_0, yw_X6_ifGlided_77_1, yw_X6_ifGlided_77_2, yw_X6_ifGlided_77_3, zk_p, zk_s, zk_0, zk_22, zk_66, zk_68, zskr_k, zpor_k, zu_W, zu_Wc, zu_T, zu_Tc, zu_67, zu_69, ↓zb_q_W, ↓zb_q_T, ↓zb_q_K, ↓zb_q_23, ↓zb_q_67, ↓zb_q_69, ↓zb_f_p0, ↓zb_g_p0, ↓zb_f_p1, ↓zb_g_p1, ↓zb_f_p2, ↓zb_g_p2, ↓zb_f_p3, ↓zb_f_p4, ↓zb_f_p5, ↓zb_f_p6, ↓zb_g_p6, ↓zb_f_p7, ↓zb_g_p7, ↓zb_f_p8, ↓zb_g_p8, ↓zb_f_p9, ↓zb_g_p9, ↓zb_f_s0, ↓zb_g_s0, ↓zb_f_s1, ↓zb_g_s1, ↓zb_f_s2, ↓zb_g_s2, ↓zb_f_s3, ↓zb_g_s3, ↓zb_f_s4, ↓zb_g_s4, ↓zb_f_s5, ↓zb_g_s5, ↓zb_f_s6, ↓zb_g_s6, ↓zb_f_c0, ↓zb_f_c1, ↓zb_f_c2, ↓zb_f_c3, ↓zb_f_c4, ↓zb_f_c5, ↓zb_f_c6, ↓zb_g_c6, ↓zb_f_d0, ↓zb_f_d1, ↓zb_g_d1, ↓zb_f_d2, ↓zb_g_d2, ↓zb_f_t0, ↓zb_f_t1, ↓zb_g_t1, ↓zb_f_j0, h2']
end Z10A
