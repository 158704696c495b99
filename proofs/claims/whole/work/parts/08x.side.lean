/-! ===== every operation: class and model side by side ===== -/
/-- the class and the model hold the same state -/
def zKR (C : ZC) (M : ZM) : Prop := ∃ o n l kp, zKr C M o n l kp
/-- an operation that may throw: the same answer, or a throw whose pair (class, number of the model) stands in the list -/
def zKs (mc mm : Nat) (a : List Value) (tab : List (Nat × Nat)) (C : ZC) (M : ZM) (e : ZE) : Prop :=
  (∃ v C', xC1 mc (.ref 0 :: a) (zH C M e) = some (.inl (some (.int v)), zH C' M e) ∧ ∀ e', ∃ M', xC1 mm (.ref 70 :: a) (zH C' M e') = some (.inl (some (.int v)), zH C' M' e') ∧ zKR C' M' ∧ M' 8 3 = nI 0) ∨
  (∃ x t v M', xC1 mc (.ref 0 :: a) (zH C M e) = some (.inr x, zH C M (zeg e)) ∧ (∀ e', xC1 mm (.ref 70 :: a) (zH C M e') = some (.inl (some (.int v)), zH C M' e')) ∧ zKR C M' ∧ M' 8 3 = nI t ∧ (x, t) ∈ tab)
/-- an operation that doesn't throw -/
def zKu {α : Type} (mc mm : Nat) (W : α → Value) (C : ZC) (M : ZM) (e : ZE) : Prop := ∃ v C', xC1 mc [.ref 0] (zH C M e) = some (.inl (some (W v)), zH C' M e) ∧ ∀ e', ∃ M', xC1 mm [.ref 70] (zH C' M e') = some (.inl (some (W v)), zH C' M' e') ∧ zKR C' M'
section Z8X
variable {C C' : ZC} {M M' : ZM} {e : ZE} {mc mm o n l kp o' n' l' kp' : Nat} {a : List Value} {tab : List (Nat × Nat)} {v : Int32}
theorem zKs_o (h1 : xC1 mc (.ref 0 :: a) (zH C M e) = some (.inl (some (.int v)), zH C' M e)) (h2 : ∀ e', ∃ M', xC1 mm (.ref 70 :: a) (zH C' M e') = some (.inl (some (.int v)), zH C' M' e') ∧ zKr C' M' o' n' l' kp' ∧ M' 8 3 = nI 0) : zKs mc mm a tab C M e :=
  Or.inl ⟨v, C', h1, fun e' => by
    obtain ⟨M', q1, q2, q3⟩ := h2 e'
    exact ⟨M', q1, ⟨_, _, _, _, q2⟩, q3⟩⟩
theorem zKs_l (h : zKr C M o n l kp) (h1 : xC1 mc (.ref 0 :: a) (zH C M e) = some (.inl (some (.int v)), zH C' M e)) (c1 : ∀ j, j ≠ 1 → C'.1 j = C.1 j) (c2 : C'.2.1 = C.2.1) (c3 : C'.2.2.2 = C.2.2.2) (h2 : ∀ e', ∃ M', xC1 mm (.ref 70 :: a) (zH C' M e') = some (.inl (some (.int v)), zH C' M' e') ∧ zJ M M' 0) : zKs mc mm a tab C M e :=
  zKs_o h1 (fun e' => by
    obtain ⟨M', q1, q2⟩ := h2 e'
    exact ⟨M', q1, zKr_C (zKr_J h q2) c1 c2 c3, by rw [q2.2.2.2.2, upd_s]⟩)
theorem zKs_x {x t : Nat} (h : zKr C M o n l kp) (h1 : xC1 mc (.ref 0 :: a) (zH C M e) = some (.inr x, zH C M (zeg e))) (h2 : ∀ e', xC1 mm (.ref 70 :: a) (zH C M e') = some (.inl (some (.int (nI 0))), zH C (zT0 M t) e')) (hm : (x, t) ∈ tab) : zKs mc mm a tab C M e :=
  Or.inr ⟨x, t, nI 0, zT0 M t, h1, h2, ⟨_, _, _, _, zKr_T t h⟩, (by unfold zT0; rw [zms_s, upd_s]), hm⟩
theorem zt_12 {t : Nat} (h : t ≠ 0) (h2 : t ≤ 2) : (t - 1, t) ∈ [(0, 1), (1, 2)] := by
  have : t = 1 ∨ t = 2 := by omega
  rcases this with rfl | rfl <;> decide
theorem s_glide {x y z : Int32} (h : zKR C M) : zKs mX6_glide mX7_glide [.int x, .int y, .int z] [(0, 1), (1, 2)] C M e := by
  obtain ⟨o, n, l, kp, h⟩ := h
  by_cases hv : vt_gl x y z = 0
  · have h0 : zrI x 0 2 = true ∧ zrI y 0 3 = true ∧ zrI z 1 8 = true := by
      unfold vt_gl at hv
      split at hv
      · next g => split at hv
                  · next g2 => exact ⟨g, g2⟩
                  · cases hv
      · cases hv
    obtain ⟨k, -, k2, rfl⟩ := zrI_t h0.1 (by omega) (by omega)
    obtain ⟨d, -, d2, rfl⟩ := zrI_t h0.2.1 (by omega) (by omega)
    obtain ⟨t, t1, t2, rfl⟩ := zrI_t h0.2.2 (by omega) (by omega)
    obtain ⟨C', q1, q2⟩ := k_glide_o (e := e) h (k := k) (d := d) (t := t) (by omega) (by omega) t1 t2
    exact zKs_o q1 q2
  · exact zKs_x h (k_glide_e hv) (fun e' => m_glide_e hv) (zt_12 hv (by unfold vt_gl; (repeat' split) <;> omega))
theorem s_hole {x y : Int32} (h : zKR C M) : zKs mX6_hole mX7_hole [.int x, .int y] [(0, 1), (2, 2)] C M e := by
  obtain ⟨o, n, l, kp, h⟩ := h
  by_cases hv : vt_ho (M 0) x y = 0
  · have h0 : zin x y = true ∧ zic (M 0) (nI 8 * y + x).toNatClampNeg = true := by
      unfold vt_ho at hv
      split at hv
      · next g => split at hv
                  · next g2 => exact ⟨g, g2⟩
                  · cases hv
      · cases hv
    obtain ⟨i, j, i1, j1, rfl, rfl⟩ := zin_t h0.1
    have hc := h0.2
    rw [pk_mul, nI_add, nI_clamp (by omega)] at hc
    obtain ⟨C', q1, q2⟩ := k_hole_o (e := e) h i1 j1 hc
    exact zKs_o q1 q2
  · have h1 := k_hole_e (M := M) (e := e) h.2.2.2.1.1 hv
    have hle : vt_ho (M 0) x y ≤ 2 := by unfold vt_ho; (repeat' split) <;> omega
    refine zKs_x h h1 (fun e' => m_hole_e hv) ?_
    generalize vt_ho (M 0) x y = t at *
    have : t = 1 ∨ t = 2 := by omega
    rcases this with rfl | rfl <;> decide
theorem s_pay {x c : Int32} (h : zKR C M) : zKs mX6_pay mX7_pay [.int x, .int c] [(0, 1), (1, 2), (2, 3)] C M e := by
  obtain ⟨o, n, l, kp, h⟩ := h
  by_cases hv : vt_pa (M 0) x c = 0
  · have h0 : zrI x 0 2 = true ∧ zrI c 1 99 = true ∧ ¬ nI 9999 < M 0 440 + c := by
      unfold vt_pa at hv
      split at hv
      · next g => split at hv
                  · next g2 => split at hv
                               · cases hv
                               · next g3 => exact ⟨g, g2, g3⟩
                  · cases hv
      · cases hv
    obtain ⟨k, -, k2, rfl⟩ := zrI_t h0.1 (by omega) (by omega)
    obtain ⟨j, j1, j2, rfl⟩ := zrI_t h0.2.1 (by omega) (by omega)
    obtain ⟨C', q1, q2⟩ := k_pay_o (e := e) h (k := k) (j := j) (by omega) j1 j2 h0.2.2
    exact zKs_o q1 q2
  · have h1 := k_pay_e (M := M) (e := e) h.2.2.2.1.1 hv
    have hle : vt_pa (M 0) x c ≤ 3 := by unfold vt_pa; (repeat' split) <;> omega
    refine zKs_x h h1 (fun e' => m_pay_e hv) ?_
    generalize vt_pa (M 0) x c = t at *
    have : t = 1 ∨ t = 2 ∨ t = 3 := by omega
    rcases this with rfl | rfl | rfl <;> decide
theorem s_set {x w : Int32} (h : zKR C M) : zKs mX6_set mX7_set [.int x, .int w] [(0, 1), (1, 2)] C M e := by
  obtain ⟨o, n, l, kp, h⟩ := h
  by_cases hv : vt_se x w = 0
  · have h0 : zrI x 0 2 = true ∧ zrI w (zlv x) (zhv x) = true := by
      unfold vt_se at hv
      split at hv
      · next g => split at hv
                  · next g2 => exact ⟨g, g2⟩
                  · cases hv
      · cases hv
    obtain ⟨k, -, k2, rfl⟩ := zrI_t h0.1 (by omega) (by omega)
    obtain ⟨C', q1, q2⟩ := k_set_o (e := e) h (k := k) (v := w) (by omega) h0.2
    exact zKs_o q1 q2
  · exact zKs_x h (k_set_e hv) (fun e' => m_set_e hv) (zt_12 hv (by unfold vt_se; (repeat' split) <;> omega))
theorem s_append {c : Int32} (h : zKR C M) : zKs mX6_append mX7_append [.int c] [(1, 1), (2, 2)] C M e := by
  obtain ⟨o, n, l, kp, h⟩ := h
  have h' := h
  obtain ⟨⟨a1, a2, a3, a4⟩, ⟨b1, b2, b3, b4⟩, ⟨d1, d2, d3⟩, ⟨e1, e2⟩, f, g, kk⟩ := h
  by_cases hv : vt_ap (nI l) c = 0
  · have h0 : zrI c 33 126 = true ∧ l < 60 := by
      unfold vt_ap at hv
      split at hv
      · next g => split at hv
                  · cases hv
                  · next g2 => exact ⟨g, Nat.lt_of_le_of_ne a3 (fun q => g2 (by rw [q]))⟩
      · cases hv
    have q1 := k_append_o (C := C) (M := M) (e := e) h0.1 b1 h0.2
    refine zKs_o q1 (o' := o) (n' := n) (l' := l + 1) (kp' := kp) (fun e' => ⟨_, m_append_o h0.1 d3 h0.2, ⟨⟨a1, a2, by omega, a4⟩, ⟨?_, ?_, ?_, ?_⟩, ⟨?_, ?_, ?_⟩, ⟨?_, ?_⟩, ?_, ?_, ?_⟩, ?_⟩)
    · rw [zcS_4, upd_s]
    · rw [zcS_4, upd_n _ _ (by omega)]; exact b2
    · rw [zcS_4, upd_n _ _ (by omega)]; exact b3
    · rw [zcS_4, upd_n _ _ (by omega)]; exact b4
    · simp (disch := omega) only [zms_s, zms_n, upd_s, upd_n]; exact d1
    · simp (disch := omega) only [zms_s, zms_n, upd_s, upd_n]; exact d2
    · simp (disch := omega) only [zms_s, zms_n, upd_s, upd_n]
    · simp (disch := omega) only [zms_s, zms_n, upd_s, upd_n]; exact e1
    · simp (disch := omega) only [zms_s, zms_n, upd_s, upd_n]; exact e2
    · simp (disch := omega) only [zms_s, zms_n, upd_s, upd_n]; exact f
    · simp (disch := omega) only [zms_s, zms_n, upd_s, upd_n]; exact g
    · simp (disch := omega) only [zms_s, zms_n, upd_s, upd_n]
      show upd C.2.1 l c = _
      rw [kk]
    · simp (disch := omega) only [zms_s, zms_n, upd_s, upd_n]
  · have h1 := k_append_e (M := M) (e := e) b1 a3 hv
    have hle : vt_ap (nI l) c ≤ 2 := by unfold vt_ap; (repeat' split) <;> omega
    refine zKs_x (t := vt_ap (nI l) c) h' h1 (fun e' => ?_) ?_
    · have := m_append_e (C := C) (M := M) (e := e') (c := c) (by rw [d3]; exact hv)
      rw [d3] at this
      exact this
    · generalize vt_ap (nI l) c = t at *
      have : t = 1 ∨ t = 2 := by omega
      rcases this with rfl | rfl <;> decide
theorem s_play (h : zKR C M) : zKs mX6_play mX7_play [] [(1, 1)] C M e := by
  obtain ⟨o, n, l, kp, h⟩ := h
  have h' := h
  obtain ⟨⟨a1, a2, a3, a4⟩, ⟨b1, b2, b3, b4⟩, ⟨d1, d2, d3⟩, ⟨e1, e2⟩, f, g, kk⟩ := h
  by_cases hv : zpn (M 4) l = 3
  · obtain ⟨C', q1, q2⟩ := k_play_o (e := e) h' hv
    exact zKs_o q1 q2
  · have h1 := k_play_e (M := M) (e := e) b1 a3 (by rw [kk]; exact hv)
    refine Or.inr ⟨1, 1, _, _, h1, fun e' => m_play_e d3 a3 hv, ⟨o, n, l, kp, zKr_M h' ?_ ?_ ?_ ?_ ?_⟩, ?_, by decide⟩
    · simp (disch := omega) only [zms_s, zms_n]
    · simp (disch := omega) only [zms_s, zms_n]
    · simp (disch := omega) only [zms_s, zms_n]
    · simp (disch := omega) only [zms_s, zms_n]
    · intro j hj
      simp (disch := omega) only [zms_s, zms_n, upd_n]
    · simp (disch := omega) only [zms_s, zms_n, upd_s]
theorem s_goBack (h : zKR C M) : zKs mX6_goBack mX7_goBack [] [(2, 1)] C M e := by
  obtain ⟨o, n, l, kp, h⟩ := h
  have h' := h
  obtain ⟨⟨a1, a2, a3, a4⟩, ⟨b1, b2, b3, b4⟩, ⟨d1, d2, d3⟩, ⟨e1, e2⟩, f, g, kk⟩ := h
  have : kp = 0 ∨ kp = 1 := by omega
  rcases this with rfl | rfl
  · exact zKs_x h' (k_goBack_e b4) (fun e' => m_goBack_e d2) (by decide)
  · obtain ⟨C', q1, q2⟩ := k_goBack_o (e := e) h'
    exact zKs_o q1 q2
theorem s_undo (h : zKR C M) : zKs mX6_undo mX7_undo [] [(2, 1)] C M e := by
  obtain ⟨o, n, l, kp, h⟩ := h
  have h' := h
  obtain ⟨⟨a1, a2, a3, a4⟩, ⟨b1, b2, b3, b4⟩, ⟨d1, d2, d3⟩, ⟨e1, e2⟩, f, g, kk⟩ := h
  cases n with
  | zero => exact zKs_x h' (k_undo_e b3) (fun e' => m_undo_e d1) (by decide)
  | succ n =>
    obtain ⟨C', q1, q2⟩ := k_undo_o (e := e) h'
    exact zKs_o q1 q2
theorem s_cell {x y w : Int32} (h : zKR C M) : zKs mX6_cell mX7_cell [.int x, .int y, .int w] [(0, 1), (1, 2)] C M e := by
  obtain ⟨o, n, l, kp, h⟩ := h
  have h' := h
  obtain ⟨-, -, -, ⟨e1, e2⟩, -⟩ := h
  by_cases hv : vt_ce x y w = 0
  · have h0 : zin x y = true ∧ zrI w 0 5 = true := by
      unfold vt_ce at hv
      split at hv
      · next g => split at hv
                  · next g2 => exact ⟨g, g2⟩
                  · cases hv
      · cases hv
    obtain ⟨i, j, i1, j1, rfl, rfl⟩ := zin_t h0.1
    obtain ⟨k, -, k2, rfl⟩ := zrI_t h0.2 (by omega) (by omega)
    exact zKs_l h' (k_cell_o e1 e2 i1 j1 (by omega)) (fun _ _ => rfl) rfl rfl (fun e' => m_cell_o i1 j1 (by omega))
  · exact zKs_x h' (k_cell_e hv) (fun e' => m_cell_e hv) (zt_12 hv (by unfold vt_ce; (repeat' split) <;> omega))
theorem s_line {x y d w : Int32} (h : zKR C M) : zKs mX6_line mX7_line [.int x, .int y, .int d, .int w] [(0, 1), (1, 2)] C M e := by
  obtain ⟨o, n, l, kp, h⟩ := h
  have h' := h
  obtain ⟨-, -, -, ⟨e1, e2⟩, -⟩ := h
  by_cases hv : vt_li x y d w = 0
  · have h0 : ((zrI x 0 8 = true ∧ zrI y 0 8 = true) ∧ ¬ (d = nI 1 ∧ x = nI 8) ∧ ¬ (d = nI 2 ∧ y = nI 8)) ∧ zrI d 1 2 = true ∧ zrI w 0 2 = true := by
      unfold vt_li at hv
      split at hv
      · next g => split at hv
                  · next g2 => exact ⟨g, g2⟩
                  · cases hv
      · cases hv
    obtain ⟨⟨⟨x1, y1⟩, p1, p2⟩, d1, w1⟩ := h0
    obtain ⟨i, -, i2, rfl⟩ := zrI_t x1 (by omega) (by omega)
    obtain ⟨j, -, j2, rfl⟩ := zrI_t y1 (by omega) (by omega)
    obtain ⟨d, dl, d2, rfl⟩ := zrI_t d1 (by omega) (by omega)
    obtain ⟨k, -, k2, rfl⟩ := zrI_t w1 (by omega) (by omega)
    have hd : (d = 1 ∧ i < 8) ∨ (d = 2 ∧ j < 8) := by
      have : d = 1 ∨ d = 2 := by omega
      rcases this with rfl | rfl
      · exact Or.inl ⟨rfl, Nat.lt_of_le_of_ne i2 (fun q => p1 ⟨rfl, by rw [q]⟩)⟩
      · exact Or.inr ⟨rfl, Nat.lt_of_le_of_ne j2 (fun q => p2 ⟨rfl, by rw [q]⟩)⟩
    exact zKs_l h' (k_line_o e1 e2 i2 j2 hd (by omega)) (fun _ _ => rfl) rfl rfl (fun e' => ⟨_, m_line_o i2 j2 hd (by omega), zT0_J M 0⟩)
  · exact zKs_x h' (k_line_e hv) (fun e' => m_line_e hv) (zt_12 hv (by unfold vt_li; (repeat' split) <;> omega))
theorem s_skater {x w : Int32} (h : zKR C M) : zKs mX6_skater mX7_skater [.int x, .int w] [(0, 1), (1, 2)] C M e := by
  obtain ⟨o, n, l, kp, h⟩ := h
  have h' := h
  obtain ⟨-, -, -, ⟨e1, e2⟩, -⟩ := h
  by_cases hv : vt_sk x w = 0
  · have h0 : zrI x 0 2 = true ∧ zrI w 0 8 = true := by
      unfold vt_sk at hv
      split at hv
      · next g => split at hv
                  · next g2 => exact ⟨g, g2⟩
                  · cases hv
      · cases hv
    obtain ⟨i, -, i2, rfl⟩ := zrI_t h0.1 (by omega) (by omega)
    obtain ⟨k, -, k2, rfl⟩ := zrI_t h0.2 (by omega) (by omega)
    exact zKs_l h' (k_skater_o e1 e2 (by omega) (by omega)) (fun _ _ => rfl) rfl rfl (fun e' => ⟨_, m_skater_o (by omega) (by omega), zML_J M⟩)
  · exact zKs_x h' (k_skater_e hv) (fun e' => m_skater_e hv) (zt_12 hv (by unfold vt_sk; (repeat' split) <;> omega))
theorem nI_up {x : Int32} (h : nI 0 ≤ x) : ∃ q, q < 2 ^ 31 ∧ x = nI q := by
  rw [Int32.le_iff_toInt_le, nI_toInt (by omega)] at h
  have hlt := Int32.toInt_lt x
  refine ⟨x.toInt.toNat, by omega, ?_⟩
  apply Int32.toInt_inj.mp
  rw [nI_toInt (by omega)]
  omega
theorem s_rink {x w : Int32} (h : zKR C M) : zKs mX6_rink mX7_rink [.int x, .int w] [(0, 1), (1, 2)] C M e := by
  obtain ⟨o, n, l, kp, h⟩ := h
  have h' := h
  obtain ⟨-, -, -, ⟨e1, e2⟩, -⟩ := h
  by_cases hv : vt_ri x w = 0
  · have h0 : nI 0 ≤ x ∧ zrI w 0 2 = true := by
      unfold vt_ri at hv
      split at hv
      · next g => split at hv
                  · next g2 => exact ⟨g, g2⟩
                  · cases hv
      · cases hv
    obtain ⟨i, i2, rfl⟩ := nI_up h0.1
    obtain ⟨k, -, k2, rfl⟩ := zrI_t h0.2 (by omega) (by omega)
    exact zKs_l h' (k_rink_o e1 e2 i2 (by omega)) (fun _ _ => rfl) rfl rfl (fun e' => ⟨_, m_rink_o i2 (by omega), zML_J M⟩)
  · exact zKs_x h' (k_rink_e hv) (fun e' => m_rink_e hv) (zt_12 hv (by unfold vt_ri; (repeat' split) <;> omega))
theorem s_count {w : Int32} (h : zKR C M) : zKs mX6_count mX7_count [.int w] [(1, 1)] C M e := by
  obtain ⟨o, n, l, kp, h⟩ := h
  have h' := h
  obtain ⟨-, ⟨b1, b2, b3, b4⟩, ⟨d1, d2, d3⟩, ⟨e1, e2⟩, -⟩ := h
  by_cases hv : vt_co w = 0
  · have h0 : zrI w 0 11 = true := by
      unfold vt_co at hv
      split at hv
      · next g => exact g
      · cases hv
    obtain ⟨k, -, k2, rfl⟩ := zrI_t h0 (by omega) (by omega)
    obtain ⟨f, q1⟩ := k_count_o (M := M) (e := e) e1 e2 (b3.trans d1.symm) (w := k) (by omega)
    exact zKs_l h' q1 (fun _ _ => rfl) rfl rfl (fun e' => m_count_o (by omega) e2)
  · have h1 : vt_co w = 1 := by unfold vt_co at *; split at hv <;> first | (next g => rw [if_pos g] at *; exact absurd rfl hv) | (next g => rw [if_neg g])
    exact zKs_x h' (k_count_e hv) (fun e' => m_count_e hv) (by rw [h1]; decide)
theorem s_setting {w : Int32} (h : zKR C M) : zKs mX6_setting mX7_setting [.int w] [(0, 1)] C M e := by
  obtain ⟨o, n, l, kp, h⟩ := h
  have h' := h
  obtain ⟨-, -, -, ⟨e1, e2⟩, -⟩ := h
  by_cases hv : vt_st w = 0
  · have h0 : zrI w 0 2 = true := by
      unfold vt_st at hv
      split at hv
      · next g => exact g
      · cases hv
    obtain ⟨k, -, k2, rfl⟩ := zrI_t h0 (by omega) (by omega)
    exact zKs_l h' (k_setting_o e1 (by omega)) (fun _ _ => rfl) rfl rfl (fun e' => ⟨_, m_setting_o (by omega), zT0_J M 0⟩)
  · have h1 : vt_st w = 1 := by unfold vt_st at *; split at hv <;> first | (next g => rw [if_pos g] at *; exact absurd rfl hv) | (next g => rw [if_neg g])
    exact zKs_x h' (k_setting_e hv) (fun e' => m_setting_e hv) (by rw [h1]; decide)
theorem s_best {w : Int32} (h : zKR C M) : zKs mX6_best mX7_best [.int w] [(0, 1)] C M e := by
  obtain ⟨o, n, l, kp, h⟩ := h
  have h' := h
  obtain ⟨-, -, -, ⟨e1, e2⟩, -⟩ := h
  by_cases hv : vt_be w = 0
  · have h0 : zrI w 0 2 = true := by
      unfold vt_be at hv
      split at hv
      · next g => exact g
      · cases hv
    obtain ⟨k, -, k2, rfl⟩ := zrI_t h0 (by omega) (by omega)
    obtain ⟨P', q1⟩ := k_best_o (M := M) (e := e) (k := k) e1 e2 (by omega)
    exact zKs_l h' q1 (fun j hj => zcp_n _ _ hj) rfl rfl (fun e' => m_best_o (by omega) e2)
  · have h1 : vt_be w = 1 := by unfold vt_be at *; split at hv <;> first | (next g => rw [if_pos g] at *; exact absurd rfl hv) | (next g => rw [if_neg g])
    exact zKs_x h' (k_best_e hv) (fun e' => m_best_e hv) (by rw [h1]; decide)
theorem s_why {x w : Int32} (h : zKR C M) : zKs mX6_why mX7_why [.int x, .int w] [(0, 1), (1, 2)] C M e := by
  obtain ⟨o, n, l, kp, h⟩ := h
  have h' := h
  obtain ⟨-, -, -, ⟨e1, e2⟩, -⟩ := h
  by_cases hv : vt_wh x w = 0
  · have h0 : zrI x 0 2 = true ∧ zrI w 0 3 = true := by
      unfold vt_wh at hv
      split at hv
      · next g => split at hv
                  · next g2 => exact ⟨g, g2⟩
                  · cases hv
      · cases hv
    obtain ⟨i, -, i2, rfl⟩ := zrI_t h0.1 (by omega) (by omega)
    obtain ⟨k, -, k2, rfl⟩ := zrI_t h0.2 (by omega) (by omega)
    exact zKs_l h' (k_why_o e1 e2 (by omega) (by omega)) (fun _ _ => rfl) rfl rfl (fun e' => ⟨_, m_why_o (by omega) (by omega) e2, zT0_J M 0⟩)
  · exact zKs_x h' (k_why_e hv) (fun e' => m_why_e hv) (zt_12 hv (by unfold vt_wh; (repeat' split) <;> omega))
theorem s_ifGlided {x d t w : Int32} (h : zKR C M) : zKs mX6_ifGlided mX7_ifGlided [.int x, .int d, .int t, .int w] [(0, 1), (1, 2)] C M e := by
  obtain ⟨o, n, l, kp, h⟩ := h
  have h' := h
  obtain ⟨-, -, -, ⟨e1, e2⟩, -⟩ := h
  by_cases hv : vt_if x d t w = 0
  · have h0 : zrI x 0 2 = true ∧ zrI d 0 3 = true ∧ zrI t 1 8 = true ∧ zrI w 0 3 = true := by
      unfold vt_if at hv
      split at hv
      · next g => split at hv
                  · next g2 => exact ⟨g, g2⟩
                  · cases hv
      · cases hv
    obtain ⟨x1, d1, t1, w1⟩ := h0
    obtain ⟨i, -, i2, rfl⟩ := zrI_t x1 (by omega) (by omega)
    obtain ⟨d, -, d2, rfl⟩ := zrI_t d1 (by omega) (by omega)
    obtain ⟨t, tl, t2, rfl⟩ := zrI_t t1 (by omega) (by omega)
    obtain ⟨k, -, k2, rfl⟩ := zrI_t w1 (by omega) (by omega)
    obtain ⟨P', q1⟩ := k_ifGlided_o (M := M) (e := e) (k := i) (d := d) (t := t) (w := k) e1 e2 (by omega) (by omega) tl t2 (by omega)
    exact zKs_l h' q1 (fun j hj => zcp_n _ _ hj) rfl rfl (fun e' => m_ifGlided_o (by omega) (by omega) tl t2 (by omega) e2)
  · exact zKs_x h' (k_ifGlided_e hv) (fun e' => m_ifGlided_e hv) (zt_12 hv (by unfold vt_if; (repeat' split) <;> omega))
theorem u_thaw (h : zKR C M) : zKu mX6_thaw mX7_thaw Value.int C M e := by
  obtain ⟨o, n, l, kp, h⟩ := h
  obtain ⟨C', q1, q2⟩ := k_thaw (e := e) h
  refine ⟨_, C', q1, fun e' => ?_⟩
  obtain ⟨M', p1, p2, -⟩ := q2 e'
  exact ⟨M', p1, ⟨_, _, _, _, p2⟩⟩
theorem u_keep (h : zKR C M) : zKu mX6_keep mX7_keep Value.int C M e := by
  obtain ⟨o, n, l, kp, h⟩ := h
  obtain ⟨C', q1, q2⟩ := k_keep (e := e) h
  refine ⟨_, C', q1, fun e' => ?_⟩
  obtain ⟨M', p1, p2, -⟩ := q2 e'
  exact ⟨M', p1, ⟨_, _, _, _, p2⟩⟩
theorem u_clearBuffer (h : zKR C M) : zKu mX6_clearBuffer mX7_clearBuffer Value.int C M e := by
  obtain ⟨o, n, l, kp, ⟨a1, a2, a3, a4⟩, ⟨b1, b2, b3, b4⟩, ⟨d1, d2, d3⟩, ⟨e1, e2⟩, f, g, kk⟩ := h
  have q1 := k_clearBuffer (C := C) (M := M) (e := e)
  refine ⟨_, _, q1, fun e' => ?_⟩
  have q2 := m_clearBuffer (C := zcS C 0 (nI 0)) (M := M) (e := e')
  rw [d3, ← b1] at q2
  refine ⟨_, q2, o, n, 0, kp, ⟨a1, a2, by omega, a4⟩, ⟨?_, ?_, ?_, ?_⟩, ⟨?_, ?_, ?_⟩, ⟨?_, ?_⟩, ?_, ?_, ?_⟩
  · rw [zcS_4, upd_s]
  · rw [zcS_4, upd_n _ _ (by omega)]; exact b2
  · rw [zcS_4, upd_n _ _ (by omega)]; exact b3
  · rw [zcS_4, upd_n _ _ (by omega)]; exact b4
  · simp (disch := omega) only [zms_s, zms_n, upd_s, upd_n]; exact d1
  · simp (disch := omega) only [zms_s, zms_n, upd_s, upd_n]; exact d2
  · simp (disch := omega) only [zms_s, zms_n, upd_s, upd_n]
  · simp (disch := omega) only [zms_s, zms_n, upd_s, upd_n]; exact e1
  · simp (disch := omega) only [zms_s, zms_n, upd_s, upd_n]; exact e2
  · simp (disch := omega) only [zms_s, zms_n, upd_s, upd_n]; exact f
  · simp (disch := omega) only [zms_s, zms_n, upd_s, upd_n]; exact g
  · simp (disch := omega) only [zms_s, zms_n, upd_s, upd_n]
    exact kk
theorem u_firstError (h : zKR C M) : zKu mX6_firstError mX7_firstError Value.int C M e := by
  obtain ⟨o, n, l, kp, h⟩ := h
  have h' := h
  obtain ⟨⟨a1, a2, a3, a4⟩, ⟨b1, b2, b3, b4⟩, ⟨d1, d2, d3⟩, ⟨e1, e2⟩, f, g, kk⟩ := h
  have q1 := k_firstError (C := C) (M := M) (e := e) b1 a3
  rw [kk] at q1
  refine ⟨_, _, q1, fun e' => ⟨_, m_firstError d3 a3, o, n, l, kp, zKr_M h' ?_ ?_ ?_ ?_ ?_⟩⟩
  · simp (disch := omega) only [zms_s, zms_n]
  · simp (disch := omega) only [zms_s, zms_n]
  · simp (disch := omega) only [zms_s, zms_n]
  · simp (disch := omega) only [zms_s, zms_n]
  · intro j hj
    simp (disch := omega) only [zms_s, zms_n, upd_n]
theorem u_calm (h : zKR C M) : zKu mX6_calm mX7_calm Value.int C M e := by
  obtain ⟨o, n, l, kp, h⟩ := h
  refine ⟨_, _, k_calm h.2.2.2.1.1 h.2.2.2.1.2, fun e' => ?_⟩
  obtain ⟨M', p1, p2⟩ := m_calmP (C := C) (M := M) (e := e')
  exact ⟨M', p1, _, _, _, _, zKr_J h p2⟩
theorem u_ownedShare (h : zKR C M) : zKu mX6_ownedShare mX7_ownedShare Value.double C M e := by
  obtain ⟨o, n, l, kp, h⟩ := h
  exact ⟨_, _, c_ownedShare h.2.2.2.1.1 h.2.2.2.1.2, fun e' => ⟨_, m_ownedShare h.2.2.2.1.2, _, _, _, _, zKr_T 0 h⟩⟩
theorem u_meanRink (h : zKR C M) : ∃ v C', FP.f2d v &&& 0x7fffffffffffffff ≤ 0x7ff0000000000000 ∧ xC1 mX6_meanRink [.ref 0] (zH C M e) = some (.inl (some (.float v)), zH C' M e) ∧ ∀ e', ∃ M', xC1 mX7_meanRink [.ref 70] (zH C' M e') = some (.inl (some (.float v)), zH C' M' e') ∧ zKR C' M' := by
  obtain ⟨o, n, l, kp, h⟩ := h
  exact ⟨_, _, (zme_ok (M 0)).2.2.2.1, c_meanRink h.2.2.2.1.1 h.2.2.2.1.2, fun e' => ⟨_, m_meanRink h.2.2.2.1.2, _, _, _, _, zKr_J h (zML_J M)⟩⟩
theorem u_digest (h : zKR C M) : zKu mX6_digest mX7_digest Value.long C M e := by
  obtain ⟨o, n, l, kp, h⟩ := h
  have h' := h
  obtain ⟨⟨a1, a2, a3, a4⟩, ⟨b1, b2, b3, b4⟩, ⟨d1, d2, d3⟩, ⟨e1, e2⟩, f, g, kk⟩ := h
  obtain ⟨f, P', q1⟩ := c_digest (C := C) (M := M) (e := e) e1 e2 b1 a3 b4 a4 (b3.trans d1.symm)
  rw [kk] at q1
  refine ⟨_, _, q1, fun e' => ?_⟩
  obtain ⟨M', p1, p2⟩ := m_digest (C := zcp (zcL C f) 1 P') (M := M) (e := e') e2 d3 a3 d2 a4
  exact ⟨M', p1, _, _, _, _, zKr_C (zKr_J h' p2) (fun j hj => zcp_n _ _ hj) rfl rfl⟩
end Z8X
