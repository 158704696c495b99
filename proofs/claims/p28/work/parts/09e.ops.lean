/-! ===== what each call answers and what the row-book is behind it, whatever the class's cells are ===== -/
/-- the class holds the state that the row-book tells -/
def zKR (C : ZC) (M : ZM) : Prop := ∃ o n l kp, zKr C M o n l kp
/-- so much garbage more at most -/
def zE (e e' : ZE) (k : Nat) : Prop := e'.2 = e.2 ∧ e'.1.1 = e.1.1 ∧ e'.1.2.1 ≤ e.1.2.1 + k ∧ e'.1.2.2 ≤ e.1.2.2 + 6 * k
theorem zE_rf (e : ZE) (k : Nat) : zE e e k := ⟨rfl, rfl, Nat.le_add_right _ _, Nat.le_add_right _ _⟩
theorem zE_g (e : ZE) : zE e (zeg e) 1 := ⟨rfl, rfl, Nat.le_refl _, Nat.le_refl _⟩
theorem zE_tr {e e' e'' : ZE} {k k' : Nat} (h : zE e e' k) (h2 : zE e' e'' k') : zE e e'' (k + k') := by
  obtain ⟨a1, a2, a3, a4⟩ := h
  obtain ⟨b1, b2, b3, b4⟩ := h2
  exact ⟨b1.trans a1, b2.trans a2, by omega, by omega⟩
theorem zE_le {e e' : ZE} {k k' : Nat} (h : zE e e' k) (hk : k ≤ k') : zE e e' k' := by
  obtain ⟨a1, a2, a3, a4⟩ := h
  exact ⟨a1, a2, by omega, by omega⟩
/-- a call on the class's object -/
def zC (ν : Nat) (a : List Value) (k : Nat) (M : ZM) (v : Value) (M' : ZM) : Prop := ∀ C e, zKR C M → ∃ C' e', xC1 ν (.ref 0 :: a) (zH C M e) = some (.inl (some v), zH C' M' e') ∧ zKR C' M' ∧ zE e e' k
theorem zKR_at {C : ZC} {M : ZM} {n l kp : Nat} (hM : zok M n l kp) (h : zKR C M) : ∃ o, zKr C M o n l kp := by
  obtain ⟨o, n', l', kp', h⟩ := h
  have h' := h
  obtain ⟨⟨a1, a2, a3, a4⟩, -, ⟨d1, d2, d3⟩, -⟩ := h
  obtain ⟨⟨g1, g2, g3⟩, g4, g5, g6⟩ := hM
  have e1 : n' = n := (nI_eq (by omega) (by omega)).mp (d1.symm.trans g1)
  have e2 : l' = l := (nI_eq (by omega) (by omega)).mp (d3.symm.trans g2)
  have e3 : kp' = kp := (nI_eq (by omega) (by omega)).mp (d2.symm.trans g3)
  subst e1; subst e2; subst e3
  exact ⟨o, h'⟩
section Z9E
variable {C C' : ZC} {M M' : ZM} {e : ZE} {n l kp : Nat} {s : Nat → Int32}
-- looks
theorem l_pond {a b w : Nat} (hR : zR (C.1 0) s) (hs : zWF s) (ha : a < 8) (hb : b < 8) (hw : w < 6) : xC1 mL_pond [.ref 0, .int (nI a), .int (nI b), .int (nI w)] (zH C M e) = some (.inl (some (.int (zvC s (8 * b + a) w))), zH C M e) :=
  (ct_pond C M e).1 _ _ (k_cell_o hR hs ha hb hw)
theorem l_line {a b d w : Nat} (hR : zR (C.1 0) s) (hs : zWF s) (ha : a ≤ 8) (hb : b ≤ 8) (hd : (d = 1 ∧ a < 8) ∨ (d = 2 ∧ b < 8)) (hw : w < 3) : xC1 mL_line [.ref 0, .int (nI a), .int (nI b), .int (nI d), .int (nI w)] (zH C M e) = some (.inl (some (.int (zvL s (zlf a b d) w))), zH C M e) :=
  (ct_line C M e).1 _ _ (k_line_o hR hs ha hb hd hw)
theorem l_skater {k w : Nat} (hR : zR (C.1 0) s) (hs : zWF s) (hk : k < 3) (hw : w < 9) : xC1 mL_skater [.ref 0, .int (nI k), .int (nI w)] (zH C M e) = some (.inl (some (.int (zvS s k w))), zH C M e) :=
  (ct_skater C M e).1 _ _ (k_skater_o hR hs hk hw)
theorem l_rink {q w : Nat} (hR : zR (C.1 0) s) (hs : zWF s) (hq : q < 2 ^ 31) (hw : w < 3) : xC1 mL_rink [.ref 0, .int (nI q), .int (nI w)] (zH C M e) = some (.inl (some (.int (if zrk (zrt s) q = 64 then -1 else zvR s (zrk (zrt s) q) w))), zH C M e) :=
  (ct_rink C M e).1 _ _ (k_rink_o hR hs hq hw)
theorem l_why {k d : Nat} (hR : zR (C.1 0) s) (hs : zWF s) (hk : k < 3) (hd : d < 4) : xC1 mL_why [.ref 0, .int (nI k), .int (nI d)] (zH C M e) = some (.inl (some (.int (nI (zba s k d)))), zH C M e) :=
  (ct_why C M e).1 _ _ (k_why_o hR hs hk hd)
theorem zKR_L {f : Nat → Int32} (h : zKR C M) : zKR (zcL C f) M := by
  obtain ⟨o, n, l, kp, h⟩ := h
  exact ⟨o, n, l, kp, zKr_C h (fun _ _ => rfl) rfl rfl⟩
theorem zKR_P {P : ZP} (h : zKR C M) : zKR (zcp C 1 P) M := by
  obtain ⟨o, n, l, kp, h⟩ := h
  exact ⟨o, n, l, kp, zKr_C h (fun j hj => zcp_n _ _ hj) rfl rfl⟩
theorem zKR_R (h : zKR C M) : zR (C.1 0) (M 0) ∧ zWF (M 0) := by
  obtain ⟨o, n, l, kp, h⟩ := h
  exact h.2.2.2.1
theorem l_count {w : Nat} (h : zKR C M) (hw : w < 12) : ∃ C', xC1 mL_count [.ref 0, .int (nI w)] (zH C M e) = some (.inl (some (.int (zvN (M 0) (M 8 0) w))), zH C' M e) ∧ zKR C' M := by
  obtain ⟨hR, hs⟩ := zKR_R h
  have h' := h
  obtain ⟨o, n, l, kp, -, ⟨-, -, b3, -⟩, ⟨d1, -⟩, -⟩ := h
  obtain ⟨f, q⟩ := k_count_o (M := M) (e := e) hR hs (b3.trans d1.symm) hw
  exact ⟨_, (ct_count C M e).1 _ _ q, zKR_L h'⟩
theorem l_ifGlided {k d t w : Nat} (h : zKR C M) (hk : k < 3) (hd : d < 4) (h1 : 1 ≤ t) (h8 : t ≤ 8) (hw : w < 4) : ∃ C', xC1 mL_ifGlided [.ref 0, .int (nI k), .int (nI d), .int (nI t), .int (nI w)] (zH C M e) = some (.inl (some (.int (zvG (M 0) k d t w))), zH C' M e) ∧ zKR C' M := by
  obtain ⟨hR, hs⟩ := zKR_R h
  obtain ⟨P', q⟩ := k_ifGlided_o (M := M) (e := e) hR hs hk hd h1 h8 hw
  exact ⟨_, (ct_ifGlided C M e).1 _ _ q, zKR_P h⟩
theorem l_best {k : Nat} (h : zKR C M) (hk : k < 3) : ∃ C', xC1 mL_best [.ref 0, .int (nI k)] (zH C M e) = some (.inl (some (.int (zbo k (M 0) 4).1)), zH C' M e) ∧ zKR C' M := by
  obtain ⟨hR, hs⟩ := zKR_R h
  obtain ⟨P', q⟩ := k_best_o (M := M) (e := e) hR hs hk
  exact ⟨_, (ct_best C M e).1 _ _ q, zKR_P h⟩
theorem l_digest (hM : zok M n l kp) (h : zKR C M) : ∃ C', xC1 mX6_digest [.ref 0] (zH C M e) = some (.inl (some (.long (zhD (M 0) (M 8 0) (nI kp) (M 4) l))), zH C' M e) ∧ zKR C' M := by
  obtain ⟨hR, hs⟩ := zKR_R h
  have h' := h
  obtain ⟨o, h⟩ := zKR_at hM h
  obtain ⟨⟨a1, a2, a3, a4⟩, ⟨b1, b2, b3, b4⟩, ⟨d1, d2, d3⟩, ⟨e1, e2⟩, f, g, kk⟩ := h
  obtain ⟨f, P', q⟩ := c_digest (C := C) (M := M) (e := e) e1 e2 b1 a3 b4 a4 (b3.trans d1.symm)
  refine ⟨zcp (zcL C f) 1 P', ?_, zKR_P (zKR_L h')⟩
  rw [q]
  unfold zhD
  rw [zhf_congr l _ kk]
-- calls that change something
theorem o_glide {k d t : Nat} (hM : zIM M n l kp) (hk : k < 3) (hd : d < 4) (h1 : 1 ≤ t) (h8 : t ≤ 8) : ∃ v M' n' kp', zC mL_glide [.int (nI k), .int (nI d), .int (nI t)] 1 M (.int v) M' ∧ zIM M' n' l kp' := by
  refine ⟨nI (zgl k d t (M 0)).1, zgS M n (zgl k d t (M 0)).2 l, _, _, fun C e h => ?_, zIM_save hM hM.1.2.2.1 ⟨zgl_WF hk hd t _ hM.2.1.1, zgl_XI hk hd t hM.2.1.1 hM.2.1.2⟩⟩
  obtain ⟨o, h⟩ := zKR_at hM.1 h
  obtain ⟨C', q1, q2⟩ := k_glide_o (e := e) h hk hd h1 h8
  exact ⟨C', e, (ct_glide C M e).1 _ _ q1, ⟨_, _, _, _, q2⟩, zE_rf e 1⟩
theorem o_thaw (hM : zIM M n l kp) : ∃ v M' n' kp', zC mX6_thaw [] 1 M (.int v) M' ∧ zIM M' n' l kp' := by
  refine ⟨nI (cnt (ztw (M 0)) 64), zgS M n (zth (M 0)) l, _, _, fun C e h => ?_, zIM_save hM hM.1.2.2.1 ⟨zth_WF hM.2.1.1, zth_XI hM.2.1.2⟩⟩
  obtain ⟨o, h⟩ := zKR_at hM.1 h
  obtain ⟨C', q1, q2⟩ := k_thaw (e := e) h
  exact ⟨C', e, q1, ⟨_, _, _, _, q2⟩, zE_rf e 1⟩
theorem o_hole {a b : Nat} (hM : zIM M n l kp) (ha : a < 8) (hb : b < 8) : ∃ v M' n' kp', zC mL_hole [.int (nI a), .int (nI b)] 1 M (.int v) M' ∧ zIM M' n' l kp' := by
  cases hc : zic (M 0) (8 * b + a) with
  | true =>
    refine ⟨M 0 (64 + (8 * b + a)), zgS M n (zml (M 0) (8 * b + a)) l, _, _, fun C e h => ?_, zIM_save hM hM.1.2.2.1 ⟨zml_WF (by omega) hM.2.1.1, zml_XI (by omega) hM.2.1.2⟩⟩
    obtain ⟨o, h⟩ := zKR_at hM.1 h
    obtain ⟨C', q1, q2⟩ := k_hole_o (e := e) h ha hb hc
    exact ⟨C', e, (ct_hole C M e).1 _ _ q1, ⟨_, _, _, _, q2⟩, zE_rf e 1⟩
  | false =>
    refine ⟨-2, M, _, _, fun C e h => ?_, hM⟩
    have hv : vt_ho (M 0) (nI a) (nI b) = 2 := by
      unfold vt_ho
      rw [if_pos (zin_n ha hb), pk_mul, nI_add, nI_clamp (by omega), hc]
      rfl
    have q := k_hole_e (C := C) (M := M) (e := e) (s := M 0) (x := nI a) (y := nI b) (zKR_R h).1 (by rw [hv]; decide)
    rw [hv] at q
    exact ⟨C, zeg e, (ct_hole C M e).2 2 (-2) (by decide) q, h, zE_g e⟩
theorem o_pay {k j : Nat} (hM : zIM M n l kp) (hk : k < 3) (j1 : 1 ≤ j) (j9 : j ≤ 99) : ∃ v M' n' kp', zC mL_pay [.int (nI k), .int (nI j)] 1 M (.int v) M' ∧ zIM M' n' l kp' := by
  by_cases hf : nI 9999 < M 0 440 + nI j
  · refine ⟨-4, M, _, _, fun C e h => ?_, hM⟩
    have hv : vt_pa (M 0) (nI k) (nI j) = 3 := by
      unfold vt_pa
      rw [if_pos (zrI_n2 (by omega) (by omega) (by omega)), if_pos (zrI_n2 j1 j9 (by omega)), if_pos hf]
    have q := k_pay_e (C := C) (M := M) (e := e) (s := M 0) (x := nI k) (c := nI j) (zKR_R h).1 (by rw [hv]; decide)
    rw [hv] at q
    exact ⟨C, zeg e, (ct_pay C M e).2 2 (-4) (by decide) q, h, zE_g e⟩
  · refine ⟨M 0 (416 + 6 * k + 2) + nI j, zgS M n (upd (upd (M 0) (416 + 6 * k + 2) (M 0 (416 + 6 * k + 2) + nI j)) 440 (M 0 440 + nI j)) l, _, _, fun C e h => ?_, zIM_save hM hM.1.2.2.1 ⟨zWF_pay hk j1 j9 hf hM.2.1.1, zXI_pay hk hM.2.1.2⟩⟩
    obtain ⟨o, h⟩ := zKR_at hM.1 h
    obtain ⟨C', q1, q2⟩ := k_pay_o (e := e) h hk j1 j9 hf
    exact ⟨C', e, (ct_pay C M e).1 _ _ q1, ⟨_, _, _, _, q2⟩, zE_rf e 1⟩
theorem o_set {k : Nat} {v : Int32} (hM : zIM M n l kp) (hk : k < 3) (hv : zrI v (zlv (nI k)) (zhv (nI k)) = true) : ∃ w M' n' kp', zC mL_set [.int (nI k), .int v] 1 M (.int w) M' ∧ zIM M' n' l kp' := by
  refine ⟨M 0 (434 + k), zgS M n (upd (M 0) (434 + k) v) l, _, _, fun C e h => ?_, zIM_save hM hM.1.2.2.1 ⟨zWF_set hk hv hM.2.1.1, zXI_set hk hM.2.1.2⟩⟩
  obtain ⟨o, h⟩ := zKR_at hM.1 h
  obtain ⟨C', q1, q2⟩ := k_set_o (e := e) h hk hv
  exact ⟨C', e, (ct_set C M e).1 _ _ q1, ⟨_, _, _, _, q2⟩, zE_rf e 1⟩
theorem o_undo0 (hM : zok M 0 l kp) : zC mL_undo [] 1 M (.int (-2)) M := by
  intro C e h
  have h' := h
  obtain ⟨o, h⟩ := zKR_at hM h
  exact ⟨C, zeg e, (ct_undo C M e).2 2 (-2) (by decide) (k_undo_e h.2.1.2.2.1), h', zE_g e⟩
theorem o_undo (hM : zIM M n l kp) : ∃ v M' n' kp', zC mL_undo [] 1 M (.int v) M' ∧ zIM M' n' l kp' := by
  cases n with
  | zero => exact ⟨_, M, _, _, o_undo0 hM.1, hM⟩
  | succ n =>
    refine ⟨nI n, zgU M n, _, _, fun C e h => ?_, zIM_undo hM⟩
    obtain ⟨o, h⟩ := zKR_at hM.1 h
    obtain ⟨C', q1, q2⟩ := k_undo_o (e := e) h
    exact ⟨C', e, (ct_undo C M e).1 _ _ q1, ⟨_, _, _, _, q2⟩, zE_rf e 1⟩
theorem o_keep (hM : zIM M n l kp) : ∃ v M' n' kp', zC mX6_keep [] 1 M (.int v) M' ∧ zIM M' n' l kp' := by
  refine ⟨nI (cnt (zic (M 0)) 64), zgK M, _, _, fun C e h => ?_, zIM_keep hM⟩
  obtain ⟨o, h⟩ := zKR_at hM.1 h
  obtain ⟨C', q1, q2⟩ := k_keep (e := e) h
  exact ⟨C', e, q1, ⟨_, _, _, _, q2⟩, zE_rf e 1⟩
theorem o_goBack0 (hM : zok M n l 0) : zC mL_goBack [] 1 M (.int (-2)) M := by
  intro C e h
  have h' := h
  obtain ⟨o, h⟩ := zKR_at hM h
  exact ⟨C, zeg e, (ct_goBack C M e).2 2 (-2) (by decide) (k_goBack_e h.2.1.2.2.2), h', zE_g e⟩
theorem o_goBack (hM : zIM M n l kp) : ∃ v M' n' kp', zC mL_goBack [] 1 M (.int v) M' ∧ zIM M' n' l kp' := by
  have hk := hM.1.2.2.2
  have : kp = 0 ∨ kp = 1 := by omega
  rcases this with rfl | rfl
  · exact ⟨_, M, _, _, o_goBack0 hM.1, hM⟩
  · refine ⟨nI (cnt (zic (M 3)) 64), zgS M n (M 3) l, _, _, fun C e h => ?_, zIM_save hM hM.1.2.2.1 (hM.2.2.2 rfl)⟩
    obtain ⟨o, h⟩ := zKR_at hM.1 h
    obtain ⟨C', q1, q2⟩ := k_goBack_o (e := e) h
    exact ⟨C', e, (ct_goBack C M e).1 _ _ q1, ⟨_, _, _, _, q2⟩, zE_rf e 1⟩
theorem o_append {c : Int32} (hM : zok M n l kp) (hc : zrI c 33 126 = true) (hl : l < 60) : zC mL_append [.int c] 0 M (.int (nI (l + 1))) (zgA M l c) := by
  intro C e h
  obtain ⟨o, h⟩ := zKR_at hM h
  obtain ⟨⟨a1, a2, a3, a4⟩, ⟨b1, b2, b3, b4⟩, ⟨d1, d2, d3⟩, ⟨e1, e2⟩, f, g, kk⟩ := h
  have q1 := k_append_o (C := C) (M := M) (e := e) hc b1 hl
  unfold zgA
  refine ⟨_, e, (ct_append C M e).1 _ _ q1, ⟨o, n, l + 1, kp, ⟨a1, a2, by omega, a4⟩, ⟨?_, ?_, ?_, ?_⟩, ⟨?_, ?_, ?_⟩, ⟨?_, ?_⟩, ?_, ?_, ?_⟩, zE_rf e 0⟩
  · rw [zcS_4, upd_s]
  · rw [zcS_4, upd_n _ _ (by omega)]; exact b2
  · rw [zcS_4, upd_n _ _ (by omega)]; exact b3
  · rw [zcS_4, upd_n _ _ (by omega)]; exact b4
  · simp (disch := omega) only [zms_s, zms_n, upd_s, upd_n]; exact d1
  · simp (disch := omega) only [zms_s, zms_n, upd_s, upd_n]; exact d2
  · simp (disch := omega) only [zms_s, zms_n, upd_s, upd_n]
  · simp (disch := omega) only [zms_s, zms_n, upd_s, upd_n]; exact e1
  · simp (disch := omega) only [zms_s, zms_n, upd_s, upd_n]; exact e2
  · simp (disch := omega) only [zms_s, zms_n, upd_s, upd_n]; exact f
  · simp (disch := omega) only [zms_s, zms_n, upd_s, upd_n]; exact g
  · intro j hj
    simp (disch := omega) only [zms_s, zms_n, upd_s, upd_n]
    show upd C.2.1 l c j = upd (M 4) l c j
    by_cases hjl : j = l
    · subst hjl; rw [upd_s, upd_s]
    · rw [upd_n _ _ hjl, upd_n _ _ hjl]; exact kk j (by omega)
theorem o_clear (hM : zok M n l kp) : zC mX6_clearBuffer [] 0 M (.int (nI l)) (zgC M) := by
  intro C e h
  obtain ⟨o, h⟩ := zKR_at hM h
  obtain ⟨⟨a1, a2, a3, a4⟩, ⟨b1, b2, b3, b4⟩, ⟨d1, d2, d3⟩, ⟨e1, e2⟩, f, g, kk⟩ := h
  have q1 := k_clearBuffer (C := C) (M := M) (e := e)
  rw [b1] at q1
  unfold zgC
  refine ⟨_, e, q1, ⟨o, n, 0, kp, ⟨a1, a2, by omega, a4⟩, ⟨?_, ?_, ?_, ?_⟩, ⟨?_, ?_, ?_⟩, ⟨?_, ?_⟩, ?_, ?_, ?_⟩, zE_rf e 0⟩
  · rw [zcS_4, upd_s]
  · rw [zcS_4, upd_n _ _ (by omega)]; exact b2
  · rw [zcS_4, upd_n _ _ (by omega)]; exact b3
  · rw [zcS_4, upd_n _ _ (by omega)]; exact b4
  · simp (disch := omega) only [zms_s, zms_n, upd_s, upd_n]; exact d1
  · simp (disch := omega) only [zms_s, zms_n, upd_s, upd_n]; exact d2
  · simp (disch := omega) only [zms_s, zms_n, upd_s, upd_n]
  · simp (disch := omega) only [zms_s, zms_n, upd_s, upd_n]; exact e1
  · simp (disch := omega) only [zms_s, zms_n, upd_s, upd_n]; exact e2
  · simp (disch := omega) only [zms_s, zms_n, upd_s, upd_n]; exact f
  · simp (disch := omega) only [zms_s, zms_n, upd_s, upd_n]; exact g
  · intro j hj
    exact absurd hj (Nat.not_lt_zero _)
theorem o_firstError (hM : zok M n l kp) : zC mX6_firstError [] 0 M (.int (nI (zer (M 4) l))) M := by
  intro C e h
  have h' := h
  obtain ⟨o, h⟩ := zKR_at hM h
  have q1 := k_firstError (C := C) (M := M) (e := e) h.2.1.1 h.1.2.2.1
  rw [zer_congr h.2.2.2.2.2.2] at q1
  exact ⟨C, e, q1, h', zE_rf e 0⟩
theorem o_play (hM : zIM M n l kp) (h3 : zpn (M 4) l = 3) : ∃ v M' n' kp', zC mL_play [] 0 M (.int v) M' ∧ zIM M' n' 0 kp' := by
  refine ⟨nI (zpl (M 4) l (M 0)).1, zgS M n (zpl (M 4) l (M 0)).2 0, _, _, fun C e h => ?_, zIM_save hM (Nat.zero_le _) ⟨zpy1_WF h3 61 0 _ 0 hM.2.1.1 (Or.inr ⟨Nat.pos_of_ne_zero (fun h => by subst h; cases h3), rfl⟩), zpl_XI h3 hM.2.1.1 hM.2.1.2⟩⟩
  obtain ⟨o, h⟩ := zKR_at hM.1 h
  obtain ⟨C', q1, q2⟩ := k_play_o (e := e) h h3
  exact ⟨C', e, (ct_play C M e).1 _ _ q1, ⟨_, _, _, _, q2⟩, zE_rf e 0⟩
theorem o_play_e (hM : zok M n l kp) (h3 : zpn (M 4) l ≠ 3) : zC mL_play [] 1 M (.int (-2)) M := by
  intro C e h
  have h' := h
  obtain ⟨o, h⟩ := zKR_at hM h
  have q := k_play_e (C := C) (M := M) (e := e) h.2.1.1 h.1.2.2.1 (by rw [zpn_congr h.2.2.2.2.2.2]; exact h3)
  exact ⟨C, zeg e, (ct_play C M e).2 1 (-2) (by decide) q, h', zE_g e⟩
end Z9E
