/-! ===== operations: pay, set ===== -/
theorem zWF_of {s s' : Nat → Int32} (h : ∀ j, j < 416 → s' j = s j) (hx : ∀ k, k < 3 → s' (416 + 6 * k) = s (416 + 6 * k) ∧ s' (416 + 6 * k + 1) = s (416 + 6 * k + 1)) (hs : zWF s) (w6 : zW6 s') (w7 : zW7 s') : zWF s' := by
  obtain ⟨⟨h1, h2, h3, h4, h5⟩, h6, h7, h8⟩ := hs
  have hb1 : ∀ l, l < 144 → zb1 l ≤ 64 ∧ zb2 l ≤ 64 := by decide +kernel
  have hop : ∀ l, l < 144 → zop s' l = zop s l := fun l hl => by
    unfold zop
    rw [zic_congr (fun c hc => h c (by omega)), zic_congr (fun c hc => h c (by omega)), h _ (by omega)]
  refine ⟨⟨fun c hc => ?_, fun c hc => ?_, fun c hc => ?_, fun l hl => ?_, fun l hl ho => ?_⟩, fun k hk => ?_, w6, w7⟩
  · rw [h _ (by omega)]; exact h1 c hc
  · have : zon s' c = zon s c := by unfold zon; rw [h _ (by omega)]
    rw [this, h _ (by omega)]; exact h2 c hc
  · rw [h _ (by omega), h _ (by omega)]; exact h3 c hc
  · rw [h _ (by omega)]; exact h4 l hl
  · rw [hop l hl] at ho
    have := hb1 l hl
    rw [h _ (by omega), h _ (by omega)]; exact h5 l hl ho
  · obtain ⟨x1, x2⟩ := hx k hk
    have hx : zpx s' k = zpx s k := by unfold zpx; rw [x1]
    have hy : zpy s' k = zpy s k := by unfold zpy; rw [x2]
    rw [hx, hy, x1, x2]; exact h6 k hk
theorem zR_purse {P : ZP} {s : Nat → Int32} {k : Nat} (v : Int32) (hk : k < 3) (hR : zR P s) : zR (zsS P (10 * k + 12) v) (upd s (416 + 6 * k + 2) v) := by
  have hsets := zR_sets (P := P) (P' := zsS P (10 * k + 12) v) (s := s) (s' := upd s (416 + 6 * k + 2) v) (fun j hj => upd_n _ _ (by omega)) hR (fun j hj => rfl)
  obtain ⟨-, -, -, -, r5, r6, ⟨r7, r8, r9, r10⟩, r11⟩ := hR
  refine ⟨hsets.1, hsets.2.1, hsets.2.2.1, hsets.2.2.2, fun l hl => ?_, fun q hq => ?_, ⟨?_, ?_, ?_, ?_⟩, fun q hq => ?_⟩
  · rw [upd_n _ _ (by omega)]; exact r5 l hl
  · rw [upd_n _ _ (by omega)]; exact r6 q hq
  · rw [upd_n _ _ (by omega)]; simp (disch := omega) only [zsS_1, zsS_2, zsS_3, zsS_4, zsL_1, zsL_2, zsL_3, zsL_4, upd_s, upd_n, updL_s, updL_n]; exact r7
  · rw [upd_n _ _ (by omega)]; simp (disch := omega) only [zsS_1, zsS_2, zsS_3, zsS_4, zsL_1, zsL_2, zsL_3, zsL_4, upd_s, upd_n, updL_s, updL_n]; exact r8
  · rw [upd_n _ _ (by omega)]; simp (disch := omega) only [zsS_1, zsS_2, zsS_3, zsS_4, zsL_1, zsL_2, zsL_3, zsL_4, upd_s, upd_n, updL_s, updL_n]; exact r9
  · rw [upd_n _ _ (by omega)]; simp (disch := omega) only [zsS_1, zsS_2, zsS_3, zsS_4, zsL_1, zsL_2, zsL_3, zsL_4, upd_s, upd_n, updL_s, updL_n]; exact r10
  · obtain ⟨c1, c2, c3, c4, c5, c6⟩ := r11 q hq
    by_cases hqk : q = k
    · subst hqk
      simp (disch := omega) only [zsS_1, zsS_2, zsS_3, zsS_4, zsL_1, zsL_2, zsL_3, zsL_4, upd_s, upd_n, updL_s, updL_n]
      exact ⟨c1, c2, trivial, c4, c5, c6⟩
    · simp (disch := omega) only [zsS_1, zsS_2, zsS_3, zsS_4, zsL_1, zsL_2, zsL_3, zsL_4, upd_s, upd_n, updL_s, updL_n]
      exact ⟨c1, c2, c3, c4, c5, c6⟩
theorem zR_set {P : ZP} {s : Nat → Int32} {k : Nat} (v : Int32) (hk : k < 3) (hR : zR P s) : zR (P.1, upd P.2.1 k v, P.2.2) (upd s (434 + k) v) := by
  have hsets := zR_sets (P := P) (P' := (P.1, upd P.2.1 k v, P.2.2)) (s := s) (s' := upd s (434 + k) v) (fun j hj => upd_n _ _ (by omega)) hR (fun j hj => rfl)
  obtain ⟨-, -, -, -, r5, r6, ⟨r7, r8, r9, r10⟩, r11⟩ := hR
  refine ⟨hsets.1, hsets.2.1, hsets.2.2.1, hsets.2.2.2, fun l hl => ?_, fun q hq => ?_, ⟨?_, ?_, ?_, ?_⟩, fun q hq => ?_⟩
  · rw [upd_n _ _ (by omega)]; exact r5 l hl
  · by_cases hqk : q = k
    · subst hqk; show upd P.2.1 q v q = _; rw [upd_s, upd_s]
    · show upd P.2.1 k v q = _; rw [upd_n _ _ hqk, upd_n _ _ (by omega)]; exact r6 q hq
  · rw [upd_n _ _ (by omega)]; exact r7
  · rw [upd_n _ _ (by omega)]; exact r8
  · rw [upd_n _ _ (by omega)]; exact r9
  · rw [upd_n _ _ (by omega)]; exact r10
  · obtain ⟨c1, c2, c3, c4, c5, c6⟩ := r11 q hq
    rw [upd_n _ _ (by omega), upd_n _ _ (by omega), upd_n _ _ (by omega), upd_n _ _ (by omega), upd_n _ _ (by omega), upd_n _ _ (by omega)]
    exact ⟨c1, c2, c3, c4, c5, c6⟩
