/-! ===== the catchers' code words: by program (wip/tools/gen_hl.py) ===== -/
def xh4 (μ : Nat) : List (Nat × Nat × Nat × Nat) := (xhs xHL μ).map (fun q => (q.1, q.2.1, q.2.2.1, q.2.2.2.1))
def xMP2 (f : xMe × Nat) : Prop := f.1.2.2.2.2.2.2.2 = 2 → Cond.codeWith f.1.1 f.1.2.1 f.1.2.2.1 f.1.2.2.2.1 (xh4 f.2) ∈ lw_tbl
set_option maxRecDepth 100000 in
theorem xw2_L_count : lw_tbl[519]? = some (.codeWith ⟨"CarvedRinksLaw", "count", "(LCarvedRinks;I)I"⟩ cL_count 3 (some .int) (xh4 80)) := rfl
set_option maxRecDepth 100000 in
theorem xw2_L_play : lw_tbl[595]? = some (.codeWith ⟨"CarvedRinksLaw", "play", "(LCarvedRinks;)I"⟩ cL_play 2 (some .int) (xh4 82)) := rfl
set_option maxRecDepth 100000 in
theorem xw2_L_goBack : lw_tbl[626]? = some (.codeWith ⟨"CarvedRinksLaw", "goBack", "(LCarvedRinks;)I"⟩ cL_goBack 2 (some .int) (xh4 89)) := rfl
set_option maxRecDepth 100000 in
theorem xw2_L_undo : lw_tbl[650]? = some (.codeWith ⟨"CarvedRinksLaw", "undo", "(LCarvedRinks;)I"⟩ cL_undo 2 (some .int) (xh4 91)) := rfl
set_option maxRecDepth 100000 in
theorem xw2_L_best : lw_tbl[662]? = some (.codeWith ⟨"CarvedRinksLaw", "best", "(LCarvedRinks;I)I"⟩ cL_best 3 (some .int) (xh4 94)) := rfl
set_option maxRecDepth 100000 in
theorem xw2_L_hole : lw_tbl[697]? = some (.codeWith ⟨"CarvedRinksLaw", "hole", "(LCarvedRinks;II)I"⟩ cL_hole 4 (some .int) (xh4 99)) := rfl
set_option maxRecDepth 100000 in
theorem xw2_L_pay : lw_tbl[708]? = some (.codeWith ⟨"CarvedRinksLaw", "pay", "(LCarvedRinks;II)I"⟩ cL_pay 4 (some .int) (xh4 101)) := rfl
set_option maxRecDepth 100000 in
theorem xw2_L_set : lw_tbl[717]? = some (.codeWith ⟨"CarvedRinksLaw", "set", "(LCarvedRinks;II)I"⟩ cL_set 4 (some .int) (xh4 103)) := rfl
set_option maxRecDepth 100000 in
theorem xw2_L_append : lw_tbl[739]? = some (.codeWith ⟨"CarvedRinksLaw", "append", "(LCarvedRinks;I)I"⟩ cL_append 3 (some .int) (xh4 109)) := rfl
set_option maxRecDepth 100000 in
theorem xw2_L_glide : lw_tbl[756]? = some (.codeWith ⟨"CarvedRinksLaw", "glide", "(LCarvedRinks;III)I"⟩ cL_glide 5 (some .int) (xh4 113)) := rfl
set_option maxRecDepth 100000 in
theorem xw2_L_pond : lw_tbl[774]? = some (.codeWith ⟨"CarvedRinksLaw", "pond", "(LCarvedRinks;III)I"⟩ cL_pond 5 (some .int) (xh4 118)) := rfl
set_option maxRecDepth 100000 in
theorem xw2_L_line : lw_tbl[781]? = some (.codeWith ⟨"CarvedRinksLaw", "line", "(LCarvedRinks;IIII)I"⟩ cL_line 6 (some .int) (xh4 120)) := rfl
set_option maxRecDepth 100000 in
theorem xw2_L_rink : lw_tbl[793]? = some (.codeWith ⟨"CarvedRinksLaw", "rink", "(LCarvedRinks;II)I"⟩ cL_rink 4 (some .int) (xh4 123)) := rfl
set_option maxRecDepth 100000 in
theorem xw2_L_skater : lw_tbl[805]? = some (.codeWith ⟨"CarvedRinksLaw", "skater", "(LCarvedRinks;II)I"⟩ cL_skater 4 (some .int) (xh4 126)) := rfl
set_option maxRecDepth 100000 in
theorem xw2_L_why : lw_tbl[812]? = some (.codeWith ⟨"CarvedRinksLaw", "why", "(LCarvedRinks;II)I"⟩ cL_why 4 (some .int) (xh4 128)) := rfl
set_option maxRecDepth 100000 in
theorem xw2_L_ifGlided : lw_tbl[820]? = some (.codeWith ⟨"CarvedRinksLaw", "ifGlided", "(LCarvedRinks;IIII)I"⟩ cL_ifGlided 6 (some .int) (xh4 130)) := rfl
set_option maxRecDepth 100000 in
theorem xw2_L_setting : lw_tbl[833]? = some (.codeWith ⟨"CarvedRinksLaw", "setting", "(LCarvedRinks;I)I"⟩ cL_setting 3 (some .int) (xh4 133)) := rfl
def xk2 : List Nat := [80, 82, 89, 91, 94, 99, 101, 103, 109, 113, 118, 120, 123, 126, 128, 130, 133]
set_option maxRecDepth 100000 in
theorem xk2_all : (List.range 300).all (fun μ => match xM[μ]? with | some e => decide (e.2.2.2.2.2.2.2 ≠ 2) || decide (μ ∈ xk2) | none => true) = true := by decide +kernel
theorem xM2_ok {μ : Nat} {f : xMe} (h : xM[μ]? = some f) (hk : f.2.2.2.2.2.2.2 = 2) : Cond.codeWith f.1 f.2.1 f.2.2.1 f.2.2.2.1 (xh4 μ) ∈ lw_tbl := by
  have hl : μ < 300 := Nat.lt_of_lt_of_le (List.getElem?_eq_some_iff.mp h).1 xM_len
  have h1 := xall xk2_all (List.mem_range.mpr hl)
  simp only [h, Bool.or_eq_true, decide_eq_true_eq] at h1
  rcases h1 with h1 | h1
  · exact absurd hk h1
  simp only [xk2, List.mem_cons, List.mem_nil_iff, or_false] at h1
  rcases h1 with rfl | rfl | rfl | rfl | rfl | rfl | rfl | rfl | rfl | rfl | rfl | rfl | rfl | rfl | rfl | rfl | rfl
  · have e : f = _ := Option.some.inj (h.symm.trans xe_L_count)
    rw [e]
    exact List.mem_of_getElem? xw2_L_count
  · have e : f = _ := Option.some.inj (h.symm.trans xe_L_play)
    rw [e]
    exact List.mem_of_getElem? xw2_L_play
  · have e : f = _ := Option.some.inj (h.symm.trans xe_L_goBack)
    rw [e]
    exact List.mem_of_getElem? xw2_L_goBack
  · have e : f = _ := Option.some.inj (h.symm.trans xe_L_undo)
    rw [e]
    exact List.mem_of_getElem? xw2_L_undo
  · have e : f = _ := Option.some.inj (h.symm.trans xe_L_best)
    rw [e]
    exact List.mem_of_getElem? xw2_L_best
  · have e : f = _ := Option.some.inj (h.symm.trans xe_L_hole)
    rw [e]
    exact List.mem_of_getElem? xw2_L_hole
  · have e : f = _ := Option.some.inj (h.symm.trans xe_L_pay)
    rw [e]
    exact List.mem_of_getElem? xw2_L_pay
  · have e : f = _ := Option.some.inj (h.symm.trans xe_L_set)
    rw [e]
    exact List.mem_of_getElem? xw2_L_set
  · have e : f = _ := Option.some.inj (h.symm.trans xe_L_append)
    rw [e]
    exact List.mem_of_getElem? xw2_L_append
  · have e : f = _ := Option.some.inj (h.symm.trans xe_L_glide)
    rw [e]
    exact List.mem_of_getElem? xw2_L_glide
  · have e : f = _ := Option.some.inj (h.symm.trans xe_L_pond)
    rw [e]
    exact List.mem_of_getElem? xw2_L_pond
  · have e : f = _ := Option.some.inj (h.symm.trans xe_L_line)
    rw [e]
    exact List.mem_of_getElem? xw2_L_line
  · have e : f = _ := Option.some.inj (h.symm.trans xe_L_rink)
    rw [e]
    exact List.mem_of_getElem? xw2_L_rink
  · have e : f = _ := Option.some.inj (h.symm.trans xe_L_skater)
    rw [e]
    exact List.mem_of_getElem? xw2_L_skater
  · have e : f = _ := Option.some.inj (h.symm.trans xe_L_why)
    rw [e]
    exact List.mem_of_getElem? xw2_L_why
  · have e : f = _ := Option.some.inj (h.symm.trans xe_L_ifGlided)
    rw [e]
    exact List.mem_of_getElem? xw2_L_ifGlided
  · have e : f = _ := Option.some.inj (h.symm.trans xe_L_setting)
    rw [e]
    exact List.mem_of_getElem? xw2_L_setting
def xHc (q : Nat × Nat × Nat × Nat × Nat) : Bool := decide (Cond.classLink "CarvedRinksLaw" q.2.2.2.1 (xXI q.2.2.2.2).1 ∈ lw_tbl) && goodWord (Cond.classLink "CarvedRinksLaw" q.2.2.2.1 (xXI q.2.2.2.2).1) && decide (q.2.2.2.1 ≠ 0) && decide (q.2.2.2.2 < 3)
set_option maxRecDepth 100000 in
theorem xHc_all : xHL.all (fun q => q.2.all xHc) = true := by decide +kernel
theorem xhs_mem : ∀ (l : List (Nat × List (Nat × Nat × Nat × Nat × Nat))) (μ : Nat) (q : Nat × Nat × Nat × Nat × Nat), q ∈ xhs l μ → ∃ r ∈ l, q ∈ r.2
  | [], _, _, h => by simp [xhs] at h
  | a :: l, μ, q, h => by
    unfold xhs at h
    split at h
    · exact ⟨a, List.mem_cons_self, h⟩
    · obtain ⟨r, h1, h2⟩ := xhs_mem l μ q h
      exact ⟨r, List.mem_cons_of_mem _ h1, h2⟩
theorem xHc_ok {μ : Nat} {q : Nat × Nat × Nat × Nat × Nat} (h : q ∈ xhs xHL μ) : Cond.classLink "CarvedRinksLaw" q.2.2.2.1 (xXI q.2.2.2.2).1 ∈ xWS ∧ q.2.2.2.1 ≠ 0 ∧ q.2.2.2.2 < 3 := by
  obtain ⟨r, h1, h2⟩ := xhs_mem _ _ _ h
  have h3 := xall (xall xHc_all h1) h2
  simp only [xHc, Bool.and_eq_true, decide_eq_true_eq] at h3
  exact ⟨List.mem_filter.mpr h3.1.1, h3.1.2, h3.2⟩
theorem xhd_s : ∀ (l : List (Nat × Nat × Nat × Nat × Nat)) (pc x h : Nat), xhd l pc x = some h → ∃ pre q suf, l = pre ++ q :: suf ∧ (q.1 ≤ pc ∧ pc < q.2.1) ∧ q.2.2.2.2 = x ∧ q.2.2.1 = h ∧ ∀ z ∈ pre, ¬ (z.1 ≤ pc ∧ pc < z.2.1) ∨ z.2.2.2.2 ≠ x
  | [], _, _, _, h => by simp [xhd] at h
  | a :: l, pc, x, hh, h => by
    unfold xhd at h
    split at h
    · next c =>
      cases h
      exact ⟨[], a, l, rfl, ⟨c.1, c.2.1⟩, c.2.2, rfl, fun z hz => by cases hz⟩
    · next c =>
      obtain ⟨pre, q, suf, rfl, h1, h2, h3, h4⟩ := xhd_s l pc x hh h
      refine ⟨a :: pre, q, suf, rfl, h1, h2, h3, fun z hz => ?_⟩
      rcases List.mem_cons.mp hz with rfl | hz
      · by_cases w : z.1 ≤ pc ∧ pc < z.2.1
        · exact Or.inr (fun e => c ⟨w.1, w.2, e⟩)
        · exact Or.inl w
      · exact h4 z hz
