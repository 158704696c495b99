/-! ===== a step keeps what is old: by program (wip/tools/gen_run.py) ===== -/
theorem xext_up {σ : xS} {a : Nat} {d d' : xC} (hWF : xWF σ) (h : σ.1 a = some d) (h9 : ∀ x, d ≠ .inl (9, x)) (h9' : ∀ x, d' ≠ .inl (9, x)) : xExt σ (hup σ a d') ∧ xWF (hup σ a d') := by
  obtain ⟨ha, -, -⟩ := xW_get (B := 0) (b := 0) (cA := fun _ => 0) hWF h h9
  refine ⟨⟨?_, Nat.le_refl _, Nat.le_refl _, Nat.le_refl _⟩, xWF_up hWF ha h9'⟩
  have : ¬ (1000 = a) := by have := hWF.1; omega
  simp [hup, this]
theorem xext_new {σ : xS} {d : xC} {sl : Nat} (hWF : xWF σ) (hn : σ.2.1 < 999) (h9 : ∀ x, d ≠ .inl (9, x)) : xExt σ (hnew σ d sl) ∧ xWF (hnew σ d sl) := by
  refine ⟨⟨?_, Nat.le_succ _, Nat.le_refl _, Nat.le_add_right _ _⟩, xWF_new hWF hn h9⟩
  have : ¬ (1000 = σ.2.1) := by omega
  simp [hnew, this]
set_option maxHeartbeats 4000000 in
set_option maxRecDepth 100000 in
theorem xext {en : xMe} {pc pc' len : Nat} {i : Instr} {ls ls' : xL} {st st' : List Value} {σ σ' : xS} (hWF : xWF σ) (h : xDo en pc ls st σ i len = some (.inl (pc', ls', st', σ'))) : xExt σ σ' ∧ xWF σ' := by
  unfold xDo at h
  split at h
  · obtain ⟨rfl, rfl, rfl, rfl⟩ := xnx_s h
    exact ⟨xExt.rf, hWF⟩
  · obtain ⟨rfl, rfl, rfl, rfl⟩ := xnx_s h
    exact ⟨xExt.rf, hWF⟩
  · obtain ⟨rfl, rfl, rfl, rfl⟩ := xnx_s h
    exact ⟨xExt.rf, hWF⟩
  · obtain ⟨rfl, rfl, rfl, rfl⟩ := xnx_s h
    exact ⟨xExt.rf, hWF⟩
  · obtain ⟨e_q, h1⟩ := ite_s h; subst e_q
    obtain ⟨rfl, rfl, rfl, rfl⟩ := xnx_s h1
    exact ⟨xExt.rf, hWF⟩
  · split at h
    · next q => subst q; obtain ⟨rfl, rfl, rfl, rfl⟩ := xnx_s h; exact ⟨xExt.rf, hWF⟩
    · obtain ⟨e_q, h1⟩ := ite_s h; subst e_q; obtain ⟨rfl, rfl, rfl, rfl⟩ := xnx_s h1; exact ⟨xExt.rf, hWF⟩
  · obtain ⟨q, hq, h1⟩ := bind_s h
    obtain ⟨q1, q2⟩ := q
    dsimp only at h1
    split at h1
    · obtain ⟨rfl, rfl, rfl, rfl⟩ := xnx_s h1; exact ⟨xExt.rf, hWF⟩
    · cases h1
  · obtain ⟨q, hq, h1⟩ := bind_s h
    obtain ⟨q1, q2⟩ := q
    dsimp only at h1
    split at h1
    · obtain ⟨rfl, rfl, rfl, rfl⟩ := xnx_s h1; exact ⟨xExt.rf, hWF⟩
    · obtain ⟨rfl, rfl, rfl, rfl⟩ := xnx_s h1; exact ⟨xExt.rf, hWF⟩
    · cases h1
  · obtain ⟨x, hg, h1⟩ := gI_s h
    obtain ⟨rfl, rfl, rfl, rfl⟩ := xnx_s h1
    exact ⟨xExt.rf, hWF⟩
  · obtain ⟨x, hg, h1⟩ := gI_s h
    obtain ⟨rfl, rfl, rfl, rfl⟩ := xnx_s h1
    exact ⟨xExt.rf, hWF⟩
  · obtain ⟨x, hg, h1⟩ := gL_s h
    obtain ⟨rfl, rfl, rfl, rfl⟩ := xnx_s h1
    exact ⟨xExt.rf, hWF⟩
  · obtain ⟨x, hg, h1⟩ := gL_s h
    obtain ⟨rfl, rfl, rfl, rfl⟩ := xnx_s h1
    exact ⟨xExt.rf, hWF⟩
  · obtain ⟨x, hg, h1⟩ := gF_s h
    obtain ⟨rfl, rfl, rfl, rfl⟩ := xnx_s h1
    exact ⟨xExt.rf, hWF⟩
  · obtain ⟨x, hg, h1⟩ := gD_s h
    obtain ⟨rfl, rfl, rfl, rfl⟩ := xnx_s h1
    exact ⟨xExt.rf, hWF⟩
  · obtain ⟨x, hg, h1⟩ := gD_s h
    obtain ⟨rfl, rfl, rfl, rfl⟩ := xnx_s h1
    exact ⟨xExt.rf, hWF⟩
  · obtain ⟨x, hg, h1⟩ := gA_s h
    obtain ⟨rfl, rfl, rfl, rfl⟩ := xnx_s h1
    exact ⟨xExt.rf, hWF⟩
  · obtain ⟨x, hg, h1⟩ := gA_s h
    obtain ⟨rfl, rfl, rfl, rfl⟩ := xnx_s h1
    exact ⟨xExt.rf, hWF⟩
  · obtain ⟨x, r_x, e_x, h1⟩ := pI_s h; subst e_x
    obtain ⟨l2, hg, h2⟩ := bind_s h1
    obtain ⟨rfl, rfl, rfl, rfl⟩ := xnx_s h2
    exact ⟨xExt.rf, hWF⟩
  · obtain ⟨x, r_x, e_x, h1⟩ := pI_s h; subst e_x
    obtain ⟨l2, hg, h2⟩ := bind_s h1
    obtain ⟨rfl, rfl, rfl, rfl⟩ := xnx_s h2
    exact ⟨xExt.rf, hWF⟩
  · obtain ⟨x, r_x, e_x, h1⟩ := pL_s h; subst e_x
    obtain ⟨l2, hg, h2⟩ := bind_s h1
    obtain ⟨rfl, rfl, rfl, rfl⟩ := xnx_s h2
    exact ⟨xExt.rf, hWF⟩
  · obtain ⟨x, r_x, e_x, h1⟩ := pL_s h; subst e_x
    obtain ⟨l2, hg, h2⟩ := bind_s h1
    obtain ⟨rfl, rfl, rfl, rfl⟩ := xnx_s h2
    exact ⟨xExt.rf, hWF⟩
  · obtain ⟨x, r_x, e_x, h1⟩ := pD_s h; subst e_x
    obtain ⟨l2, hg, h2⟩ := bind_s h1
    obtain ⟨rfl, rfl, rfl, rfl⟩ := xnx_s h2
    exact ⟨xExt.rf, hWF⟩
  · obtain ⟨x, r_x, e_x, h1⟩ := pA_s h; subst e_x
    obtain ⟨l2, hg, h2⟩ := bind_s h1
    obtain ⟨rfl, rfl, rfl, rfl⟩ := xnx_s h2
    exact ⟨xExt.rf, hWF⟩
  · obtain ⟨x, r_x, e_x, h1⟩ := pA_s h; subst e_x
    obtain ⟨l2, hg, h2⟩ := bind_s h1
    obtain ⟨rfl, rfl, rfl, rfl⟩ := xnx_s h2
    exact ⟨xExt.rf, hWF⟩
  · obtain ⟨x, hx0, h1⟩ := gI_s h
    obtain ⟨l2, hg, h2⟩ := bind_s h1
    obtain ⟨rfl, rfl, rfl, rfl⟩ := xnx_s h2
    exact ⟨xExt.rf, hWF⟩
  · obtain ⟨y, r_y, e_y, h1⟩ := pI_s h; subst e_y
    obtain ⟨x, r_x, e_x, h2⟩ := pI_s h1; subst e_x
    obtain ⟨rfl, rfl, rfl, rfl⟩ := xnx_s h2
    exact ⟨xExt.rf, hWF⟩
  · obtain ⟨y, r_y, e_y, h1⟩ := pI_s h; subst e_y
    obtain ⟨x, r_x, e_x, h2⟩ := pI_s h1; subst e_x
    obtain ⟨rfl, rfl, rfl, rfl⟩ := xnx_s h2
    exact ⟨xExt.rf, hWF⟩
  · obtain ⟨y, r_y, e_y, h1⟩ := pI_s h; subst e_y
    obtain ⟨x, r_x, e_x, h2⟩ := pI_s h1; subst e_x
    obtain ⟨rfl, rfl, rfl, rfl⟩ := xnx_s h2
    exact ⟨xExt.rf, hWF⟩
  · obtain ⟨y, r_y, e_y, h1⟩ := pI_s h; subst e_y
    obtain ⟨x, r_x, e_x, h2⟩ := pI_s h1; subst e_x
    split at h2
    · cases h2
    · next hy => obtain ⟨rfl, rfl, rfl, rfl⟩ := xnx_s h2; exact ⟨xExt.rf, hWF⟩
  · obtain ⟨y, r_y, e_y, h1⟩ := pI_s h; subst e_y
    obtain ⟨x, r_x, e_x, h2⟩ := pI_s h1; subst e_x
    split at h2
    · cases h2
    · next hy => obtain ⟨rfl, rfl, rfl, rfl⟩ := xnx_s h2; exact ⟨xExt.rf, hWF⟩
  · obtain ⟨y, r_y, e_y, h1⟩ := pI_s h; subst e_y
    obtain ⟨x, r_x, e_x, h2⟩ := pI_s h1; subst e_x
    obtain ⟨rfl, rfl, rfl, rfl⟩ := xnx_s h2
    exact ⟨xExt.rf, hWF⟩
  · obtain ⟨y, r_y, e_y, h1⟩ := pI_s h; subst e_y
    obtain ⟨x, r_x, e_x, h2⟩ := pI_s h1; subst e_x
    obtain ⟨rfl, rfl, rfl, rfl⟩ := xnx_s h2
    exact ⟨xExt.rf, hWF⟩
  · obtain ⟨y, r_y, e_y, h1⟩ := pL_s h; subst e_y
    obtain ⟨x, r_x, e_x, h2⟩ := pL_s h1; subst e_x
    obtain ⟨rfl, rfl, rfl, rfl⟩ := xnx_s h2
    exact ⟨xExt.rf, hWF⟩
  · obtain ⟨y, r_y, e_y, h1⟩ := pL_s h; subst e_y
    obtain ⟨x, r_x, e_x, h2⟩ := pL_s h1; subst e_x
    obtain ⟨rfl, rfl, rfl, rfl⟩ := xnx_s h2
    exact ⟨xExt.rf, hWF⟩
  · obtain ⟨y, r_y, e_y, h1⟩ := pL_s h; subst e_y
    obtain ⟨x, r_x, e_x, h2⟩ := pL_s h1; subst e_x
    obtain ⟨rfl, rfl, rfl, rfl⟩ := xnx_s h2
    exact ⟨xExt.rf, hWF⟩
  · obtain ⟨y, r_y, e_y, h1⟩ := pL_s h; subst e_y
    obtain ⟨x, r_x, e_x, h2⟩ := pL_s h1; subst e_x
    obtain ⟨rfl, rfl, rfl, rfl⟩ := xnx_s h2
    exact ⟨xExt.rf, hWF⟩
  · obtain ⟨y, r_y, e_y, h1⟩ := pL_s h; subst e_y
    obtain ⟨x, r_x, e_x, h2⟩ := pL_s h1; subst e_x
    obtain ⟨rfl, rfl, rfl, rfl⟩ := xnx_s h2
    exact ⟨xExt.rf, hWF⟩
  · obtain ⟨y, r_y, e_y, h1⟩ := pL_s h; subst e_y
    obtain ⟨x, r_x, e_x, h2⟩ := pL_s h1; subst e_x
    obtain ⟨rfl, rfl, rfl, rfl⟩ := xnx_s h2
    exact ⟨xExt.rf, hWF⟩
  · obtain ⟨x, r_x, e_x, h1⟩ := pL_s h; subst e_x
    obtain ⟨rfl, rfl, rfl, rfl⟩ := xnx_s h1
    exact ⟨xExt.rf, hWF⟩
  · obtain ⟨y, r_y, e_y, h1⟩ := pI_s h; subst e_y
    obtain ⟨x, r_x, e_x, h2⟩ := pL_s h1; subst e_x
    obtain ⟨rfl, rfl, rfl, rfl⟩ := xnx_s h2
    exact ⟨xExt.rf, hWF⟩
  · obtain ⟨y, r_y, e_y, h1⟩ := pI_s h; subst e_y
    obtain ⟨x, r_x, e_x, h2⟩ := pL_s h1; subst e_x
    obtain ⟨rfl, rfl, rfl, rfl⟩ := xnx_s h2
    exact ⟨xExt.rf, hWF⟩
  · obtain ⟨y, r_y, e_y, h1⟩ := pL_s h; subst e_y
    obtain ⟨x, r_x, e_x, h2⟩ := pL_s h1; subst e_x
    obtain ⟨rfl, rfl, rfl, rfl⟩ := xnx_s h2
    exact ⟨xExt.rf, hWF⟩
  · obtain ⟨x, r_x, e_x, h1⟩ := pI_s h; subst e_x
    obtain ⟨rfl, rfl, rfl, rfl⟩ := xnx_s h1
    exact ⟨xExt.rf, hWF⟩
  · obtain ⟨x, r_x, e_x, h1⟩ := pL_s h; subst e_x
    obtain ⟨rfl, rfl, rfl, rfl⟩ := xnx_s h1
    exact ⟨xExt.rf, hWF⟩
  · obtain ⟨x, r_x, e_x, h1⟩ := pI_s h; subst e_x
    obtain ⟨rfl, rfl, rfl, rfl⟩ := xnx_s h1
    exact ⟨xExt.rf, hWF⟩
  · obtain ⟨x, r_x, e_x, h1⟩ := pI_s h; subst e_x
    obtain ⟨rfl, rfl, rfl, rfl⟩ := xnx_s h1
    exact ⟨xExt.rf, hWF⟩
  · obtain ⟨x, r_x, e_x, h1⟩ := pL_s h; subst e_x
    obtain ⟨rfl, rfl, rfl, rfl⟩ := xnx_s h1
    exact ⟨xExt.rf, hWF⟩
  · obtain ⟨x, r_x, e_x, h1⟩ := pD_s h; subst e_x
    obtain ⟨rfl, rfl, rfl, rfl⟩ := xnx_s h1
    exact ⟨xExt.rf, hWF⟩
  · obtain ⟨x, r_x, e_x, h1⟩ := pF_s h; subst e_x
    obtain ⟨hn, h2⟩ := ite_s h1
    obtain ⟨rfl, rfl, rfl, rfl⟩ := xnx_s h2
    exact ⟨xExt.rf, hWF⟩
  · obtain ⟨y, r_y, e_y, h1⟩ := pF_s h; subst e_y
    obtain ⟨x, r_x, e_x, h2⟩ := pF_s h1; subst e_x
    obtain ⟨hn, h3⟩ := ite_s h2
    obtain ⟨rfl, rfl, rfl, rfl⟩ := xnx_s h3
    exact ⟨xExt.rf, hWF⟩
  · obtain ⟨y, r_y, e_y, h1⟩ := pD_s h; subst e_y
    obtain ⟨x, r_x, e_x, h2⟩ := pD_s h1; subst e_x
    obtain ⟨hn, h3⟩ := ite_s h2
    obtain ⟨rfl, rfl, rfl, rfl⟩ := xnx_s h3
    exact ⟨xExt.rf, hWF⟩
  · obtain ⟨y, r_y, e_y, h1⟩ := pD_s h; subst e_y
    obtain ⟨x, r_x, e_x, h2⟩ := pD_s h1; subst e_x
    obtain ⟨hn, h3⟩ := ite_s h2
    obtain ⟨rfl, rfl, rfl, rfl⟩ := xnx_s h3
    exact ⟨xExt.rf, hWF⟩
  · obtain ⟨y, r_y, e_y, h1⟩ := pD_s h; subst e_y
    obtain ⟨x, r_x, e_x, h2⟩ := pD_s h1; subst e_x
    obtain ⟨hn, h3⟩ := ite_s h2
    obtain ⟨rfl, rfl, rfl, rfl⟩ := xnx_s h3
    exact ⟨xExt.rf, hWF⟩
  · obtain ⟨y, r_y, e_y, h1⟩ := pF_s h; subst e_y
    obtain ⟨x, r_x, e_x, h2⟩ := pF_s h1; subst e_x
    obtain ⟨rfl, rfl, rfl, rfl⟩ := xnx_s h2
    exact ⟨xExt.rf, hWF⟩
  · obtain ⟨y, r_y, e_y, h1⟩ := pD_s h; subst e_y
    obtain ⟨x, r_x, e_x, h2⟩ := pD_s h1; subst e_x
    obtain ⟨rfl, rfl, rfl, rfl⟩ := xnx_s h2
    exact ⟨xExt.rf, hWF⟩
  · obtain ⟨v, r_v, e_v, h1⟩ := pV_s h; subst e_v
    obtain ⟨hv, h2⟩ := ite_s h1
    obtain ⟨rfl, rfl, rfl, rfl⟩ := xnx_s h2
    exact ⟨xExt.rf, hWF⟩
  · obtain ⟨v, r_v, e_v, h1⟩ := pV_s h; subst e_v
    obtain ⟨hv, h2⟩ := ite_s h1
    obtain ⟨rfl, rfl, rfl, rfl⟩ := xnx_s h2
    exact ⟨xExt.rf, hWF⟩
  · obtain ⟨v, r_v, e_v, h1⟩ := pV_s h; subst e_v
    split at h1
    · next hv => obtain ⟨rfl, rfl, rfl, rfl⟩ := xnx_s h1; exact ⟨xExt.rf, hWF⟩
    · obtain ⟨w, r_w, e_w, h2⟩ := pV_s h1; subst e_w; obtain ⟨⟨hv, hw⟩, h3⟩ := ite_s h2; obtain ⟨rfl, rfl, rfl, rfl⟩ := xnx_s h3; exact ⟨xExt.rf, hWF⟩
  · obtain ⟨ht, rfl, rfl, rfl⟩ := xgo_s h
    exact ⟨xExt.rf, hWF⟩
  · obtain ⟨x, r_x, e_x, h1⟩ := pI_s h; subst e_x
    obtain ⟨rfl, rfl, rfl, t, ht, rfl⟩ := xIf_s h1
    exact ⟨xExt.rf, hWF⟩
  · obtain ⟨x, r_x, e_x, h1⟩ := pI_s h; subst e_x
    obtain ⟨rfl, rfl, rfl, t, ht, rfl⟩ := xIf_s h1
    exact ⟨xExt.rf, hWF⟩
  · obtain ⟨x, r_x, e_x, h1⟩ := pI_s h; subst e_x
    obtain ⟨rfl, rfl, rfl, t, ht, rfl⟩ := xIf_s h1
    exact ⟨xExt.rf, hWF⟩
  · obtain ⟨x, r_x, e_x, h1⟩ := pI_s h; subst e_x
    obtain ⟨rfl, rfl, rfl, t, ht, rfl⟩ := xIf_s h1
    exact ⟨xExt.rf, hWF⟩
  · obtain ⟨x, r_x, e_x, h1⟩ := pI_s h; subst e_x
    obtain ⟨rfl, rfl, rfl, t, ht, rfl⟩ := xIf_s h1
    exact ⟨xExt.rf, hWF⟩
  · obtain ⟨x, r_x, e_x, h1⟩ := pI_s h; subst e_x
    obtain ⟨rfl, rfl, rfl, t, ht, rfl⟩ := xIf_s h1
    exact ⟨xExt.rf, hWF⟩
  · obtain ⟨y, r_y, e_y, h1⟩ := pI_s h; subst e_y
    obtain ⟨x, r_x, e_x, h2⟩ := pI_s h1; subst e_x
    obtain ⟨rfl, rfl, rfl, t, ht, rfl⟩ := xIf_s h2
    exact ⟨xExt.rf, hWF⟩
  · obtain ⟨y, r_y, e_y, h1⟩ := pI_s h; subst e_y
    obtain ⟨x, r_x, e_x, h2⟩ := pI_s h1; subst e_x
    obtain ⟨rfl, rfl, rfl, t, ht, rfl⟩ := xIf_s h2
    exact ⟨xExt.rf, hWF⟩
  · obtain ⟨y, r_y, e_y, h1⟩ := pI_s h; subst e_y
    obtain ⟨x, r_x, e_x, h2⟩ := pI_s h1; subst e_x
    obtain ⟨rfl, rfl, rfl, t, ht, rfl⟩ := xIf_s h2
    exact ⟨xExt.rf, hWF⟩
  · obtain ⟨y, r_y, e_y, h1⟩ := pI_s h; subst e_y
    obtain ⟨x, r_x, e_x, h2⟩ := pI_s h1; subst e_x
    obtain ⟨rfl, rfl, rfl, t, ht, rfl⟩ := xIf_s h2
    exact ⟨xExt.rf, hWF⟩
  · obtain ⟨y, r_y, e_y, h1⟩ := pI_s h; subst e_y
    obtain ⟨x, r_x, e_x, h2⟩ := pI_s h1; subst e_x
    obtain ⟨rfl, rfl, rfl, t, ht, rfl⟩ := xIf_s h2
    exact ⟨xExt.rf, hWF⟩
  · obtain ⟨y, r_y, e_y, h1⟩ := pI_s h; subst e_y
    obtain ⟨x, r_x, e_x, h2⟩ := pI_s h1; subst e_x
    obtain ⟨rfl, rfl, rfl, t, ht, rfl⟩ := xIf_s h2
    exact ⟨xExt.rf, hWF⟩
  · obtain ⟨x, r_x, e_x, h1⟩ := pI_s h; subst e_x
    split at h1
    · next q => obtain ⟨ht, rfl, rfl, rfl⟩ := xgo_s h1; exact ⟨xExt.rf, hWF⟩
    · next q => obtain ⟨o, ho, h2⟩ := bind_s h1; obtain ⟨ht, rfl, rfl, rfl⟩ := xgo_s h2; exact ⟨xExt.rf, hWF⟩
  · obtain ⟨x, r_x, e_x, h1⟩ := pI_s h; subst e_x
    obtain ⟨hp, h2⟩ := ite_s h1
    obtain ⟨ht, rfl, rfl, rfl⟩ := xgo_s h2
    exact ⟨xExt.rf, hWF⟩
  · obtain ⟨⟨ci, k2, pl⟩, hq, h1⟩ := bind_s h
    obtain ⟨a, r_a, e_a, h2⟩ := pA_s h1; subst e_a
    obtain ⟨v, hv, h3⟩ := bind_s h2
    obtain ⟨rfl, rfl, rfl, rfl⟩ := xnx_s h3
    exact ⟨xExt.rf, hWF⟩
  · obtain ⟨⟨ci, k2, pl⟩, hq, h1⟩ := bind_s h
    obtain ⟨v, r_v, e_v, h2⟩ := pV_s h1; subst e_v
    obtain ⟨a, r_a, e_a, h3⟩ := pA_s h2; subst e_a
    obtain ⟨ty, hty, h4⟩ := bind_s h3
    obtain ⟨⟨hfit, hfin⟩, h5⟩ := ite_s h4
    obtain ⟨σ2, hs2, h6⟩ := bind_s h5
    obtain ⟨rfl, rfl, rfl, rfl⟩ := xnx_s h6
    obtain ⟨fs, f1, f2, f3⟩ := hfst_s hs2; subst f3; exact xext_up hWF f1 (fun x z => by cases z) (fun x z => by cases z)
  · obtain ⟨i, r_i, e_i, h1⟩ := pI_s h; subst e_i
    obtain ⟨a, r_a, e_a, h2⟩ := pA_s h1; subst e_a
    split at h2
    · next q hq => obtain ⟨hi, h3⟩ := ite_s h2; obtain ⟨rfl, rfl, rfl, rfl⟩ := xnx_s h3; exact ⟨xExt.rf, hWF⟩
    · obtain ⟨q, hq, h3⟩ := bind_s h2; obtain ⟨⟨hx3, hi⟩, h4⟩ := ite_s h3; obtain ⟨rfl, rfl, rfl, rfl⟩ := xnx_s h4; exact ⟨xExt.rf, hWF⟩
  · obtain ⟨i, r_i, e_i, h1⟩ := pI_s h; subst e_i
    obtain ⟨a, r_a, e_a, h2⟩ := pA_s h1; subst e_a
    obtain ⟨q, hq, h3⟩ := bind_s h2
    obtain ⟨⟨hi, ht⟩, h4⟩ := ite_s h3
    obtain ⟨rfl, rfl, rfl, rfl⟩ := xnx_s h4
    exact ⟨xExt.rf, hWF⟩
  · obtain ⟨x, r_x, e_x, h1⟩ := pI_s h; subst e_x
    obtain ⟨i, r_i, e_i, h2⟩ := pI_s h1; subst e_i
    obtain ⟨a, r_a, e_a, h3⟩ := pA_s h2; subst e_a
    obtain ⟨q, hq, h4⟩ := bind_s h3
    obtain ⟨hi, h5⟩ := ite_s h4
    obtain ⟨rfl, rfl, rfl, rfl⟩ := xnx_s h5
    exact xext_up hWF (hint_s hq) (fun x z => by simp at z) (fun x z => by simp at z)
  · obtain ⟨v, r_v, e_v, h1⟩ := pA_s h; subst e_v
    obtain ⟨i, r_i, e_i, h2⟩ := pI_s h1; subst e_i
    obtain ⟨a, r_a, e_a, h3⟩ := pA_s h2; subst e_a
    obtain ⟨q, hq, h4⟩ := bind_s h3
    obtain ⟨⟨hi, hv⟩, h5⟩ := ite_s h4
    obtain ⟨rfl, rfl, rfl, rfl⟩ := xnx_s h5
    obtain ⟨ci, g1, g2⟩ := bind_s hv; have ht := xelt_s g2; exact xext_up hWF (href_s hq) (fun x z => by simp at z; omega) (fun x z => by simp at z; omega)
  · obtain ⟨a, r_a, e_a, h1⟩ := pA_s h; subst e_a
    obtain ⟨q, hq, h2⟩ := bind_s h1
    obtain ⟨hx3, h3⟩ := ite_s h2
    obtain ⟨rfl, rfl, rfl, rfl⟩ := xnx_s h3
    exact ⟨xExt.rf, hWF⟩
  · obtain ⟨n, r_n, e_n, h1⟩ := pI_s h; subst e_n
    obtain ⟨⟨hx0, hN, hg, hx9⟩, h2⟩ := ite_s h1
    obtain ⟨rfl, rfl, rfl, rfl⟩ := xnx_s h2
    
    exact xext_new hWF hx9 (fun x z => by simp at z)
  · obtain ⟨⟨ci, pl⟩, hq, h1⟩ := bind_s h
    obtain ⟨t, ht, h2⟩ := bind_s h1
    obtain ⟨n, r_n, e_n, h3⟩ := pI_s h2; subst e_n
    obtain ⟨⟨hx0, hN, hg, hx9⟩, h4⟩ := ite_s h3
    obtain ⟨rfl, rfl, rfl, rfl⟩ := xnx_s h4
    
    have ht := xelt_s ht; exact xext_new hWF hx9 (fun x z => by simp at z; omega)
  · split at h
    · next q hq => obtain ⟨ci, pl⟩ := q; obtain ⟨⟨hg, hx9⟩, h1⟩ := ite_s h; obtain ⟨rfl, rfl, rfl, rfl⟩ := xnx_s h1; exact xext_new hWF hx9 (fun x z => by simp at z)
    · obtain ⟨q, hq, h1⟩ := bind_s h; obtain ⟨hth, h2⟩ := ite_s h1; cases h2
  · obtain ⟨⟨kd, ν, n, p1, p2, p3, p4⟩, hq, h1⟩ := bind_s h
    dsimp only at h1
    split at h1
    · obtain ⟨w, -, h2⟩ := bind_s h1; obtain ⟨f, -, -, -, -, h3⟩ := xcal_s h2; cases h3
    · obtain ⟨w, -, h2⟩ := bind_s h1; obtain ⟨f, -, -, -, -, h3⟩ := xcal_s h2; cases h3
    · obtain ⟨w, -, h2⟩ := bind_s h1; obtain ⟨f, -, -, -, -, h3⟩ := xcal_s h2; cases h3
    · obtain ⟨w, -, h2⟩ := bind_s h1; obtain ⟨-, h3⟩ := ite_s h2; obtain ⟨f, -, -, -, -, h4⟩ := xcal_s h3; cases h4
    · obtain ⟨n1, r_n1, e_n1, h2⟩ := pI_s h1; subst e_n1; obtain ⟨dp, r_dp, e_dp, h3⟩ := pI_s h2; subst e_dp; obtain ⟨a, r_a, e_a, h4⟩ := pA_s h3; subst e_a; obtain ⟨sp, r_sp, e_sp, h5⟩ := pI_s h4; subst e_sp; obtain ⟨a0, r_a0, e_a0, h6⟩ := pA_s h5; subst e_a0; obtain ⟨q0, hq0, h7⟩ := bind_s h6; obtain ⟨q1, hq1, h8⟩ := bind_s h7; obtain ⟨hh, h9⟩ := ite_s h8; obtain ⟨rfl, rfl, rfl, rfl⟩ := xnx_s h9; exact xext_up hWF (hint_s hq1) (fun x z => by simp at z) (fun x z => by simp at z)
    · obtain ⟨y, r_y, e_y, h2⟩ := pI_s h1; subst e_y; obtain ⟨x, r_x, e_x, h3⟩ := pI_s h2; subst e_x; obtain ⟨hw, h4⟩ := ite_s h3; obtain ⟨rfl, rfl, rfl, rfl⟩ := xnx_s h4; exact ⟨xExt.rf, hWF⟩
    · obtain ⟨y, r_y, e_y, h2⟩ := pI_s h1; subst e_y; obtain ⟨x, r_x, e_x, h3⟩ := pI_s h2; subst e_x; obtain ⟨hw, h4⟩ := ite_s h3; obtain ⟨rfl, rfl, rfl, rfl⟩ := xnx_s h4; exact ⟨xExt.rf, hWF⟩
    · obtain ⟨x, r_x, e_x, h2⟩ := pD_s h1; subst e_x; obtain ⟨hw, h3⟩ := ite_s h2; obtain ⟨rfl, rfl, rfl, rfl⟩ := xnx_s h3; exact ⟨xExt.rf, hWF⟩
    · obtain ⟨x, r_x, e_x, h2⟩ := pF_s h1; subst e_x; obtain ⟨hw, h3⟩ := ite_s h2; obtain ⟨rfl, rfl, rfl, rfl⟩ := xnx_s h3; exact ⟨xExt.rf, hWF⟩
    · cases h1
  · obtain ⟨⟨kd, ν, n, p1, p2, p3, p4⟩, hq, h1⟩ := bind_s h
    dsimp only at h1
    split at h1
    · obtain ⟨w, -, h2⟩ := bind_s h1; obtain ⟨a, r_a, -, h3⟩ := pA_s h2; obtain ⟨f, -, h4⟩ := bind_s h3; obtain ⟨-, h5⟩ := ite_s h4; obtain ⟨f, -, -, -, -, h6⟩ := xcal_s h5; cases h6
    · obtain ⟨w, -, h2⟩ := bind_s h1; obtain ⟨a, r_a, -, h3⟩ := pA_s h2; obtain ⟨f, -, h4⟩ := bind_s h3; obtain ⟨-, h5⟩ := ite_s h4; obtain ⟨f, -, -, -, -, h6⟩ := xcal_s h5; cases h6
    · cases h1
  · obtain ⟨⟨kd, ν, n, p1, p2, p3, p4⟩, hq, h1⟩ := bind_s h
    dsimp only at h1
    split at h1
    · obtain ⟨w, -, h2⟩ := bind_s h1; obtain ⟨a, r_a, -, h3⟩ := pA_s h2; obtain ⟨f, -, -, -, -, h4⟩ := xcal_s h3; cases h4
    · obtain ⟨a, r_a, e_a, h2⟩ := pA_s h1; subst e_a; obtain ⟨hw, h3⟩ := ite_s h2; obtain ⟨rfl, rfl, rfl, rfl⟩ := xnx_s h3; exact ⟨xExt.rf, hWF⟩
    · cases h1
  · obtain ⟨x, r_x, e_x, h1⟩ := pI_s h; subst e_x
    obtain ⟨-, h2⟩ := pZ_s h1
    split at h2
    · cases h2
    · obtain ⟨-, h3⟩ := ite_s h2; cases h3
    · cases h2
  · obtain ⟨x, r_x, e_x, h1⟩ := pL_s h; subst e_x
    obtain ⟨-, h2⟩ := pZ_s h1
    split at h2
    · cases h2
    · cases h2
  · obtain ⟨x, r_x, e_x, h1⟩ := pF_s h; subst e_x
    obtain ⟨-, h2⟩ := pZ_s h1
    split at h2
    · cases h2
    · cases h2
  · obtain ⟨x, r_x, e_x, h1⟩ := pD_s h; subst e_x
    obtain ⟨-, h2⟩ := pZ_s h1
    split at h2
    · cases h2
    · cases h2
  · obtain ⟨-, h1⟩ := pZ_s h
    split at h1
    · cases h1
    · cases h1
  · cases h
