/-! ===== which instructions return, call, throw: by program (wip/tools/gen_inv.py) ===== -/
theorem xnx_n {pc : Nat} {ls : xL} {st : List Value} {σ : xS} {q : (Option Value × xS) ⊕ (Nat × List Value × Nat × xL × List Value × xS) ⊕ (Nat × xS)} : ¬ xnx pc ls st σ = some (.inr q) := by
  intro h; cases h
theorem xgo_n {pc : Nat} {off : Int} {ls : xL} {st : List Value} {σ : xS} {q : (Option Value × xS) ⊕ (Nat × List Value × Nat × xL × List Value × xS) ⊕ (Nat × xS)} : ¬ xgo pc off ls st σ = some (.inr q) := by
  intro h; unfold xgo at h; obtain ⟨-, h⟩ := ite_s h; cases h
theorem xIf_n {c : Prop} [Decidable c] {pc : Nat} {off : Int} {ls : xL} {st : List Value} {σ : xS} {q : (Option Value × xS) ⊕ (Nat × List Value × Nat × xL × List Value × xS) ⊕ (Nat × xS)} : ¬ xIf c pc off ls st σ = some (.inr q) := by
  intro h; unfold xIf at h; obtain ⟨-, h⟩ := ite_s h; cases h
set_option maxHeartbeats 4000000 in
set_option maxRecDepth 100000 in
theorem xret_s {en : xMe} {pc len : Nat} {i : Instr} {ls : xL} {st : List Value} {σ : xS} {v : Option Value} {τ : xS} (h : xDo en pc ls st σ i len = some (.inr (.inl (v, τ)))) : τ = σ ∧ ((i = .ireturn ∧ len = 1 ∧ ∃ x, st = [.int x] ∧ v = some (.int x) ∧ (en.2.2.2.1 = some .int ∨ (en.2.2.2.1 = some .boolean ∧ (x = 0 ∨ x = 1)))) ∨ (i = .lreturn ∧ len = 1 ∧ ∃ x, st = [.long x] ∧ v = some (.long x) ∧ en.2.2.2.1 = some .long) ∨ (i = .freturn ∧ len = 1 ∧ ∃ x, st = [.float x] ∧ v = some (.float x) ∧ en.2.2.2.1 = some .float) ∨ (i = .dreturn ∧ len = 1 ∧ ∃ x, st = [.double x] ∧ v = some (.double x) ∧ en.2.2.2.1 = some .double) ∨ (i = .return_ ∧ len = 1 ∧ st = [] ∧ v = none ∧ en.2.2.2.1 = none)) := by
  unfold xDo at h
  split at h
  · exact absurd h xnx_n
  · exact absurd h xnx_n
  · exact absurd h xnx_n
  · exact absurd h xnx_n
  · obtain ⟨e_q, h1⟩ := ite_s h; subst e_q
    exact absurd h1 xnx_n
  · split at h
    · next q => subst q; exact absurd h xnx_n
    · obtain ⟨e_q, h1⟩ := ite_s h; subst e_q; exact absurd h1 xnx_n
  · obtain ⟨q, hq, h1⟩ := bind_s h
    obtain ⟨q1, q2⟩ := q
    dsimp only at h1
    split at h1
    · exact absurd h1 xnx_n
    · cases h1
  · obtain ⟨q, hq, h1⟩ := bind_s h
    obtain ⟨q1, q2⟩ := q
    dsimp only at h1
    split at h1
    · exact absurd h1 xnx_n
    · exact absurd h1 xnx_n
    · cases h1
  · obtain ⟨x, hg, h1⟩ := gI_s h
    exact absurd h1 xnx_n
  · obtain ⟨x, hg, h1⟩ := gI_s h
    exact absurd h1 xnx_n
  · obtain ⟨x, hg, h1⟩ := gL_s h
    exact absurd h1 xnx_n
  · obtain ⟨x, hg, h1⟩ := gL_s h
    exact absurd h1 xnx_n
  · obtain ⟨x, hg, h1⟩ := gF_s h
    exact absurd h1 xnx_n
  · obtain ⟨x, hg, h1⟩ := gD_s h
    exact absurd h1 xnx_n
  · obtain ⟨x, hg, h1⟩ := gD_s h
    exact absurd h1 xnx_n
  · obtain ⟨x, hg, h1⟩ := gA_s h
    exact absurd h1 xnx_n
  · obtain ⟨x, hg, h1⟩ := gA_s h
    exact absurd h1 xnx_n
  · obtain ⟨x, r_x, e_x, h1⟩ := pI_s h; subst e_x
    obtain ⟨l2, hg, h2⟩ := bind_s h1
    exact absurd h2 xnx_n
  · obtain ⟨x, r_x, e_x, h1⟩ := pI_s h; subst e_x
    obtain ⟨l2, hg, h2⟩ := bind_s h1
    exact absurd h2 xnx_n
  · obtain ⟨x, r_x, e_x, h1⟩ := pL_s h; subst e_x
    obtain ⟨l2, hg, h2⟩ := bind_s h1
    exact absurd h2 xnx_n
  · obtain ⟨x, r_x, e_x, h1⟩ := pL_s h; subst e_x
    obtain ⟨l2, hg, h2⟩ := bind_s h1
    exact absurd h2 xnx_n
  · obtain ⟨x, r_x, e_x, h1⟩ := pD_s h; subst e_x
    obtain ⟨l2, hg, h2⟩ := bind_s h1
    exact absurd h2 xnx_n
  · obtain ⟨x, r_x, e_x, h1⟩ := pA_s h; subst e_x
    obtain ⟨l2, hg, h2⟩ := bind_s h1
    exact absurd h2 xnx_n
  · obtain ⟨x, r_x, e_x, h1⟩ := pA_s h; subst e_x
    obtain ⟨l2, hg, h2⟩ := bind_s h1
    exact absurd h2 xnx_n
  · obtain ⟨x, hx0, h1⟩ := gI_s h
    obtain ⟨l2, hg, h2⟩ := bind_s h1
    exact absurd h2 xnx_n
  · obtain ⟨y, r_y, e_y, h1⟩ := pI_s h; subst e_y
    obtain ⟨x, r_x, e_x, h2⟩ := pI_s h1; subst e_x
    exact absurd h2 xnx_n
  · obtain ⟨y, r_y, e_y, h1⟩ := pI_s h; subst e_y
    obtain ⟨x, r_x, e_x, h2⟩ := pI_s h1; subst e_x
    exact absurd h2 xnx_n
  · obtain ⟨y, r_y, e_y, h1⟩ := pI_s h; subst e_y
    obtain ⟨x, r_x, e_x, h2⟩ := pI_s h1; subst e_x
    exact absurd h2 xnx_n
  · obtain ⟨y, r_y, e_y, h1⟩ := pI_s h; subst e_y
    obtain ⟨x, r_x, e_x, h2⟩ := pI_s h1; subst e_x
    split at h2
    · cases h2
    · next hy => exact absurd h2 xnx_n
  · obtain ⟨y, r_y, e_y, h1⟩ := pI_s h; subst e_y
    obtain ⟨x, r_x, e_x, h2⟩ := pI_s h1; subst e_x
    split at h2
    · cases h2
    · next hy => exact absurd h2 xnx_n
  · obtain ⟨y, r_y, e_y, h1⟩ := pI_s h; subst e_y
    obtain ⟨x, r_x, e_x, h2⟩ := pI_s h1; subst e_x
    exact absurd h2 xnx_n
  · obtain ⟨y, r_y, e_y, h1⟩ := pI_s h; subst e_y
    obtain ⟨x, r_x, e_x, h2⟩ := pI_s h1; subst e_x
    exact absurd h2 xnx_n
  · obtain ⟨y, r_y, e_y, h1⟩ := pL_s h; subst e_y
    obtain ⟨x, r_x, e_x, h2⟩ := pL_s h1; subst e_x
    exact absurd h2 xnx_n
  · obtain ⟨y, r_y, e_y, h1⟩ := pL_s h; subst e_y
    obtain ⟨x, r_x, e_x, h2⟩ := pL_s h1; subst e_x
    exact absurd h2 xnx_n
  · obtain ⟨y, r_y, e_y, h1⟩ := pL_s h; subst e_y
    obtain ⟨x, r_x, e_x, h2⟩ := pL_s h1; subst e_x
    exact absurd h2 xnx_n
  · obtain ⟨y, r_y, e_y, h1⟩ := pL_s h; subst e_y
    obtain ⟨x, r_x, e_x, h2⟩ := pL_s h1; subst e_x
    exact absurd h2 xnx_n
  · obtain ⟨y, r_y, e_y, h1⟩ := pL_s h; subst e_y
    obtain ⟨x, r_x, e_x, h2⟩ := pL_s h1; subst e_x
    exact absurd h2 xnx_n
  · obtain ⟨y, r_y, e_y, h1⟩ := pL_s h; subst e_y
    obtain ⟨x, r_x, e_x, h2⟩ := pL_s h1; subst e_x
    exact absurd h2 xnx_n
  · obtain ⟨x, r_x, e_x, h1⟩ := pL_s h; subst e_x
    exact absurd h1 xnx_n
  · obtain ⟨y, r_y, e_y, h1⟩ := pI_s h; subst e_y
    obtain ⟨x, r_x, e_x, h2⟩ := pL_s h1; subst e_x
    exact absurd h2 xnx_n
  · obtain ⟨y, r_y, e_y, h1⟩ := pI_s h; subst e_y
    obtain ⟨x, r_x, e_x, h2⟩ := pL_s h1; subst e_x
    exact absurd h2 xnx_n
  · obtain ⟨y, r_y, e_y, h1⟩ := pL_s h; subst e_y
    obtain ⟨x, r_x, e_x, h2⟩ := pL_s h1; subst e_x
    exact absurd h2 xnx_n
  · obtain ⟨x, r_x, e_x, h1⟩ := pI_s h; subst e_x
    exact absurd h1 xnx_n
  · obtain ⟨x, r_x, e_x, h1⟩ := pL_s h; subst e_x
    exact absurd h1 xnx_n
  · obtain ⟨x, r_x, e_x, h1⟩ := pI_s h; subst e_x
    exact absurd h1 xnx_n
  · obtain ⟨x, r_x, e_x, h1⟩ := pI_s h; subst e_x
    exact absurd h1 xnx_n
  · obtain ⟨x, r_x, e_x, h1⟩ := pL_s h; subst e_x
    exact absurd h1 xnx_n
  · obtain ⟨x, r_x, e_x, h1⟩ := pD_s h; subst e_x
    exact absurd h1 xnx_n
  · obtain ⟨x, r_x, e_x, h1⟩ := pF_s h; subst e_x
    obtain ⟨hn, h2⟩ := ite_s h1
    exact absurd h2 xnx_n
  · obtain ⟨y, r_y, e_y, h1⟩ := pF_s h; subst e_y
    obtain ⟨x, r_x, e_x, h2⟩ := pF_s h1; subst e_x
    obtain ⟨hn, h3⟩ := ite_s h2
    exact absurd h3 xnx_n
  · obtain ⟨y, r_y, e_y, h1⟩ := pD_s h; subst e_y
    obtain ⟨x, r_x, e_x, h2⟩ := pD_s h1; subst e_x
    obtain ⟨hn, h3⟩ := ite_s h2
    exact absurd h3 xnx_n
  · obtain ⟨y, r_y, e_y, h1⟩ := pD_s h; subst e_y
    obtain ⟨x, r_x, e_x, h2⟩ := pD_s h1; subst e_x
    obtain ⟨hn, h3⟩ := ite_s h2
    exact absurd h3 xnx_n
  · obtain ⟨y, r_y, e_y, h1⟩ := pD_s h; subst e_y
    obtain ⟨x, r_x, e_x, h2⟩ := pD_s h1; subst e_x
    obtain ⟨hn, h3⟩ := ite_s h2
    exact absurd h3 xnx_n
  · obtain ⟨y, r_y, e_y, h1⟩ := pF_s h; subst e_y
    obtain ⟨x, r_x, e_x, h2⟩ := pF_s h1; subst e_x
    exact absurd h2 xnx_n
  · obtain ⟨y, r_y, e_y, h1⟩ := pD_s h; subst e_y
    obtain ⟨x, r_x, e_x, h2⟩ := pD_s h1; subst e_x
    exact absurd h2 xnx_n
  · obtain ⟨v, r_v, e_v, h1⟩ := pV_s h; subst e_v
    obtain ⟨hv, h2⟩ := ite_s h1
    exact absurd h2 xnx_n
  · obtain ⟨v, r_v, e_v, h1⟩ := pV_s h; subst e_v
    obtain ⟨hv, h2⟩ := ite_s h1
    exact absurd h2 xnx_n
  · obtain ⟨v, r_v, e_v, h1⟩ := pV_s h; subst e_v
    split at h1
    · next hv => exact absurd h1 xnx_n
    · obtain ⟨w, r_w, e_w, h2⟩ := pV_s h1; subst e_w; obtain ⟨⟨hv, hw⟩, h3⟩ := ite_s h2; exact absurd h3 xnx_n
  · exact absurd h xgo_n
  · obtain ⟨x, r_x, e_x, h1⟩ := pI_s h; subst e_x
    exact absurd h1 xIf_n
  · obtain ⟨x, r_x, e_x, h1⟩ := pI_s h; subst e_x
    exact absurd h1 xIf_n
  · obtain ⟨x, r_x, e_x, h1⟩ := pI_s h; subst e_x
    exact absurd h1 xIf_n
  · obtain ⟨x, r_x, e_x, h1⟩ := pI_s h; subst e_x
    exact absurd h1 xIf_n
  · obtain ⟨x, r_x, e_x, h1⟩ := pI_s h; subst e_x
    exact absurd h1 xIf_n
  · obtain ⟨x, r_x, e_x, h1⟩ := pI_s h; subst e_x
    exact absurd h1 xIf_n
  · obtain ⟨y, r_y, e_y, h1⟩ := pI_s h; subst e_y
    obtain ⟨x, r_x, e_x, h2⟩ := pI_s h1; subst e_x
    exact absurd h2 xIf_n
  · obtain ⟨y, r_y, e_y, h1⟩ := pI_s h; subst e_y
    obtain ⟨x, r_x, e_x, h2⟩ := pI_s h1; subst e_x
    exact absurd h2 xIf_n
  · obtain ⟨y, r_y, e_y, h1⟩ := pI_s h; subst e_y
    obtain ⟨x, r_x, e_x, h2⟩ := pI_s h1; subst e_x
    exact absurd h2 xIf_n
  · obtain ⟨y, r_y, e_y, h1⟩ := pI_s h; subst e_y
    obtain ⟨x, r_x, e_x, h2⟩ := pI_s h1; subst e_x
    exact absurd h2 xIf_n
  · obtain ⟨y, r_y, e_y, h1⟩ := pI_s h; subst e_y
    obtain ⟨x, r_x, e_x, h2⟩ := pI_s h1; subst e_x
    exact absurd h2 xIf_n
  · obtain ⟨y, r_y, e_y, h1⟩ := pI_s h; subst e_y
    obtain ⟨x, r_x, e_x, h2⟩ := pI_s h1; subst e_x
    exact absurd h2 xIf_n
  · obtain ⟨x, r_x, e_x, h1⟩ := pI_s h; subst e_x
    split at h1
    · next q => exact absurd h1 xgo_n
    · next q => obtain ⟨o, ho, h2⟩ := bind_s h1; exact absurd h2 xgo_n
  · obtain ⟨x, r_x, e_x, h1⟩ := pI_s h; subst e_x
    obtain ⟨hp, h2⟩ := ite_s h1
    exact absurd h2 xgo_n
  · obtain ⟨⟨ci, k2, pl⟩, hq, h1⟩ := bind_s h
    obtain ⟨a, r_a, e_a, h2⟩ := pA_s h1; subst e_a
    obtain ⟨v, hv, h3⟩ := bind_s h2
    exact absurd h3 xnx_n
  · obtain ⟨⟨ci, k2, pl⟩, hq, h1⟩ := bind_s h
    obtain ⟨v, r_v, e_v, h2⟩ := pV_s h1; subst e_v
    obtain ⟨a, r_a, e_a, h3⟩ := pA_s h2; subst e_a
    obtain ⟨ty, hty, h4⟩ := bind_s h3
    obtain ⟨⟨hfit, hfin⟩, h5⟩ := ite_s h4
    obtain ⟨σ2, hs2, h6⟩ := bind_s h5
    exact absurd h6 xnx_n
  · obtain ⟨i, r_i, e_i, h1⟩ := pI_s h; subst e_i
    obtain ⟨a, r_a, e_a, h2⟩ := pA_s h1; subst e_a
    split at h2
    · next q hq => obtain ⟨hi, h3⟩ := ite_s h2; exact absurd h3 xnx_n
    · obtain ⟨q, hq, h3⟩ := bind_s h2; obtain ⟨⟨hx3, hi⟩, h4⟩ := ite_s h3; exact absurd h4 xnx_n
  · obtain ⟨i, r_i, e_i, h1⟩ := pI_s h; subst e_i
    obtain ⟨a, r_a, e_a, h2⟩ := pA_s h1; subst e_a
    obtain ⟨q, hq, h3⟩ := bind_s h2
    obtain ⟨⟨hi, ht⟩, h4⟩ := ite_s h3
    exact absurd h4 xnx_n
  · obtain ⟨x, r_x, e_x, h1⟩ := pI_s h; subst e_x
    obtain ⟨i, r_i, e_i, h2⟩ := pI_s h1; subst e_i
    obtain ⟨a, r_a, e_a, h3⟩ := pA_s h2; subst e_a
    obtain ⟨q, hq, h4⟩ := bind_s h3
    obtain ⟨hi, h5⟩ := ite_s h4
    exact absurd h5 xnx_n
  · obtain ⟨v, r_v, e_v, h1⟩ := pA_s h; subst e_v
    obtain ⟨i, r_i, e_i, h2⟩ := pI_s h1; subst e_i
    obtain ⟨a, r_a, e_a, h3⟩ := pA_s h2; subst e_a
    obtain ⟨q, hq, h4⟩ := bind_s h3
    obtain ⟨⟨hi, hv⟩, h5⟩ := ite_s h4
    exact absurd h5 xnx_n
  · obtain ⟨a, r_a, e_a, h1⟩ := pA_s h; subst e_a
    obtain ⟨q, hq, h2⟩ := bind_s h1
    obtain ⟨hx3, h3⟩ := ite_s h2
    exact absurd h3 xnx_n
  · obtain ⟨n, r_n, e_n, h1⟩ := pI_s h; subst e_n
    obtain ⟨⟨hx0, hN, hg, hx9⟩, h2⟩ := ite_s h1
    exact absurd h2 xnx_n
  · obtain ⟨⟨ci, pl⟩, hq, h1⟩ := bind_s h
    obtain ⟨t, ht, h2⟩ := bind_s h1
    obtain ⟨n, r_n, e_n, h3⟩ := pI_s h2; subst e_n
    obtain ⟨⟨hx0, hN, hg, hx9⟩, h4⟩ := ite_s h3
    exact absurd h4 xnx_n
  · split at h
    · next q hq => obtain ⟨ci, pl⟩ := q; obtain ⟨⟨hg, hx9⟩, h1⟩ := ite_s h; exact absurd h1 xnx_n
    · obtain ⟨q, hq, h1⟩ := bind_s h; obtain ⟨hth, h2⟩ := ite_s h1; cases h2
  · obtain ⟨⟨kd, ν, n, p1, p2, p3, p4⟩, hq, h1⟩ := bind_s h
    dsimp only at h1
    split at h1
    · obtain ⟨w, -, h2⟩ := bind_s h1; obtain ⟨f, -, -, -, -, h3⟩ := xcal_s h2; cases h3
    · obtain ⟨w, -, h2⟩ := bind_s h1; obtain ⟨f, -, -, -, -, h3⟩ := xcal_s h2; cases h3
    · obtain ⟨w, -, h2⟩ := bind_s h1; obtain ⟨f, -, -, -, -, h3⟩ := xcal_s h2; cases h3
    · obtain ⟨w, -, h2⟩ := bind_s h1; obtain ⟨-, h3⟩ := ite_s h2; obtain ⟨f, -, -, -, -, h4⟩ := xcal_s h3; cases h4
    · obtain ⟨n1, r_n1, e_n1, h2⟩ := pI_s h1; subst e_n1; obtain ⟨dp, r_dp, e_dp, h3⟩ := pI_s h2; subst e_dp; obtain ⟨a, r_a, e_a, h4⟩ := pA_s h3; subst e_a; obtain ⟨sp, r_sp, e_sp, h5⟩ := pI_s h4; subst e_sp; obtain ⟨a0, r_a0, e_a0, h6⟩ := pA_s h5; subst e_a0; obtain ⟨q0, hq0, h7⟩ := bind_s h6; obtain ⟨q1, hq1, h8⟩ := bind_s h7; obtain ⟨hh, h9⟩ := ite_s h8; exact absurd h9 xnx_n
    · obtain ⟨y, r_y, e_y, h2⟩ := pI_s h1; subst e_y; obtain ⟨x, r_x, e_x, h3⟩ := pI_s h2; subst e_x; obtain ⟨hw, h4⟩ := ite_s h3; exact absurd h4 xnx_n
    · obtain ⟨y, r_y, e_y, h2⟩ := pI_s h1; subst e_y; obtain ⟨x, r_x, e_x, h3⟩ := pI_s h2; subst e_x; obtain ⟨hw, h4⟩ := ite_s h3; exact absurd h4 xnx_n
    · obtain ⟨x, r_x, e_x, h2⟩ := pD_s h1; subst e_x; obtain ⟨hw, h3⟩ := ite_s h2; exact absurd h3 xnx_n
    · obtain ⟨x, r_x, e_x, h2⟩ := pF_s h1; subst e_x; obtain ⟨hw, h3⟩ := ite_s h2; exact absurd h3 xnx_n
    · cases h1
  · obtain ⟨⟨kd, ν, n, p1, p2, p3, p4⟩, hq, h1⟩ := bind_s h
    dsimp only at h1
    split at h1
    · obtain ⟨w, -, h2⟩ := bind_s h1; obtain ⟨a, r_a, -, h3⟩ := pA_s h2; obtain ⟨f, -, h4⟩ := bind_s h3; obtain ⟨-, h5⟩ := ite_s h4; obtain ⟨f, -, -, -, -, h6⟩ := xcal_s h5; cases h6
    · obtain ⟨w, -, h2⟩ := bind_s h1; obtain ⟨a, r_a, -, h3⟩ := pA_s h2; obtain ⟨f, -, h4⟩ := bind_s h3; obtain ⟨-, h5⟩ := ite_s h4; obtain ⟨f, -, -, -, -, h6⟩ := xcal_s h5; cases h6
    · cases h1
  · obtain ⟨⟨kd, ν, n, p1, p2, p3, p4⟩, hq, h1⟩ := bind_s h
    dsimp only at h1
    split at h1
    · obtain ⟨w, -, h2⟩ := bind_s h1; obtain ⟨a, r_a, -, h3⟩ := pA_s h2; obtain ⟨f, -, -, -, -, h4⟩ := xcal_s h3; cases h4
    · obtain ⟨a, r_a, e_a, h2⟩ := pA_s h1; subst e_a; obtain ⟨hw, h3⟩ := ite_s h2; exact absurd h3 xnx_n
    · cases h1
  · obtain ⟨x, r, e0, h1⟩ := pI_s h; subst e0
    obtain ⟨e1, h2⟩ := pZ_s h1; subst e1
    split at h2
    · next hr => cases h2; exact ⟨rfl, Or.inl ⟨rfl, rfl, x, rfl, rfl, Or.inl hr⟩⟩
    · next hr => obtain ⟨hz, h3⟩ := ite_s h2; cases h3; exact ⟨rfl, Or.inl ⟨rfl, rfl, x, rfl, rfl, Or.inr ⟨hr, hz⟩⟩⟩
    · cases h2
  · obtain ⟨x, r, e0, h1⟩ := pL_s h; subst e0
    obtain ⟨e1, h2⟩ := pZ_s h1; subst e1
    split at h2
    · next hr => cases h2; exact ⟨rfl, Or.inr (Or.inl ⟨rfl, rfl, x, rfl, rfl, hr⟩)⟩
    · cases h2
  · obtain ⟨x, r, e0, h1⟩ := pF_s h; subst e0
    obtain ⟨e1, h2⟩ := pZ_s h1; subst e1
    split at h2
    · next hr => cases h2; exact ⟨rfl, Or.inr (Or.inr (Or.inl ⟨rfl, rfl, x, rfl, rfl, hr⟩))⟩
    · cases h2
  · obtain ⟨x, r, e0, h1⟩ := pD_s h; subst e0
    obtain ⟨e1, h2⟩ := pZ_s h1; subst e1
    split at h2
    · next hr => cases h2; exact ⟨rfl, Or.inr (Or.inr (Or.inr (Or.inl ⟨rfl, rfl, x, rfl, rfl, hr⟩)))⟩
    · cases h2
  · obtain ⟨e1, h2⟩ := pZ_s h; subst e1
    split at h2
    · next hr => cases h2; exact ⟨rfl, Or.inr (Or.inr (Or.inr (Or.inr ⟨rfl, rfl, rfl, rfl, hr⟩)))⟩
    · cases h2
  · cases h
set_option maxHeartbeats 4000000 in
set_option maxRecDepth 100000 in
theorem xcall_s {en : xMe} {pc len : Nat} {i : Instr} {ls : xL} {st : List Value} {σ : xS} {ν pc2 : Nat} {as st2 : List Value} {ls2 : xL} {τ : xS} (h : xDo en pc ls st σ i len = some (.inr (.inr (.inl (ν, as, pc2, ls2, st2, τ))))) : ∃ f, xM[ν]? = some f ∧ xwid st2 ≤ 8 ∧ (f.2.2.2.2.2.1 + 1 ≤ en.2.2.2.2.2.1 ∧ 8 + (f.2.2.1 + 11) + f.2.2.2.2.2.2.1 ≤ en.2.2.2.2.2.2.1) ∧ (xspr as).length ≤ f.2.2.1 ∧ pc2 = pc + 3 ∧ ls2 = ls ∧ τ = σ ∧ ∃ k1 n p1 p2 p3 p4, (i = .invokestatic k1 ∧ len = 3 ∧ (xfind xCL en.2.2.2.2.1 k1 = some (0, ν, n, p1, p2, p3, p4) ∨ xfind xCL en.2.2.2.2.1 k1 = some (3, ν, n, p1, p2, p3, p4) ∨ xfind xCL en.2.2.2.2.1 k1 = some (11, ν, n, p1, p2, p3, p4) ∨ (xfind xCL en.2.2.2.2.1 k1 = some (12, ν, n, p1, p2, p3, p4) ∧ 3 ≤ en.2.2.2.2.2.2.2)) ∧ xpop n st = some (as, st2)) ∨ (i = .invokevirtual k1 ∧ len = 3 ∧ (xfind xCL en.2.2.2.2.1 k1 = some (1, ν, n, p1, p2, p3, p4) ∨ xfind xCL en.2.2.2.2.1 k1 = some (10, ν, n, p1, p2, p3, p4)) ∧ ∃ a as2, as = .ref a :: as2 ∧ xpop n st = some (as2, .ref a :: st2) ∧ (hcls σ a).bind (fun c => (vwCl[c]?).map (fun r => r.1)) = some f.1.cls) ∨ (i = .invokespecial k1 ∧ len = 3 ∧ xfind xCL en.2.2.2.2.1 k1 = some (2, ν, n, p1, p2, p3, p4) ∧ ∃ a as2, as = .ref a :: as2 ∧ xpop n st = some (as2, .ref a :: st2)) := by
  unfold xDo at h
  split at h
  · exact absurd h xnx_n
  · exact absurd h xnx_n
  · exact absurd h xnx_n
  · exact absurd h xnx_n
  · obtain ⟨e_q, h1⟩ := ite_s h; subst e_q
    exact absurd h1 xnx_n
  · split at h
    · next q => subst q; exact absurd h xnx_n
    · obtain ⟨e_q, h1⟩ := ite_s h; subst e_q; exact absurd h1 xnx_n
  · obtain ⟨q, hq, h1⟩ := bind_s h
    obtain ⟨q1, q2⟩ := q
    dsimp only at h1
    split at h1
    · exact absurd h1 xnx_n
    · cases h1
  · obtain ⟨q, hq, h1⟩ := bind_s h
    obtain ⟨q1, q2⟩ := q
    dsimp only at h1
    split at h1
    · exact absurd h1 xnx_n
    · exact absurd h1 xnx_n
    · cases h1
  · obtain ⟨x, hg, h1⟩ := gI_s h
    exact absurd h1 xnx_n
  · obtain ⟨x, hg, h1⟩ := gI_s h
    exact absurd h1 xnx_n
  · obtain ⟨x, hg, h1⟩ := gL_s h
    exact absurd h1 xnx_n
  · obtain ⟨x, hg, h1⟩ := gL_s h
    exact absurd h1 xnx_n
  · obtain ⟨x, hg, h1⟩ := gF_s h
    exact absurd h1 xnx_n
  · obtain ⟨x, hg, h1⟩ := gD_s h
    exact absurd h1 xnx_n
  · obtain ⟨x, hg, h1⟩ := gD_s h
    exact absurd h1 xnx_n
  · obtain ⟨x, hg, h1⟩ := gA_s h
    exact absurd h1 xnx_n
  · obtain ⟨x, hg, h1⟩ := gA_s h
    exact absurd h1 xnx_n
  · obtain ⟨x, r_x, e_x, h1⟩ := pI_s h; subst e_x
    obtain ⟨l2, hg, h2⟩ := bind_s h1
    exact absurd h2 xnx_n
  · obtain ⟨x, r_x, e_x, h1⟩ := pI_s h; subst e_x
    obtain ⟨l2, hg, h2⟩ := bind_s h1
    exact absurd h2 xnx_n
  · obtain ⟨x, r_x, e_x, h1⟩ := pL_s h; subst e_x
    obtain ⟨l2, hg, h2⟩ := bind_s h1
    exact absurd h2 xnx_n
  · obtain ⟨x, r_x, e_x, h1⟩ := pL_s h; subst e_x
    obtain ⟨l2, hg, h2⟩ := bind_s h1
    exact absurd h2 xnx_n
  · obtain ⟨x, r_x, e_x, h1⟩ := pD_s h; subst e_x
    obtain ⟨l2, hg, h2⟩ := bind_s h1
    exact absurd h2 xnx_n
  · obtain ⟨x, r_x, e_x, h1⟩ := pA_s h; subst e_x
    obtain ⟨l2, hg, h2⟩ := bind_s h1
    exact absurd h2 xnx_n
  · obtain ⟨x, r_x, e_x, h1⟩ := pA_s h; subst e_x
    obtain ⟨l2, hg, h2⟩ := bind_s h1
    exact absurd h2 xnx_n
  · obtain ⟨x, hx0, h1⟩ := gI_s h
    obtain ⟨l2, hg, h2⟩ := bind_s h1
    exact absurd h2 xnx_n
  · obtain ⟨y, r_y, e_y, h1⟩ := pI_s h; subst e_y
    obtain ⟨x, r_x, e_x, h2⟩ := pI_s h1; subst e_x
    exact absurd h2 xnx_n
  · obtain ⟨y, r_y, e_y, h1⟩ := pI_s h; subst e_y
    obtain ⟨x, r_x, e_x, h2⟩ := pI_s h1; subst e_x
    exact absurd h2 xnx_n
  · obtain ⟨y, r_y, e_y, h1⟩ := pI_s h; subst e_y
    obtain ⟨x, r_x, e_x, h2⟩ := pI_s h1; subst e_x
    exact absurd h2 xnx_n
  · obtain ⟨y, r_y, e_y, h1⟩ := pI_s h; subst e_y
    obtain ⟨x, r_x, e_x, h2⟩ := pI_s h1; subst e_x
    split at h2
    · cases h2
    · next hy => exact absurd h2 xnx_n
  · obtain ⟨y, r_y, e_y, h1⟩ := pI_s h; subst e_y
    obtain ⟨x, r_x, e_x, h2⟩ := pI_s h1; subst e_x
    split at h2
    · cases h2
    · next hy => exact absurd h2 xnx_n
  · obtain ⟨y, r_y, e_y, h1⟩ := pI_s h; subst e_y
    obtain ⟨x, r_x, e_x, h2⟩ := pI_s h1; subst e_x
    exact absurd h2 xnx_n
  · obtain ⟨y, r_y, e_y, h1⟩ := pI_s h; subst e_y
    obtain ⟨x, r_x, e_x, h2⟩ := pI_s h1; subst e_x
    exact absurd h2 xnx_n
  · obtain ⟨y, r_y, e_y, h1⟩ := pL_s h; subst e_y
    obtain ⟨x, r_x, e_x, h2⟩ := pL_s h1; subst e_x
    exact absurd h2 xnx_n
  · obtain ⟨y, r_y, e_y, h1⟩ := pL_s h; subst e_y
    obtain ⟨x, r_x, e_x, h2⟩ := pL_s h1; subst e_x
    exact absurd h2 xnx_n
  · obtain ⟨y, r_y, e_y, h1⟩ := pL_s h; subst e_y
    obtain ⟨x, r_x, e_x, h2⟩ := pL_s h1; subst e_x
    exact absurd h2 xnx_n
  · obtain ⟨y, r_y, e_y, h1⟩ := pL_s h; subst e_y
    obtain ⟨x, r_x, e_x, h2⟩ := pL_s h1; subst e_x
    exact absurd h2 xnx_n
  · obtain ⟨y, r_y, e_y, h1⟩ := pL_s h; subst e_y
    obtain ⟨x, r_x, e_x, h2⟩ := pL_s h1; subst e_x
    exact absurd h2 xnx_n
  · obtain ⟨y, r_y, e_y, h1⟩ := pL_s h; subst e_y
    obtain ⟨x, r_x, e_x, h2⟩ := pL_s h1; subst e_x
    exact absurd h2 xnx_n
  · obtain ⟨x, r_x, e_x, h1⟩ := pL_s h; subst e_x
    exact absurd h1 xnx_n
  · obtain ⟨y, r_y, e_y, h1⟩ := pI_s h; subst e_y
    obtain ⟨x, r_x, e_x, h2⟩ := pL_s h1; subst e_x
    exact absurd h2 xnx_n
  · obtain ⟨y, r_y, e_y, h1⟩ := pI_s h; subst e_y
    obtain ⟨x, r_x, e_x, h2⟩ := pL_s h1; subst e_x
    exact absurd h2 xnx_n
  · obtain ⟨y, r_y, e_y, h1⟩ := pL_s h; subst e_y
    obtain ⟨x, r_x, e_x, h2⟩ := pL_s h1; subst e_x
    exact absurd h2 xnx_n
  · obtain ⟨x, r_x, e_x, h1⟩ := pI_s h; subst e_x
    exact absurd h1 xnx_n
  · obtain ⟨x, r_x, e_x, h1⟩ := pL_s h; subst e_x
    exact absurd h1 xnx_n
  · obtain ⟨x, r_x, e_x, h1⟩ := pI_s h; subst e_x
    exact absurd h1 xnx_n
  · obtain ⟨x, r_x, e_x, h1⟩ := pI_s h; subst e_x
    exact absurd h1 xnx_n
  · obtain ⟨x, r_x, e_x, h1⟩ := pL_s h; subst e_x
    exact absurd h1 xnx_n
  · obtain ⟨x, r_x, e_x, h1⟩ := pD_s h; subst e_x
    exact absurd h1 xnx_n
  · obtain ⟨x, r_x, e_x, h1⟩ := pF_s h; subst e_x
    obtain ⟨hn, h2⟩ := ite_s h1
    exact absurd h2 xnx_n
  · obtain ⟨y, r_y, e_y, h1⟩ := pF_s h; subst e_y
    obtain ⟨x, r_x, e_x, h2⟩ := pF_s h1; subst e_x
    obtain ⟨hn, h3⟩ := ite_s h2
    exact absurd h3 xnx_n
  · obtain ⟨y, r_y, e_y, h1⟩ := pD_s h; subst e_y
    obtain ⟨x, r_x, e_x, h2⟩ := pD_s h1; subst e_x
    obtain ⟨hn, h3⟩ := ite_s h2
    exact absurd h3 xnx_n
  · obtain ⟨y, r_y, e_y, h1⟩ := pD_s h; subst e_y
    obtain ⟨x, r_x, e_x, h2⟩ := pD_s h1; subst e_x
    obtain ⟨hn, h3⟩ := ite_s h2
    exact absurd h3 xnx_n
  · obtain ⟨y, r_y, e_y, h1⟩ := pD_s h; subst e_y
    obtain ⟨x, r_x, e_x, h2⟩ := pD_s h1; subst e_x
    obtain ⟨hn, h3⟩ := ite_s h2
    exact absurd h3 xnx_n
  · obtain ⟨y, r_y, e_y, h1⟩ := pF_s h; subst e_y
    obtain ⟨x, r_x, e_x, h2⟩ := pF_s h1; subst e_x
    exact absurd h2 xnx_n
  · obtain ⟨y, r_y, e_y, h1⟩ := pD_s h; subst e_y
    obtain ⟨x, r_x, e_x, h2⟩ := pD_s h1; subst e_x
    exact absurd h2 xnx_n
  · obtain ⟨v, r_v, e_v, h1⟩ := pV_s h; subst e_v
    obtain ⟨hv, h2⟩ := ite_s h1
    exact absurd h2 xnx_n
  · obtain ⟨v, r_v, e_v, h1⟩ := pV_s h; subst e_v
    obtain ⟨hv, h2⟩ := ite_s h1
    exact absurd h2 xnx_n
  · obtain ⟨v, r_v, e_v, h1⟩ := pV_s h; subst e_v
    split at h1
    · next hv => exact absurd h1 xnx_n
    · obtain ⟨w, r_w, e_w, h2⟩ := pV_s h1; subst e_w; obtain ⟨⟨hv, hw⟩, h3⟩ := ite_s h2; exact absurd h3 xnx_n
  · exact absurd h xgo_n
  · obtain ⟨x, r_x, e_x, h1⟩ := pI_s h; subst e_x
    exact absurd h1 xIf_n
  · obtain ⟨x, r_x, e_x, h1⟩ := pI_s h; subst e_x
    exact absurd h1 xIf_n
  · obtain ⟨x, r_x, e_x, h1⟩ := pI_s h; subst e_x
    exact absurd h1 xIf_n
  · obtain ⟨x, r_x, e_x, h1⟩ := pI_s h; subst e_x
    exact absurd h1 xIf_n
  · obtain ⟨x, r_x, e_x, h1⟩ := pI_s h; subst e_x
    exact absurd h1 xIf_n
  · obtain ⟨x, r_x, e_x, h1⟩ := pI_s h; subst e_x
    exact absurd h1 xIf_n
  · obtain ⟨y, r_y, e_y, h1⟩ := pI_s h; subst e_y
    obtain ⟨x, r_x, e_x, h2⟩ := pI_s h1; subst e_x
    exact absurd h2 xIf_n
  · obtain ⟨y, r_y, e_y, h1⟩ := pI_s h; subst e_y
    obtain ⟨x, r_x, e_x, h2⟩ := pI_s h1; subst e_x
    exact absurd h2 xIf_n
  · obtain ⟨y, r_y, e_y, h1⟩ := pI_s h; subst e_y
    obtain ⟨x, r_x, e_x, h2⟩ := pI_s h1; subst e_x
    exact absurd h2 xIf_n
  · obtain ⟨y, r_y, e_y, h1⟩ := pI_s h; subst e_y
    obtain ⟨x, r_x, e_x, h2⟩ := pI_s h1; subst e_x
    exact absurd h2 xIf_n
  · obtain ⟨y, r_y, e_y, h1⟩ := pI_s h; subst e_y
    obtain ⟨x, r_x, e_x, h2⟩ := pI_s h1; subst e_x
    exact absurd h2 xIf_n
  · obtain ⟨y, r_y, e_y, h1⟩ := pI_s h; subst e_y
    obtain ⟨x, r_x, e_x, h2⟩ := pI_s h1; subst e_x
    exact absurd h2 xIf_n
  · obtain ⟨x, r_x, e_x, h1⟩ := pI_s h; subst e_x
    split at h1
    · next q => exact absurd h1 xgo_n
    · next q => obtain ⟨o, ho, h2⟩ := bind_s h1; exact absurd h2 xgo_n
  · obtain ⟨x, r_x, e_x, h1⟩ := pI_s h; subst e_x
    obtain ⟨hp, h2⟩ := ite_s h1
    exact absurd h2 xgo_n
  · obtain ⟨⟨ci, k2, pl⟩, hq, h1⟩ := bind_s h
    obtain ⟨a, r_a, e_a, h2⟩ := pA_s h1; subst e_a
    obtain ⟨v, hv, h3⟩ := bind_s h2
    exact absurd h3 xnx_n
  · obtain ⟨⟨ci, k2, pl⟩, hq, h1⟩ := bind_s h
    obtain ⟨v, r_v, e_v, h2⟩ := pV_s h1; subst e_v
    obtain ⟨a, r_a, e_a, h3⟩ := pA_s h2; subst e_a
    obtain ⟨ty, hty, h4⟩ := bind_s h3
    obtain ⟨⟨hfit, hfin⟩, h5⟩ := ite_s h4
    obtain ⟨σ2, hs2, h6⟩ := bind_s h5
    exact absurd h6 xnx_n
  · obtain ⟨i, r_i, e_i, h1⟩ := pI_s h; subst e_i
    obtain ⟨a, r_a, e_a, h2⟩ := pA_s h1; subst e_a
    split at h2
    · next q hq => obtain ⟨hi, h3⟩ := ite_s h2; exact absurd h3 xnx_n
    · obtain ⟨q, hq, h3⟩ := bind_s h2; obtain ⟨⟨hx3, hi⟩, h4⟩ := ite_s h3; exact absurd h4 xnx_n
  · obtain ⟨i, r_i, e_i, h1⟩ := pI_s h; subst e_i
    obtain ⟨a, r_a, e_a, h2⟩ := pA_s h1; subst e_a
    obtain ⟨q, hq, h3⟩ := bind_s h2
    obtain ⟨⟨hi, ht⟩, h4⟩ := ite_s h3
    exact absurd h4 xnx_n
  · obtain ⟨x, r_x, e_x, h1⟩ := pI_s h; subst e_x
    obtain ⟨i, r_i, e_i, h2⟩ := pI_s h1; subst e_i
    obtain ⟨a, r_a, e_a, h3⟩ := pA_s h2; subst e_a
    obtain ⟨q, hq, h4⟩ := bind_s h3
    obtain ⟨hi, h5⟩ := ite_s h4
    exact absurd h5 xnx_n
  · obtain ⟨v, r_v, e_v, h1⟩ := pA_s h; subst e_v
    obtain ⟨i, r_i, e_i, h2⟩ := pI_s h1; subst e_i
    obtain ⟨a, r_a, e_a, h3⟩ := pA_s h2; subst e_a
    obtain ⟨q, hq, h4⟩ := bind_s h3
    obtain ⟨⟨hi, hv⟩, h5⟩ := ite_s h4
    exact absurd h5 xnx_n
  · obtain ⟨a, r_a, e_a, h1⟩ := pA_s h; subst e_a
    obtain ⟨q, hq, h2⟩ := bind_s h1
    obtain ⟨hx3, h3⟩ := ite_s h2
    exact absurd h3 xnx_n
  · obtain ⟨n, r_n, e_n, h1⟩ := pI_s h; subst e_n
    obtain ⟨⟨hx0, hN, hg, hx9⟩, h2⟩ := ite_s h1
    exact absurd h2 xnx_n
  · obtain ⟨⟨ci, pl⟩, hq, h1⟩ := bind_s h
    obtain ⟨t, ht, h2⟩ := bind_s h1
    obtain ⟨n, r_n, e_n, h3⟩ := pI_s h2; subst e_n
    obtain ⟨⟨hx0, hN, hg, hx9⟩, h4⟩ := ite_s h3
    exact absurd h4 xnx_n
  · split at h
    · next q hq => obtain ⟨ci, pl⟩ := q; obtain ⟨⟨hg, hx9⟩, h1⟩ := ite_s h; exact absurd h1 xnx_n
    · obtain ⟨q, hq, h1⟩ := bind_s h; obtain ⟨hth, h2⟩ := ite_s h1; cases h2
  · next k1 => obtain ⟨⟨kd, ν2, n, p1, p2, p3, p4⟩, hq, h1⟩ := bind_s h; dsimp only at h1; split at h1
               · obtain ⟨w, hw, h2⟩ := bind_s h1; obtain ⟨f, hf, g1, g2, g3, e0⟩ := xcal_s h2; cases e0; exact ⟨f, hf, g1, g2, g3, rfl, rfl, rfl, k1, n, p1, p2, p3, p4, Or.inl ⟨rfl, rfl, Or.inl hq, hw⟩⟩
               · obtain ⟨w, hw, h2⟩ := bind_s h1; obtain ⟨f, hf, g1, g2, g3, e0⟩ := xcal_s h2; cases e0; exact ⟨f, hf, g1, g2, g3, rfl, rfl, rfl, k1, n, p1, p2, p3, p4, Or.inl ⟨rfl, rfl, Or.inr (Or.inl hq), hw⟩⟩
               · obtain ⟨w, hw, h2⟩ := bind_s h1; obtain ⟨f, hf, g1, g2, g3, e0⟩ := xcal_s h2; cases e0; exact ⟨f, hf, g1, g2, g3, rfl, rfl, rfl, k1, n, p1, p2, p3, p4, Or.inl ⟨rfl, rfl, Or.inr (Or.inr (Or.inl hq)), hw⟩⟩
               · obtain ⟨w, hw, h2⟩ := bind_s h1; obtain ⟨h39, h3⟩ := ite_s h2; obtain ⟨f, hf, g1, g2, g3, e0⟩ := xcal_s h3; cases e0; exact ⟨f, hf, g1, g2, g3, rfl, rfl, rfl, k1, n, p1, p2, p3, p4, Or.inl ⟨rfl, rfl, Or.inr (Or.inr (Or.inr ⟨hq, h39⟩)), hw⟩⟩
               · obtain ⟨n1, r_n1, e_n1, h2⟩ := pI_s h1; subst e_n1; obtain ⟨dp, r_dp, e_dp, h3⟩ := pI_s h2; subst e_dp; obtain ⟨a, r_a, e_a, h4⟩ := pA_s h3; subst e_a; obtain ⟨sp, r_sp, e_sp, h5⟩ := pI_s h4; subst e_sp; obtain ⟨a0, r_a0, e_a0, h6⟩ := pA_s h5; subst e_a0; obtain ⟨q0, hq0, h7⟩ := bind_s h6; obtain ⟨q1, hq1, h8⟩ := bind_s h7; obtain ⟨hh, h9⟩ := ite_s h8; exact absurd h9 xnx_n
               · obtain ⟨y, r_y, e_y, h2⟩ := pI_s h1; subst e_y; obtain ⟨x, r_x, e_x, h3⟩ := pI_s h2; subst e_x; obtain ⟨hw, h4⟩ := ite_s h3; exact absurd h4 xnx_n
               · obtain ⟨y, r_y, e_y, h2⟩ := pI_s h1; subst e_y; obtain ⟨x, r_x, e_x, h3⟩ := pI_s h2; subst e_x; obtain ⟨hw, h4⟩ := ite_s h3; exact absurd h4 xnx_n
               · obtain ⟨x, r_x, e_x, h2⟩ := pD_s h1; subst e_x; obtain ⟨hw, h3⟩ := ite_s h2; exact absurd h3 xnx_n
               · obtain ⟨x, r_x, e_x, h2⟩ := pF_s h1; subst e_x; obtain ⟨hw, h3⟩ := ite_s h2; exact absurd h3 xnx_n
               · cases h1
  · next k1 => obtain ⟨⟨kd, ν2, n, p1, p2, p3, p4⟩, hq, h1⟩ := bind_s h; dsimp only at h1; split at h1
               · obtain ⟨w, hw, h2⟩ := bind_s h1; obtain ⟨a, r_a, e_a, h3⟩ := pA_s h2; obtain ⟨f2, hf2, h4⟩ := bind_s h3; obtain ⟨hcl, h5⟩ := ite_s h4; obtain ⟨f, hf, g1, g2, g3, e0⟩ := xcal_s h5; cases e0; have e7 : f2 = f := Option.some.inj (hf2.symm.trans hf); subst e7; exact ⟨f2, hf, g1, g2, g3, rfl, rfl, rfl, k1, n, p1, p2, p3, p4, Or.inr (Or.inl ⟨rfl, rfl, Or.inl hq, a, w.1, rfl, by rw [hw, ← e_a], hcl⟩)⟩
               · obtain ⟨w, hw, h2⟩ := bind_s h1; obtain ⟨a, r_a, e_a, h3⟩ := pA_s h2; obtain ⟨f2, hf2, h4⟩ := bind_s h3; obtain ⟨hcl, h5⟩ := ite_s h4; obtain ⟨f, hf, g1, g2, g3, e0⟩ := xcal_s h5; cases e0; have e7 : f2 = f := Option.some.inj (hf2.symm.trans hf); subst e7; exact ⟨f2, hf, g1, g2, g3, rfl, rfl, rfl, k1, n, p1, p2, p3, p4, Or.inr (Or.inl ⟨rfl, rfl, Or.inr hq, a, w.1, rfl, by rw [hw, ← e_a], hcl⟩)⟩
               · cases h1
  · next k1 => obtain ⟨⟨kd, ν2, n, p1, p2, p3, p4⟩, hq, h1⟩ := bind_s h; dsimp only at h1; split at h1
               · obtain ⟨w, hw, h2⟩ := bind_s h1; obtain ⟨a, r_a, e_a, h3⟩ := pA_s h2; obtain ⟨f, hf, g1, g2, g3, e0⟩ := xcal_s h3; cases e0; exact ⟨f, hf, g1, g2, g3, rfl, rfl, rfl, k1, n, p1, p2, p3, p4, Or.inr (Or.inr ⟨rfl, rfl, hq, a, w.1, rfl, by rw [hw, ← e_a]⟩)⟩
               · obtain ⟨x, r_x, e_x, h2⟩ := pA_s h1; obtain ⟨-, h3⟩ := ite_s h2; exact absurd h3 xnx_n
               · cases h1
  · obtain ⟨x, r_x, e_x, h1⟩ := pI_s h; subst e_x
    obtain ⟨-, h2⟩ := pZ_s h1
    split at h2
    · cases h2
    · obtain ⟨-, h3⟩ := ite_s h2; cases h3
    · cases h2
  · obtain ⟨x, r_x, e_x, h1⟩ := pL_s h; subst e_x
    obtain ⟨-, h2⟩ := pZ_s h1
    split at h2
    · cases h2
    · cases h2
  · obtain ⟨x, r_x, e_x, h1⟩ := pF_s h; subst e_x
    obtain ⟨-, h2⟩ := pZ_s h1
    split at h2
    · cases h2
    · cases h2
  · obtain ⟨x, r_x, e_x, h1⟩ := pD_s h; subst e_x
    obtain ⟨-, h2⟩ := pZ_s h1
    split at h2
    · cases h2
    · cases h2
  · obtain ⟨-, h1⟩ := pZ_s h
    split at h1
    · cases h1
    · cases h1
  · cases h
set_option maxHeartbeats 4000000 in
set_option maxRecDepth 100000 in
theorem xthrow_s {en : xMe} {pc len : Nat} {i : Instr} {ls : xL} {st : List Value} {σ : xS} {x : Nat} {τ : xS} (h : xDo en pc ls st σ i len = some (.inr (.inr (.inr (x, τ))))) : ∃ k1 p, i = .new k1 ∧ len = 3 ∧ xfind xNL en.2.2.2.2.1 k1 = none ∧ xfind xXL en.2.2.2.2.1 k1 = some (x, p) ∧ xths en pc k1 x = true ∧ xwid st ≤ 8 ∧ τ = (σ.1, (σ.2.1, σ.2.2.1 + 1, σ.2.2.2 + 6)) := by
  unfold xDo at h
  split at h
  · exact absurd h xnx_n
  · exact absurd h xnx_n
  · exact absurd h xnx_n
  · exact absurd h xnx_n
  · obtain ⟨e_q, h1⟩ := ite_s h; subst e_q
    exact absurd h1 xnx_n
  · split at h
    · next q => subst q; exact absurd h xnx_n
    · obtain ⟨e_q, h1⟩ := ite_s h; subst e_q; exact absurd h1 xnx_n
  · obtain ⟨q, hq, h1⟩ := bind_s h
    obtain ⟨q1, q2⟩ := q
    dsimp only at h1
    split at h1
    · exact absurd h1 xnx_n
    · cases h1
  · obtain ⟨q, hq, h1⟩ := bind_s h
    obtain ⟨q1, q2⟩ := q
    dsimp only at h1
    split at h1
    · exact absurd h1 xnx_n
    · exact absurd h1 xnx_n
    · cases h1
  · obtain ⟨x, hg, h1⟩ := gI_s h
    exact absurd h1 xnx_n
  · obtain ⟨x, hg, h1⟩ := gI_s h
    exact absurd h1 xnx_n
  · obtain ⟨x, hg, h1⟩ := gL_s h
    exact absurd h1 xnx_n
  · obtain ⟨x, hg, h1⟩ := gL_s h
    exact absurd h1 xnx_n
  · obtain ⟨x, hg, h1⟩ := gF_s h
    exact absurd h1 xnx_n
  · obtain ⟨x, hg, h1⟩ := gD_s h
    exact absurd h1 xnx_n
  · obtain ⟨x, hg, h1⟩ := gD_s h
    exact absurd h1 xnx_n
  · obtain ⟨x, hg, h1⟩ := gA_s h
    exact absurd h1 xnx_n
  · obtain ⟨x, hg, h1⟩ := gA_s h
    exact absurd h1 xnx_n
  · obtain ⟨x, r_x, e_x, h1⟩ := pI_s h; subst e_x
    obtain ⟨l2, hg, h2⟩ := bind_s h1
    exact absurd h2 xnx_n
  · obtain ⟨x, r_x, e_x, h1⟩ := pI_s h; subst e_x
    obtain ⟨l2, hg, h2⟩ := bind_s h1
    exact absurd h2 xnx_n
  · obtain ⟨x, r_x, e_x, h1⟩ := pL_s h; subst e_x
    obtain ⟨l2, hg, h2⟩ := bind_s h1
    exact absurd h2 xnx_n
  · obtain ⟨x, r_x, e_x, h1⟩ := pL_s h; subst e_x
    obtain ⟨l2, hg, h2⟩ := bind_s h1
    exact absurd h2 xnx_n
  · obtain ⟨x, r_x, e_x, h1⟩ := pD_s h; subst e_x
    obtain ⟨l2, hg, h2⟩ := bind_s h1
    exact absurd h2 xnx_n
  · obtain ⟨x, r_x, e_x, h1⟩ := pA_s h; subst e_x
    obtain ⟨l2, hg, h2⟩ := bind_s h1
    exact absurd h2 xnx_n
  · obtain ⟨x, r_x, e_x, h1⟩ := pA_s h; subst e_x
    obtain ⟨l2, hg, h2⟩ := bind_s h1
    exact absurd h2 xnx_n
  · obtain ⟨x, hx0, h1⟩ := gI_s h
    obtain ⟨l2, hg, h2⟩ := bind_s h1
    exact absurd h2 xnx_n
  · obtain ⟨y, r_y, e_y, h1⟩ := pI_s h; subst e_y
    obtain ⟨x, r_x, e_x, h2⟩ := pI_s h1; subst e_x
    exact absurd h2 xnx_n
  · obtain ⟨y, r_y, e_y, h1⟩ := pI_s h; subst e_y
    obtain ⟨x, r_x, e_x, h2⟩ := pI_s h1; subst e_x
    exact absurd h2 xnx_n
  · obtain ⟨y, r_y, e_y, h1⟩ := pI_s h; subst e_y
    obtain ⟨x, r_x, e_x, h2⟩ := pI_s h1; subst e_x
    exact absurd h2 xnx_n
  · obtain ⟨y, r_y, e_y, h1⟩ := pI_s h; subst e_y
    obtain ⟨x, r_x, e_x, h2⟩ := pI_s h1; subst e_x
    split at h2
    · cases h2
    · next hy => exact absurd h2 xnx_n
  · obtain ⟨y, r_y, e_y, h1⟩ := pI_s h; subst e_y
    obtain ⟨x, r_x, e_x, h2⟩ := pI_s h1; subst e_x
    split at h2
    · cases h2
    · next hy => exact absurd h2 xnx_n
  · obtain ⟨y, r_y, e_y, h1⟩ := pI_s h; subst e_y
    obtain ⟨x, r_x, e_x, h2⟩ := pI_s h1; subst e_x
    exact absurd h2 xnx_n
  · obtain ⟨y, r_y, e_y, h1⟩ := pI_s h; subst e_y
    obtain ⟨x, r_x, e_x, h2⟩ := pI_s h1; subst e_x
    exact absurd h2 xnx_n
  · obtain ⟨y, r_y, e_y, h1⟩ := pL_s h; subst e_y
    obtain ⟨x, r_x, e_x, h2⟩ := pL_s h1; subst e_x
    exact absurd h2 xnx_n
  · obtain ⟨y, r_y, e_y, h1⟩ := pL_s h; subst e_y
    obtain ⟨x, r_x, e_x, h2⟩ := pL_s h1; subst e_x
    exact absurd h2 xnx_n
  · obtain ⟨y, r_y, e_y, h1⟩ := pL_s h; subst e_y
    obtain ⟨x, r_x, e_x, h2⟩ := pL_s h1; subst e_x
    exact absurd h2 xnx_n
  · obtain ⟨y, r_y, e_y, h1⟩ := pL_s h; subst e_y
    obtain ⟨x, r_x, e_x, h2⟩ := pL_s h1; subst e_x
    exact absurd h2 xnx_n
  · obtain ⟨y, r_y, e_y, h1⟩ := pL_s h; subst e_y
    obtain ⟨x, r_x, e_x, h2⟩ := pL_s h1; subst e_x
    exact absurd h2 xnx_n
  · obtain ⟨y, r_y, e_y, h1⟩ := pL_s h; subst e_y
    obtain ⟨x, r_x, e_x, h2⟩ := pL_s h1; subst e_x
    exact absurd h2 xnx_n
  · obtain ⟨x, r_x, e_x, h1⟩ := pL_s h; subst e_x
    exact absurd h1 xnx_n
  · obtain ⟨y, r_y, e_y, h1⟩ := pI_s h; subst e_y
    obtain ⟨x, r_x, e_x, h2⟩ := pL_s h1; subst e_x
    exact absurd h2 xnx_n
  · obtain ⟨y, r_y, e_y, h1⟩ := pI_s h; subst e_y
    obtain ⟨x, r_x, e_x, h2⟩ := pL_s h1; subst e_x
    exact absurd h2 xnx_n
  · obtain ⟨y, r_y, e_y, h1⟩ := pL_s h; subst e_y
    obtain ⟨x, r_x, e_x, h2⟩ := pL_s h1; subst e_x
    exact absurd h2 xnx_n
  · obtain ⟨x, r_x, e_x, h1⟩ := pI_s h; subst e_x
    exact absurd h1 xnx_n
  · obtain ⟨x, r_x, e_x, h1⟩ := pL_s h; subst e_x
    exact absurd h1 xnx_n
  · obtain ⟨x, r_x, e_x, h1⟩ := pI_s h; subst e_x
    exact absurd h1 xnx_n
  · obtain ⟨x, r_x, e_x, h1⟩ := pI_s h; subst e_x
    exact absurd h1 xnx_n
  · obtain ⟨x, r_x, e_x, h1⟩ := pL_s h; subst e_x
    exact absurd h1 xnx_n
  · obtain ⟨x, r_x, e_x, h1⟩ := pD_s h; subst e_x
    exact absurd h1 xnx_n
  · obtain ⟨x, r_x, e_x, h1⟩ := pF_s h; subst e_x
    obtain ⟨hn, h2⟩ := ite_s h1
    exact absurd h2 xnx_n
  · obtain ⟨y, r_y, e_y, h1⟩ := pF_s h; subst e_y
    obtain ⟨x, r_x, e_x, h2⟩ := pF_s h1; subst e_x
    obtain ⟨hn, h3⟩ := ite_s h2
    exact absurd h3 xnx_n
  · obtain ⟨y, r_y, e_y, h1⟩ := pD_s h; subst e_y
    obtain ⟨x, r_x, e_x, h2⟩ := pD_s h1; subst e_x
    obtain ⟨hn, h3⟩ := ite_s h2
    exact absurd h3 xnx_n
  · obtain ⟨y, r_y, e_y, h1⟩ := pD_s h; subst e_y
    obtain ⟨x, r_x, e_x, h2⟩ := pD_s h1; subst e_x
    obtain ⟨hn, h3⟩ := ite_s h2
    exact absurd h3 xnx_n
  · obtain ⟨y, r_y, e_y, h1⟩ := pD_s h; subst e_y
    obtain ⟨x, r_x, e_x, h2⟩ := pD_s h1; subst e_x
    obtain ⟨hn, h3⟩ := ite_s h2
    exact absurd h3 xnx_n
  · obtain ⟨y, r_y, e_y, h1⟩ := pF_s h; subst e_y
    obtain ⟨x, r_x, e_x, h2⟩ := pF_s h1; subst e_x
    exact absurd h2 xnx_n
  · obtain ⟨y, r_y, e_y, h1⟩ := pD_s h; subst e_y
    obtain ⟨x, r_x, e_x, h2⟩ := pD_s h1; subst e_x
    exact absurd h2 xnx_n
  · obtain ⟨v, r_v, e_v, h1⟩ := pV_s h; subst e_v
    obtain ⟨hv, h2⟩ := ite_s h1
    exact absurd h2 xnx_n
  · obtain ⟨v, r_v, e_v, h1⟩ := pV_s h; subst e_v
    obtain ⟨hv, h2⟩ := ite_s h1
    exact absurd h2 xnx_n
  · obtain ⟨v, r_v, e_v, h1⟩ := pV_s h; subst e_v
    split at h1
    · next hv => exact absurd h1 xnx_n
    · obtain ⟨w, r_w, e_w, h2⟩ := pV_s h1; subst e_w; obtain ⟨⟨hv, hw⟩, h3⟩ := ite_s h2; exact absurd h3 xnx_n
  · exact absurd h xgo_n
  · obtain ⟨x, r_x, e_x, h1⟩ := pI_s h; subst e_x
    exact absurd h1 xIf_n
  · obtain ⟨x, r_x, e_x, h1⟩ := pI_s h; subst e_x
    exact absurd h1 xIf_n
  · obtain ⟨x, r_x, e_x, h1⟩ := pI_s h; subst e_x
    exact absurd h1 xIf_n
  · obtain ⟨x, r_x, e_x, h1⟩ := pI_s h; subst e_x
    exact absurd h1 xIf_n
  · obtain ⟨x, r_x, e_x, h1⟩ := pI_s h; subst e_x
    exact absurd h1 xIf_n
  · obtain ⟨x, r_x, e_x, h1⟩ := pI_s h; subst e_x
    exact absurd h1 xIf_n
  · obtain ⟨y, r_y, e_y, h1⟩ := pI_s h; subst e_y
    obtain ⟨x, r_x, e_x, h2⟩ := pI_s h1; subst e_x
    exact absurd h2 xIf_n
  · obtain ⟨y, r_y, e_y, h1⟩ := pI_s h; subst e_y
    obtain ⟨x, r_x, e_x, h2⟩ := pI_s h1; subst e_x
    exact absurd h2 xIf_n
  · obtain ⟨y, r_y, e_y, h1⟩ := pI_s h; subst e_y
    obtain ⟨x, r_x, e_x, h2⟩ := pI_s h1; subst e_x
    exact absurd h2 xIf_n
  · obtain ⟨y, r_y, e_y, h1⟩ := pI_s h; subst e_y
    obtain ⟨x, r_x, e_x, h2⟩ := pI_s h1; subst e_x
    exact absurd h2 xIf_n
  · obtain ⟨y, r_y, e_y, h1⟩ := pI_s h; subst e_y
    obtain ⟨x, r_x, e_x, h2⟩ := pI_s h1; subst e_x
    exact absurd h2 xIf_n
  · obtain ⟨y, r_y, e_y, h1⟩ := pI_s h; subst e_y
    obtain ⟨x, r_x, e_x, h2⟩ := pI_s h1; subst e_x
    exact absurd h2 xIf_n
  · obtain ⟨x, r_x, e_x, h1⟩ := pI_s h; subst e_x
    split at h1
    · next q => exact absurd h1 xgo_n
    · next q => obtain ⟨o, ho, h2⟩ := bind_s h1; exact absurd h2 xgo_n
  · obtain ⟨x, r_x, e_x, h1⟩ := pI_s h; subst e_x
    obtain ⟨hp, h2⟩ := ite_s h1
    exact absurd h2 xgo_n
  · obtain ⟨⟨ci, k2, pl⟩, hq, h1⟩ := bind_s h
    obtain ⟨a, r_a, e_a, h2⟩ := pA_s h1; subst e_a
    obtain ⟨v, hv, h3⟩ := bind_s h2
    exact absurd h3 xnx_n
  · obtain ⟨⟨ci, k2, pl⟩, hq, h1⟩ := bind_s h
    obtain ⟨v, r_v, e_v, h2⟩ := pV_s h1; subst e_v
    obtain ⟨a, r_a, e_a, h3⟩ := pA_s h2; subst e_a
    obtain ⟨ty, hty, h4⟩ := bind_s h3
    obtain ⟨⟨hfit, hfin⟩, h5⟩ := ite_s h4
    obtain ⟨σ2, hs2, h6⟩ := bind_s h5
    exact absurd h6 xnx_n
  · obtain ⟨i, r_i, e_i, h1⟩ := pI_s h; subst e_i
    obtain ⟨a, r_a, e_a, h2⟩ := pA_s h1; subst e_a
    split at h2
    · next q hq => obtain ⟨hi, h3⟩ := ite_s h2; exact absurd h3 xnx_n
    · obtain ⟨q, hq, h3⟩ := bind_s h2; obtain ⟨⟨hx3, hi⟩, h4⟩ := ite_s h3; exact absurd h4 xnx_n
  · obtain ⟨i, r_i, e_i, h1⟩ := pI_s h; subst e_i
    obtain ⟨a, r_a, e_a, h2⟩ := pA_s h1; subst e_a
    obtain ⟨q, hq, h3⟩ := bind_s h2
    obtain ⟨⟨hi, ht⟩, h4⟩ := ite_s h3
    exact absurd h4 xnx_n
  · obtain ⟨x, r_x, e_x, h1⟩ := pI_s h; subst e_x
    obtain ⟨i, r_i, e_i, h2⟩ := pI_s h1; subst e_i
    obtain ⟨a, r_a, e_a, h3⟩ := pA_s h2; subst e_a
    obtain ⟨q, hq, h4⟩ := bind_s h3
    obtain ⟨hi, h5⟩ := ite_s h4
    exact absurd h5 xnx_n
  · obtain ⟨v, r_v, e_v, h1⟩ := pA_s h; subst e_v
    obtain ⟨i, r_i, e_i, h2⟩ := pI_s h1; subst e_i
    obtain ⟨a, r_a, e_a, h3⟩ := pA_s h2; subst e_a
    obtain ⟨q, hq, h4⟩ := bind_s h3
    obtain ⟨⟨hi, hv⟩, h5⟩ := ite_s h4
    exact absurd h5 xnx_n
  · obtain ⟨a, r_a, e_a, h1⟩ := pA_s h; subst e_a
    obtain ⟨q, hq, h2⟩ := bind_s h1
    obtain ⟨hx3, h3⟩ := ite_s h2
    exact absurd h3 xnx_n
  · obtain ⟨n, r_n, e_n, h1⟩ := pI_s h; subst e_n
    obtain ⟨⟨hx0, hN, hg, hx9⟩, h2⟩ := ite_s h1
    exact absurd h2 xnx_n
  · obtain ⟨⟨ci, pl⟩, hq, h1⟩ := bind_s h
    obtain ⟨t, ht, h2⟩ := bind_s h1
    obtain ⟨n, r_n, e_n, h3⟩ := pI_s h2; subst e_n
    obtain ⟨⟨hx0, hN, hg, hx9⟩, h4⟩ := ite_s h3
    exact absurd h4 xnx_n
  · next k1 => split at h
               · obtain ⟨-, h1⟩ := ite_s h; exact absurd h1 xnx_n
               · next hno => obtain ⟨q, hq, h1⟩ := bind_s h; obtain ⟨⟨hth, hw⟩, h2⟩ := ite_s h1; cases h2; exact ⟨k1, q.2, rfl, rfl, hno, hq, hth, hw, rfl⟩
  · obtain ⟨⟨kd, ν, n, p1, p2, p3, p4⟩, hq, h1⟩ := bind_s h
    dsimp only at h1
    split at h1
    · obtain ⟨w, -, h2⟩ := bind_s h1; obtain ⟨f, -, -, -, -, h3⟩ := xcal_s h2; cases h3
    · obtain ⟨w, -, h2⟩ := bind_s h1; obtain ⟨f, -, -, -, -, h3⟩ := xcal_s h2; cases h3
    · obtain ⟨w, -, h2⟩ := bind_s h1; obtain ⟨f, -, -, -, -, h3⟩ := xcal_s h2; cases h3
    · obtain ⟨w, -, h2⟩ := bind_s h1; obtain ⟨-, h3⟩ := ite_s h2; obtain ⟨f, -, -, -, -, h4⟩ := xcal_s h3; cases h4
    · obtain ⟨n1, r_n1, e_n1, h2⟩ := pI_s h1; subst e_n1; obtain ⟨dp, r_dp, e_dp, h3⟩ := pI_s h2; subst e_dp; obtain ⟨a, r_a, e_a, h4⟩ := pA_s h3; subst e_a; obtain ⟨sp, r_sp, e_sp, h5⟩ := pI_s h4; subst e_sp; obtain ⟨a0, r_a0, e_a0, h6⟩ := pA_s h5; subst e_a0; obtain ⟨q0, hq0, h7⟩ := bind_s h6; obtain ⟨q1, hq1, h8⟩ := bind_s h7; obtain ⟨hh, h9⟩ := ite_s h8; exact absurd h9 xnx_n
    · obtain ⟨y, r_y, e_y, h2⟩ := pI_s h1; subst e_y; obtain ⟨x, r_x, e_x, h3⟩ := pI_s h2; subst e_x; obtain ⟨hw, h4⟩ := ite_s h3; exact absurd h4 xnx_n
    · obtain ⟨y, r_y, e_y, h2⟩ := pI_s h1; subst e_y; obtain ⟨x, r_x, e_x, h3⟩ := pI_s h2; subst e_x; obtain ⟨hw, h4⟩ := ite_s h3; exact absurd h4 xnx_n
    · obtain ⟨x, r_x, e_x, h2⟩ := pD_s h1; subst e_x; obtain ⟨hw, h3⟩ := ite_s h2; exact absurd h3 xnx_n
    · obtain ⟨x, r_x, e_x, h2⟩ := pF_s h1; subst e_x; obtain ⟨hw, h3⟩ := ite_s h2; exact absurd h3 xnx_n
    · cases h1
  · obtain ⟨⟨kd, ν, n, p1, p2, p3, p4⟩, hq, h1⟩ := bind_s h
    dsimp only at h1
    split at h1
    · obtain ⟨w, -, h2⟩ := bind_s h1; obtain ⟨a, r_a, -, h3⟩ := pA_s h2; obtain ⟨f, -, h4⟩ := bind_s h3; obtain ⟨-, h5⟩ := ite_s h4; obtain ⟨f, -, -, -, -, h6⟩ := xcal_s h5; cases h6
    · obtain ⟨w, -, h2⟩ := bind_s h1; obtain ⟨a, r_a, -, h3⟩ := pA_s h2; obtain ⟨f, -, h4⟩ := bind_s h3; obtain ⟨-, h5⟩ := ite_s h4; obtain ⟨f, -, -, -, -, h6⟩ := xcal_s h5; cases h6
    · cases h1
  · obtain ⟨⟨kd, ν, n, p1, p2, p3, p4⟩, hq, h1⟩ := bind_s h
    dsimp only at h1
    split at h1
    · obtain ⟨w, -, h2⟩ := bind_s h1; obtain ⟨a, r_a, -, h3⟩ := pA_s h2; obtain ⟨f, -, -, -, -, h4⟩ := xcal_s h3; cases h4
    · obtain ⟨a, r_a, e_a, h2⟩ := pA_s h1; subst e_a; obtain ⟨hw, h3⟩ := ite_s h2; exact absurd h3 xnx_n
    · cases h1
  · obtain ⟨x, r_x, e_x, h1⟩ := pI_s h; subst e_x
    obtain ⟨-, h2⟩ := pZ_s h1
    split at h2
    · cases h2
    · obtain ⟨-, h3⟩ := ite_s h2; cases h3
    · cases h2
  · obtain ⟨x, r_x, e_x, h1⟩ := pL_s h; subst e_x
    obtain ⟨-, h2⟩ := pZ_s h1
    split at h2
    · cases h2
    · cases h2
  · obtain ⟨x, r_x, e_x, h1⟩ := pF_s h; subst e_x
    obtain ⟨-, h2⟩ := pZ_s h1
    split at h2
    · cases h2
    · cases h2
  · obtain ⟨x, r_x, e_x, h1⟩ := pD_s h; subst e_x
    obtain ⟨-, h2⟩ := pZ_s h1
    split at h2
    · cases h2
    · cases h2
  · obtain ⟨-, h1⟩ := pZ_s h
    split at h1
    · cases h1
    · cases h1
  · cases h
