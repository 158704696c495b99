section XE
variable {p : Program} {l : Launch} {e : Env} {R : Room} {s : State} {m : MethodId} {args : Array Value} {below : List Frame} {meth : Method} {c : Code} {Q : State → Prop} {D : va_G} {cA : Nat → ClassId} {B b k0 z0 : Nat} {en : xMe} {pc : Nat} {ls : xL} {r : List Value} {σ : xS}
set_option maxHeartbeats 4000000 in
set_option maxRecDepth 100000 in
/-- a step that goes on -/
theorem xnext {pc' len : Nat} {i : Instr} {ls' : xL} {st st' : List Value} {σ' : xS} (E : xEnv p l e R s m args below meth c D cA B b en) (hd : decode en.2.1 pc = .ok (i, len)) (h : xDo en pc ls st σ i len = some (.inl (pc', ls', st', σ'))) (hroom : σ'.2.1 + σ'.2.2.1 ≤ k0 + R.cells ∧ σ'.2.2.2 ≤ z0 + R.slots) (k : xT p l e R s m args below meth c Q D cA B b k0 z0 en (pc') (ls') (st') (σ')) : xT p l e R s m args below meth c Q D cA B b k0 z0 en (pc) (ls) (st) (σ) := by
  unfold xDo at h
  split at h
  · obtain ⟨rfl, rfl, rfl, rfl⟩ := xnx_s h
    exact n_iconst E hd k
  · obtain ⟨rfl, rfl, rfl, rfl⟩ := xnx_s h
    exact n_bipush E hd k
  · obtain ⟨rfl, rfl, rfl, rfl⟩ := xnx_s h
    exact n_sipush E hd k
  · obtain ⟨rfl, rfl, rfl, rfl⟩ := xnx_s h
    exact n_lconst E hd k
  · obtain ⟨e_q, h1⟩ := ite_s h; subst e_q
    obtain ⟨rfl, rfl, rfl, rfl⟩ := xnx_s h1
    exact n_fconst0 E hd k
  · split at h
    · next q => subst q; obtain ⟨rfl, rfl, rfl, rfl⟩ := xnx_s h; exact n_dconst0 E hd k
    · obtain ⟨e_q, h1⟩ := ite_s h; subst e_q; obtain ⟨rfl, rfl, rfl, rfl⟩ := xnx_s h1; exact n_dconst1 E hd k
  · obtain ⟨q, hq, h1⟩ := bind_s h
    obtain ⟨q1, q2⟩ := q
    dsimp only at h1
    split at h1
    · obtain ⟨rfl, rfl, rfl, rfl⟩ := xnx_s h1; exact n_ldc E hd hq k
    · cases h1
  · obtain ⟨q, hq, h1⟩ := bind_s h
    obtain ⟨q1, q2⟩ := q
    dsimp only at h1
    split at h1
    · obtain ⟨rfl, rfl, rfl, rfl⟩ := xnx_s h1; exact n_ldc2l E hd hq k
    · obtain ⟨rfl, rfl, rfl, rfl⟩ := xnx_s h1; exact n_ldc2d E hd hq k
    · cases h1
  · obtain ⟨x, hg, h1⟩ := gI_s h
    obtain ⟨rfl, rfl, rfl, rfl⟩ := xnx_s h1
    exact n_iload_n E hd hg k
  · obtain ⟨x, hg, h1⟩ := gI_s h
    obtain ⟨rfl, rfl, rfl, rfl⟩ := xnx_s h1
    exact n_iload E hd hg k
  · obtain ⟨x, hg, h1⟩ := gL_s h
    obtain ⟨rfl, rfl, rfl, rfl⟩ := xnx_s h1
    exact n_lload_n E hd hg k
  · obtain ⟨x, hg, h1⟩ := gL_s h
    obtain ⟨rfl, rfl, rfl, rfl⟩ := xnx_s h1
    exact n_lload E hd hg k
  · obtain ⟨x, hg, h1⟩ := gF_s h
    obtain ⟨rfl, rfl, rfl, rfl⟩ := xnx_s h1
    exact n_fload_n E hd hg k
  · obtain ⟨x, hg, h1⟩ := gD_s h
    obtain ⟨rfl, rfl, rfl, rfl⟩ := xnx_s h1
    exact n_dload_n E hd hg k
  · obtain ⟨x, hg, h1⟩ := gD_s h
    obtain ⟨rfl, rfl, rfl, rfl⟩ := xnx_s h1
    exact n_dload E hd hg k
  · obtain ⟨x, hg, h1⟩ := gA_s h
    obtain ⟨rfl, rfl, rfl, rfl⟩ := xnx_s h1
    exact n_aload_n E hd hg k
  · obtain ⟨x, hg, h1⟩ := gA_s h
    obtain ⟨rfl, rfl, rfl, rfl⟩ := xnx_s h1
    exact n_aload E hd hg k
  · obtain ⟨x, r_x, e_x, h1⟩ := pI_s h; subst e_x
    obtain ⟨l2, hg, h2⟩ := bind_s h1
    obtain ⟨rfl, rfl, rfl, rfl⟩ := xnx_s h2
    exact n_istore_n E hd hg (fun z hz => by cases hz; rfl) k
  · obtain ⟨x, r_x, e_x, h1⟩ := pI_s h; subst e_x
    obtain ⟨l2, hg, h2⟩ := bind_s h1
    obtain ⟨rfl, rfl, rfl, rfl⟩ := xnx_s h2
    exact n_istore E hd hg (fun z hz => by cases hz; rfl) k
  · obtain ⟨x, r_x, e_x, h1⟩ := pL_s h; subst e_x
    obtain ⟨l2, hg, h2⟩ := bind_s h1
    obtain ⟨rfl, rfl, rfl, rfl⟩ := xnx_s h2
    exact n_lstore_n E hd hg k
  · obtain ⟨x, r_x, e_x, h1⟩ := pL_s h; subst e_x
    obtain ⟨l2, hg, h2⟩ := bind_s h1
    obtain ⟨rfl, rfl, rfl, rfl⟩ := xnx_s h2
    exact n_lstore E hd hg k
  · obtain ⟨x, r_x, e_x, h1⟩ := pD_s h; subst e_x
    obtain ⟨l2, hg, h2⟩ := bind_s h1
    obtain ⟨rfl, rfl, rfl, rfl⟩ := xnx_s h2
    exact n_dstore E hd hg k
  · obtain ⟨x, r_x, e_x, h1⟩ := pA_s h; subst e_x
    obtain ⟨l2, hg, h2⟩ := bind_s h1
    obtain ⟨rfl, rfl, rfl, rfl⟩ := xnx_s h2
    exact n_astore_n E hd hg (fun z hz => by cases hz; rfl) k
  · obtain ⟨x, r_x, e_x, h1⟩ := pA_s h; subst e_x
    obtain ⟨l2, hg, h2⟩ := bind_s h1
    obtain ⟨rfl, rfl, rfl, rfl⟩ := xnx_s h2
    exact n_astore E hd hg (fun z hz => by cases hz; rfl) k
  · obtain ⟨x, hx0, h1⟩ := gI_s h
    obtain ⟨l2, hg, h2⟩ := bind_s h1
    obtain ⟨rfl, rfl, rfl, rfl⟩ := xnx_s h2
    exact n_iinc E hd hx0 hg k
  · obtain ⟨y, r_y, e_y, h1⟩ := pI_s h; subst e_y
    obtain ⟨x, r_x, e_x, h2⟩ := pI_s h1; subst e_x
    obtain ⟨rfl, rfl, rfl, rfl⟩ := xnx_s h2
    exact n_iadd E hd k
  · obtain ⟨y, r_y, e_y, h1⟩ := pI_s h; subst e_y
    obtain ⟨x, r_x, e_x, h2⟩ := pI_s h1; subst e_x
    obtain ⟨rfl, rfl, rfl, rfl⟩ := xnx_s h2
    exact n_isub E hd k
  · obtain ⟨y, r_y, e_y, h1⟩ := pI_s h; subst e_y
    obtain ⟨x, r_x, e_x, h2⟩ := pI_s h1; subst e_x
    obtain ⟨rfl, rfl, rfl, rfl⟩ := xnx_s h2
    exact n_imul E hd k
  · obtain ⟨y, r_y, e_y, h1⟩ := pI_s h; subst e_y
    obtain ⟨x, r_x, e_x, h2⟩ := pI_s h1; subst e_x
    split at h2
    · cases h2
    · next hy => obtain ⟨rfl, rfl, rfl, rfl⟩ := xnx_s h2; exact n_idiv E hd hy k
  · obtain ⟨y, r_y, e_y, h1⟩ := pI_s h; subst e_y
    obtain ⟨x, r_x, e_x, h2⟩ := pI_s h1; subst e_x
    split at h2
    · cases h2
    · next hy => obtain ⟨rfl, rfl, rfl, rfl⟩ := xnx_s h2; exact n_irem E hd hy k
  · obtain ⟨y, r_y, e_y, h1⟩ := pI_s h; subst e_y
    obtain ⟨x, r_x, e_x, h2⟩ := pI_s h1; subst e_x
    obtain ⟨rfl, rfl, rfl, rfl⟩ := xnx_s h2
    exact n_iand E hd k
  · obtain ⟨y, r_y, e_y, h1⟩ := pI_s h; subst e_y
    obtain ⟨x, r_x, e_x, h2⟩ := pI_s h1; subst e_x
    obtain ⟨rfl, rfl, rfl, rfl⟩ := xnx_s h2
    exact n_ishr E hd k
  · obtain ⟨y, r_y, e_y, h1⟩ := pL_s h; subst e_y
    obtain ⟨x, r_x, e_x, h2⟩ := pL_s h1; subst e_x
    obtain ⟨rfl, rfl, rfl, rfl⟩ := xnx_s h2
    exact n_ladd E hd k
  · obtain ⟨y, r_y, e_y, h1⟩ := pL_s h; subst e_y
    obtain ⟨x, r_x, e_x, h2⟩ := pL_s h1; subst e_x
    obtain ⟨rfl, rfl, rfl, rfl⟩ := xnx_s h2
    exact n_lsub E hd k
  · obtain ⟨y, r_y, e_y, h1⟩ := pL_s h; subst e_y
    obtain ⟨x, r_x, e_x, h2⟩ := pL_s h1; subst e_x
    obtain ⟨rfl, rfl, rfl, rfl⟩ := xnx_s h2
    exact n_lmul E hd k
  · obtain ⟨y, r_y, e_y, h1⟩ := pL_s h; subst e_y
    obtain ⟨x, r_x, e_x, h2⟩ := pL_s h1; subst e_x
    obtain ⟨rfl, rfl, rfl, rfl⟩ := xnx_s h2
    exact n_land E hd k
  · obtain ⟨y, r_y, e_y, h1⟩ := pL_s h; subst e_y
    obtain ⟨x, r_x, e_x, h2⟩ := pL_s h1; subst e_x
    obtain ⟨rfl, rfl, rfl, rfl⟩ := xnx_s h2
    exact n_lor E hd k
  · obtain ⟨y, r_y, e_y, h1⟩ := pL_s h; subst e_y
    obtain ⟨x, r_x, e_x, h2⟩ := pL_s h1; subst e_x
    obtain ⟨rfl, rfl, rfl, rfl⟩ := xnx_s h2
    exact n_lxor E hd k
  · obtain ⟨x, r_x, e_x, h1⟩ := pL_s h; subst e_x
    obtain ⟨rfl, rfl, rfl, rfl⟩ := xnx_s h1
    exact n_lneg E hd k
  · obtain ⟨y, r_y, e_y, h1⟩ := pI_s h; subst e_y
    obtain ⟨x, r_x, e_x, h2⟩ := pL_s h1; subst e_x
    obtain ⟨rfl, rfl, rfl, rfl⟩ := xnx_s h2
    exact n_lshl E hd k
  · obtain ⟨y, r_y, e_y, h1⟩ := pI_s h; subst e_y
    obtain ⟨x, r_x, e_x, h2⟩ := pL_s h1; subst e_x
    obtain ⟨rfl, rfl, rfl, rfl⟩ := xnx_s h2
    exact n_lushr E hd k
  · obtain ⟨y, r_y, e_y, h1⟩ := pL_s h; subst e_y
    obtain ⟨x, r_x, e_x, h2⟩ := pL_s h1; subst e_x
    obtain ⟨rfl, rfl, rfl, rfl⟩ := xnx_s h2
    exact n_lcmp E hd k
  · obtain ⟨x, r_x, e_x, h1⟩ := pI_s h; subst e_x
    obtain ⟨rfl, rfl, rfl, rfl⟩ := xnx_s h1
    exact n_i2l E hd k
  · obtain ⟨x, r_x, e_x, h1⟩ := pL_s h; subst e_x
    obtain ⟨rfl, rfl, rfl, rfl⟩ := xnx_s h1
    exact n_l2i E hd k
  · obtain ⟨x, r_x, e_x, h1⟩ := pI_s h; subst e_x
    obtain ⟨rfl, rfl, rfl, rfl⟩ := xnx_s h1
    exact n_i2f E hd k
  · obtain ⟨x, r_x, e_x, h1⟩ := pI_s h; subst e_x
    obtain ⟨rfl, rfl, rfl, rfl⟩ := xnx_s h1
    exact n_i2d E hd k
  · obtain ⟨x, r_x, e_x, h1⟩ := pL_s h; subst e_x
    obtain ⟨rfl, rfl, rfl, rfl⟩ := xnx_s h1
    exact n_l2d E hd k
  · obtain ⟨x, r_x, e_x, h1⟩ := pD_s h; subst e_x
    obtain ⟨rfl, rfl, rfl, rfl⟩ := xnx_s h1
    exact n_d2l E hd k
  · obtain ⟨x, r_x, e_x, h1⟩ := pF_s h; subst e_x
    obtain ⟨hn, h2⟩ := ite_s h1
    obtain ⟨rfl, rfl, rfl, rfl⟩ := xnx_s h2
    exact n_f2d E hd hn k
  · obtain ⟨y, r_y, e_y, h1⟩ := pF_s h; subst e_y
    obtain ⟨x, r_x, e_x, h2⟩ := pF_s h1; subst e_x
    obtain ⟨hn, h3⟩ := ite_s h2
    obtain ⟨rfl, rfl, rfl, rfl⟩ := xnx_s h3
    exact n_fdiv E hd hn k
  · obtain ⟨y, r_y, e_y, h1⟩ := pD_s h; subst e_y
    obtain ⟨x, r_x, e_x, h2⟩ := pD_s h1; subst e_x
    obtain ⟨hn, h3⟩ := ite_s h2
    obtain ⟨rfl, rfl, rfl, rfl⟩ := xnx_s h3
    exact n_ddiv E hd hn k
  · obtain ⟨y, r_y, e_y, h1⟩ := pD_s h; subst e_y
    obtain ⟨x, r_x, e_x, h2⟩ := pD_s h1; subst e_x
    obtain ⟨hn, h3⟩ := ite_s h2
    obtain ⟨rfl, rfl, rfl, rfl⟩ := xnx_s h3
    exact n_dmul E hd hn k
  · obtain ⟨y, r_y, e_y, h1⟩ := pD_s h; subst e_y
    obtain ⟨x, r_x, e_x, h2⟩ := pD_s h1; subst e_x
    obtain ⟨hn, h3⟩ := ite_s h2
    obtain ⟨rfl, rfl, rfl, rfl⟩ := xnx_s h3
    exact n_dsub E hd hn k
  · obtain ⟨y, r_y, e_y, h1⟩ := pF_s h; subst e_y
    obtain ⟨x, r_x, e_x, h2⟩ := pF_s h1; subst e_x
    obtain ⟨rfl, rfl, rfl, rfl⟩ := xnx_s h2
    exact n_fcmp E hd k
  · obtain ⟨y, r_y, e_y, h1⟩ := pD_s h; subst e_y
    obtain ⟨x, r_x, e_x, h2⟩ := pD_s h1; subst e_x
    obtain ⟨rfl, rfl, rfl, rfl⟩ := xnx_s h2
    exact n_dcmp E hd k
  · obtain ⟨v, r_v, e_v, h1⟩ := pV_s h; subst e_v
    obtain ⟨hv, h2⟩ := ite_s h1
    obtain ⟨rfl, rfl, rfl, rfl⟩ := xnx_s h2
    exact n_dup E hd hv k
  · obtain ⟨v, r_v, e_v, h1⟩ := pV_s h; subst e_v
    obtain ⟨hv, h2⟩ := ite_s h1
    obtain ⟨rfl, rfl, rfl, rfl⟩ := xnx_s h2
    exact n_pop E hd hv k
  · obtain ⟨v, r_v, e_v, h1⟩ := pV_s h; subst e_v
    split at h1
    · next hv => obtain ⟨rfl, rfl, rfl, rfl⟩ := xnx_s h1; exact n_dup2a E hd hv k
    · obtain ⟨w, r_w, e_w, h2⟩ := pV_s h1; subst e_w; obtain ⟨⟨hv, hw⟩, h3⟩ := ite_s h2; obtain ⟨rfl, rfl, rfl, rfl⟩ := xnx_s h3; exact n_dup2b E hd hv hw k
  · obtain ⟨ht, rfl, rfl, rfl⟩ := xgo_s h
    exact n_goto E hd ht k
  · obtain ⟨x, r_x, e_x, h1⟩ := pI_s h; subst e_x
    obtain ⟨rfl, rfl, rfl, t, ht, rfl⟩ := xIf_s h1
    exact n_if_eq E hd ht k
  · obtain ⟨x, r_x, e_x, h1⟩ := pI_s h; subst e_x
    obtain ⟨rfl, rfl, rfl, t, ht, rfl⟩ := xIf_s h1
    exact n_if_ne E hd ht k
  · obtain ⟨x, r_x, e_x, h1⟩ := pI_s h; subst e_x
    obtain ⟨rfl, rfl, rfl, t, ht, rfl⟩ := xIf_s h1
    exact n_if_lt E hd ht k
  · obtain ⟨x, r_x, e_x, h1⟩ := pI_s h; subst e_x
    obtain ⟨rfl, rfl, rfl, t, ht, rfl⟩ := xIf_s h1
    exact n_if_ge E hd ht k
  · obtain ⟨x, r_x, e_x, h1⟩ := pI_s h; subst e_x
    obtain ⟨rfl, rfl, rfl, t, ht, rfl⟩ := xIf_s h1
    exact n_if_gt E hd ht k
  · obtain ⟨x, r_x, e_x, h1⟩ := pI_s h; subst e_x
    obtain ⟨rfl, rfl, rfl, t, ht, rfl⟩ := xIf_s h1
    exact n_if_le E hd ht k
  · obtain ⟨y, r_y, e_y, h1⟩ := pI_s h; subst e_y
    obtain ⟨x, r_x, e_x, h2⟩ := pI_s h1; subst e_x
    obtain ⟨rfl, rfl, rfl, t, ht, rfl⟩ := xIf_s h2
    exact n_icmp_eq E hd ht k
  · obtain ⟨y, r_y, e_y, h1⟩ := pI_s h; subst e_y
    obtain ⟨x, r_x, e_x, h2⟩ := pI_s h1; subst e_x
    obtain ⟨rfl, rfl, rfl, t, ht, rfl⟩ := xIf_s h2
    exact n_icmp_ne E hd ht k
  · obtain ⟨y, r_y, e_y, h1⟩ := pI_s h; subst e_y
    obtain ⟨x, r_x, e_x, h2⟩ := pI_s h1; subst e_x
    obtain ⟨rfl, rfl, rfl, t, ht, rfl⟩ := xIf_s h2
    exact n_icmp_lt E hd ht k
  · obtain ⟨y, r_y, e_y, h1⟩ := pI_s h; subst e_y
    obtain ⟨x, r_x, e_x, h2⟩ := pI_s h1; subst e_x
    obtain ⟨rfl, rfl, rfl, t, ht, rfl⟩ := xIf_s h2
    exact n_icmp_ge E hd ht k
  · obtain ⟨y, r_y, e_y, h1⟩ := pI_s h; subst e_y
    obtain ⟨x, r_x, e_x, h2⟩ := pI_s h1; subst e_x
    obtain ⟨rfl, rfl, rfl, t, ht, rfl⟩ := xIf_s h2
    exact n_icmp_gt E hd ht k
  · obtain ⟨y, r_y, e_y, h1⟩ := pI_s h; subst e_y
    obtain ⟨x, r_x, e_x, h2⟩ := pI_s h1; subst e_x
    obtain ⟨rfl, rfl, rfl, t, ht, rfl⟩ := xIf_s h2
    exact n_icmp_le E hd ht k
  · obtain ⟨x, r_x, e_x, h1⟩ := pI_s h; subst e_x
    split at h1
    · next q => obtain ⟨ht, rfl, rfl, rfl⟩ := xgo_s h1; exact n_tsw E hd (Or.inl ⟨q, ht⟩) k
    · next q => obtain ⟨o, ho, h2⟩ := bind_s h1; obtain ⟨ht, rfl, rfl, rfl⟩ := xgo_s h2; exact n_tsw E hd (Or.inr ⟨q, o, ho, ht⟩) k
  · obtain ⟨x, r_x, e_x, h1⟩ := pI_s h; subst e_x
    obtain ⟨hp, h2⟩ := ite_s h1
    obtain ⟨ht, rfl, rfl, rfl⟩ := xgo_s h2
    exact n_lsw E hd hp ht k
  · obtain ⟨⟨ci, k2, pl⟩, hq, h1⟩ := bind_s h
    obtain ⟨a, r_a, e_a, h2⟩ := pA_s h1; subst e_a
    obtain ⟨v, hv, h3⟩ := bind_s h2
    obtain ⟨rfl, rfl, rfl, rfl⟩ := xnx_s h3
    exact n_getf E hd hq hv k
  · obtain ⟨⟨ci, k2, pl⟩, hq, h1⟩ := bind_s h
    obtain ⟨v, r_v, e_v, h2⟩ := pV_s h1; subst e_v
    obtain ⟨a, r_a, e_a, h3⟩ := pA_s h2; subst e_a
    obtain ⟨ty, hty, h4⟩ := bind_s h3
    obtain ⟨⟨hfit, hfin⟩, h5⟩ := ite_s h4
    obtain ⟨σ2, hs2, h6⟩ := bind_s h5
    obtain ⟨rfl, rfl, rfl, rfl⟩ := xnx_s h6
    exact n_putf E hd hq hty hfit hfin hs2 k
  · obtain ⟨i, r_i, e_i, h1⟩ := pI_s h; subst e_i
    obtain ⟨a, r_a, e_a, h2⟩ := pA_s h1; subst e_a
    split at h2
    · next q hq => obtain ⟨hi, h3⟩ := ite_s h2; obtain ⟨rfl, rfl, rfl, rfl⟩ := xnx_s h3; exact n_iald E hd hq hi k
    · obtain ⟨q, hq, h3⟩ := bind_s h2; obtain ⟨⟨hx3, hi⟩, h4⟩ := ite_s h3; obtain ⟨rfl, rfl, rfl, rfl⟩ := xnx_s h4; exact n_sld E hd hq hx3 hi k
  · obtain ⟨i, r_i, e_i, h1⟩ := pI_s h; subst e_i
    obtain ⟨a, r_a, e_a, h2⟩ := pA_s h1; subst e_a
    obtain ⟨q, hq, h3⟩ := bind_s h2
    obtain ⟨⟨hi, ht⟩, h4⟩ := ite_s h3
    obtain ⟨rfl, rfl, rfl, rfl⟩ := xnx_s h4
    exact n_aald E hd hq hi ht k
  · obtain ⟨x, r_x, e_x, h1⟩ := pI_s h; subst e_x
    obtain ⟨i, r_i, e_i, h2⟩ := pI_s h1; subst e_i
    obtain ⟨a, r_a, e_a, h3⟩ := pA_s h2; subst e_a
    obtain ⟨q, hq, h4⟩ := bind_s h3
    obtain ⟨hi, h5⟩ := ite_s h4
    obtain ⟨rfl, rfl, rfl, rfl⟩ := xnx_s h5
    exact n_iast E hd hq hi k
  · obtain ⟨v, r_v, e_v, h1⟩ := pA_s h; subst e_v
    obtain ⟨i, r_i, e_i, h2⟩ := pI_s h1; subst e_i
    obtain ⟨a, r_a, e_a, h3⟩ := pA_s h2; subst e_a
    obtain ⟨q, hq, h4⟩ := bind_s h3
    obtain ⟨⟨hi, hv⟩, h5⟩ := ite_s h4
    obtain ⟨rfl, rfl, rfl, rfl⟩ := xnx_s h5
    exact n_aast E hd hq hi hv k
  · obtain ⟨a, r_a, e_a, h1⟩ := pA_s h; subst e_a
    obtain ⟨q, hq, h2⟩ := bind_s h1
    obtain ⟨hx3, h3⟩ := ite_s h2
    obtain ⟨rfl, rfl, rfl, rfl⟩ := xnx_s h3
    exact n_slen E hd hq hx3 k
  · obtain ⟨n, r_n, e_n, h1⟩ := pI_s h; subst e_n
    obtain ⟨⟨hx0, hN, hg, hx9⟩, h2⟩ := ite_s h1
    obtain ⟨rfl, rfl, rfl, rfl⟩ := xnx_s h2
    have hr : σ.2.1 + 1 + σ.2.2.1 ≤ k0 + R.cells := hroom.1
    exact n_newaI E hd hx0 hN hg hx9 ⟨by omega, hroom.2⟩ k
  · obtain ⟨⟨ci, pl⟩, hq, h1⟩ := bind_s h
    obtain ⟨t, ht, h2⟩ := bind_s h1
    obtain ⟨n, r_n, e_n, h3⟩ := pI_s h2; subst e_n
    obtain ⟨⟨hx0, hN, hg, hx9⟩, h4⟩ := ite_s h3
    obtain ⟨rfl, rfl, rfl, rfl⟩ := xnx_s h4
    have hr : σ.2.1 + 1 + σ.2.2.1 ≤ k0 + R.cells := hroom.1
    exact n_anew E hd hq ht hx0 hN hg hx9 ⟨by omega, hroom.2⟩ k
  · split at h
    · next q hq => obtain ⟨ci, pl⟩ := q; obtain ⟨⟨hg, hx9⟩, h1⟩ := ite_s h; obtain ⟨rfl, rfl, rfl, rfl⟩ := xnx_s h1; have hr : σ.2.1 + 1 + σ.2.2.1 ≤ k0 + R.cells := hroom.1; exact n_new E hd hq hg hx9 ⟨by omega, hroom.2⟩ k
    · obtain ⟨q, hq, h1⟩ := bind_s h; obtain ⟨hth, h2⟩ := ite_s h1; cases h2
  · obtain ⟨⟨kd, ν, n, p1, p2, p3, p4⟩, hq, h1⟩ := bind_s h
    dsimp only at h1
    split at h1
    · obtain ⟨w, -, h2⟩ := bind_s h1; obtain ⟨f, -, -, -, -, h3⟩ := xcal_s h2; cases h3
    · obtain ⟨w, -, h2⟩ := bind_s h1; obtain ⟨f, -, -, -, -, h3⟩ := xcal_s h2; cases h3
    · obtain ⟨w, -, h2⟩ := bind_s h1; obtain ⟨f, -, -, -, -, h3⟩ := xcal_s h2; cases h3
    · obtain ⟨w, -, h2⟩ := bind_s h1; obtain ⟨-, h3⟩ := ite_s h2; obtain ⟨f, -, -, -, -, h4⟩ := xcal_s h3; cases h4
    · obtain ⟨n1, r_n1, e_n1, h2⟩ := pI_s h1; subst e_n1; obtain ⟨dp, r_dp, e_dp, h3⟩ := pI_s h2; subst e_dp; obtain ⟨a, r_a, e_a, h4⟩ := pA_s h3; subst e_a; obtain ⟨sp, r_sp, e_sp, h5⟩ := pI_s h4; subst e_sp; obtain ⟨a0, r_a0, e_a0, h6⟩ := pA_s h5; subst e_a0; obtain ⟨q0, hq0, h7⟩ := bind_s h6; obtain ⟨q1, hq1, h8⟩ := bind_s h7; obtain ⟨hh, h9⟩ := ite_s h8; obtain ⟨rfl, rfl, rfl, rfl⟩ := xnx_s h9; exact n_copy E hd hq hq0 hq1 hh k
    · obtain ⟨y, r_y, e_y, h2⟩ := pI_s h1; subst e_y; obtain ⟨x, r_x, e_x, h3⟩ := pI_s h2; subst e_x; obtain ⟨hw, h4⟩ := ite_s h3; obtain ⟨rfl, rfl, rfl, rfl⟩ := xnx_s h4; have hcs : ∀ (cells slots : Nat), cells + k0 = σ'.2.1 + σ'.2.2.1 → slots + z0 = σ'.2.2.2 → cells ≤ R.cells ∧ slots ≤ R.slots := fun _ _ _ _ => (by omega); exact n_max E hd hq hw hcs k
    · obtain ⟨y, r_y, e_y, h2⟩ := pI_s h1; subst e_y; obtain ⟨x, r_x, e_x, h3⟩ := pI_s h2; subst e_x; obtain ⟨hw, h4⟩ := ite_s h3; obtain ⟨rfl, rfl, rfl, rfl⟩ := xnx_s h4; have hcs : ∀ (cells slots : Nat), cells + k0 = σ'.2.1 + σ'.2.2.1 → slots + z0 = σ'.2.2.2 → cells ≤ R.cells ∧ slots ≤ R.slots := fun _ _ _ _ => (by omega); exact n_min E hd hq hw hcs k
    · obtain ⟨x, r_x, e_x, h2⟩ := pD_s h1; subst e_x; obtain ⟨hw, h3⟩ := ite_s h2; obtain ⟨rfl, rfl, rfl, rfl⟩ := xnx_s h3; exact n_d2raw E hd hq hw k
    · obtain ⟨x, r_x, e_x, h2⟩ := pF_s h1; subst e_x; obtain ⟨hw, h3⟩ := ite_s h2; obtain ⟨rfl, rfl, rfl, rfl⟩ := xnx_s h3; exact n_f2raw E hd hq hw k
    · cases h1
  · obtain ⟨⟨kd, ν, n, p1, p2, p3, p4⟩, hq, h1⟩ := bind_s h
    dsimp only at h1
    split at h1
    · obtain ⟨w, -, h2⟩ := bind_s h1; obtain ⟨a, r_a, -, h3⟩ := pA_s h2; obtain ⟨f, -, h4⟩ := bind_s h3; obtain ⟨-, h5⟩ := ite_s h4; obtain ⟨f, -, -, -, -, h6⟩ := xcal_s h5; cases h6
    · obtain ⟨w, -, h2⟩ := bind_s h1; obtain ⟨a, r_a, -, h3⟩ := pA_s h2; obtain ⟨f, -, h4⟩ := bind_s h3; obtain ⟨-, h5⟩ := ite_s h4; obtain ⟨f, -, -, -, -, h6⟩ := xcal_s h5; cases h6
    · cases h1
  · obtain ⟨⟨kd, ν, n, p1, p2, p3, p4⟩, hq, h1⟩ := bind_s h
    dsimp only at h1
    split at h1
    · obtain ⟨w, -, h2⟩ := bind_s h1; obtain ⟨a, r_a, -, h3⟩ := pA_s h2; obtain ⟨f, -, -, -, -, h4⟩ := xcal_s h3; cases h4
    · obtain ⟨a, r_a, e_a, h2⟩ := pA_s h1; subst e_a; obtain ⟨hw, h3⟩ := ite_s h2; obtain ⟨rfl, rfl, rfl, rfl⟩ := xnx_s h3; exact n_oinit E hd hq hw k
    · cases h1
  · obtain ⟨x, r_x, e_x, h1⟩ := pI_s h; subst e_x
    obtain ⟨-, h2⟩ := pZ_s h1
    split at h2
    · cases h2
    · obtain ⟨-, h3⟩ := ite_s h2; cases h3
    · cases h2
  · obtain ⟨x, r_x, e_x, h1⟩ := pL_s h; subst e_x
    obtain ⟨-, h2⟩ := pZ_s h1
    split at h2
    · cases h2
    · cases h2
  · obtain ⟨x, r_x, e_x, h1⟩ := pF_s h; subst e_x
    obtain ⟨-, h2⟩ := pZ_s h1
    split at h2
    · cases h2
    · cases h2
  · obtain ⟨x, r_x, e_x, h1⟩ := pD_s h; subst e_x
    obtain ⟨-, h2⟩ := pZ_s h1
    split at h2
    · cases h2
    · cases h2
  · obtain ⟨-, h1⟩ := pZ_s h
    split at h1
    · cases h1
    · cases h1
  · cases h
end XE
