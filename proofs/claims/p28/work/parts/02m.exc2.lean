/-! ===== runs of methods that throw, that catch, and of the law ===== -/
section XM1
variable {p : Program} {l : Launch} {e : Env} {R : Room} {s : State} {m : MethodId} {args : Array Value} {below : List Frame} {meth : Method} {c : Code} {Q : State → Prop} {D : va_G} {cA : Nat → ClassId} {B b k0 z0 : Nat} {en : xMe} {pc : Nat} {ls : xL} {σ : xS}
set_option maxHeartbeats 4000000 in
set_option maxRecDepth 100000 in
/-- a call of a method that only returns -/
theorem xcallp {f ν pc2 len : Nat} {i : Instr} {as st st2 : List Value} {ls2 : xL} {σ1 σ2 : xS} {v : Option Value} (E : xEnv p l e R s m args below meth c D cA B b en) (hd : decode en.2.1 pc = .ok (i, len)) (h2 : xDo en pc ls st σ i len = some (.inr (.inr (.inl (ν, as, pc2, ls2, st2, σ1))))) (e2 : xrun f ν 0 (xini (xnl ν) as) [] σ1 = some (.inl v, σ2)) (h0 : ∀ f0, xM[ν]? = some f0 → f0.2.2.2.2.2.2.2 = 0) (hroom : σ2.2.1 + σ2.2.2.1 ≤ k0 + R.cells ∧ σ2.2.2.2 ≤ z0 + R.slots) (kk : xT p l e R s m args below meth c Q D cA B b k0 z0 en pc2 ls2 (v.toList ++ st2) σ2) : xT p l e R s m args below meth c Q D cA B b k0 z0 en pc ls st σ := by
  obtain ⟨f0, hf0, hw, hrm, hspr, rfl, rfl, rfl, k1, n, p1, p2, p3, p4, hcall⟩ := xcall_s h2
  intro lsJ H locs cells slots hO
  have hWF := hO.2.2.1
  obtain ⟨g1, g2⟩ := xrun_ext _ _ _ _ _ _ _ _ e2 hWF
  have hk := h0 f0 hf0
  have hM : xMet l D cA B b ν as σ1 v σ2 := xmet_of (xGd_all l f) e2 (fun en2 hen2 => by
    cases hf0.symm.trans hen2
    exact ⟨hk, hspr⟩)
  rcases hcall with ⟨rfl, rfl, hq | hq | hq | ⟨hq, -⟩, hpop⟩ | ⟨rfl, rfl, hq | hq, a, as2, rfl, hpop, hcl⟩ | ⟨rfl, rfl, hq, a, as2, rfl, hpop⟩
  · exact n_cS E hd hq hf0 hpop hw hrm hM g1 hroom kk lsJ H locs cells slots hO
  · exact n_cN E hd hq hf0 hpop hw hrm hM g1 hroom kk lsJ H locs cells slots hO
  · have h9 := xall xCL_all (xfind_mem _ _ _ _ hq)
    simp only [xCLc, hf0, Bool.and_eq_true, decide_eq_true_eq] at h9
    omega
  · have h9 := xall xCL_all (xfind_mem _ _ _ _ hq)
    simp only [xCLc, hf0, Bool.and_eq_true, decide_eq_true_eq] at h9
    omega
  · exact n_cV E hd hq hf0 hpop hcl hw hrm hM g1 hroom kk lsJ H locs cells slots hO
  · have h9 := xall xCL_all (xfind_mem _ _ _ _ hq)
    simp only [xCLc, hf0, Bool.and_eq_true, decide_eq_true_eq] at h9
    omega
  · exact n_cI E hd hq hf0 hpop hw hrm hM g1 hroom kk lsJ H locs cells slots hO
end XM1
/-- the kind of what a call calls -/
theorem xcall_kind {en : xMe} {ν pc pc2 len : Nat} {i : Instr} {as st st2 : List Value} {ls ls2 : xL} {σ σ1 : xS} (h2 : xDo en pc ls st σ i len = some (.inr (.inr (.inl (ν, as, pc2, ls2, st2, σ1))))) {f0 : xMe} (hf0 : xM[ν]? = some f0) : f0.2.2.2.2.2.2.2 = 0 ∨ (en.2.2.2.2.1 = 8 ∧ f0.2.2.2.2.2.2.2 = 1 ∧ ∃ k1 n p1 p2 p3 p4 a as2, i = .invokevirtual k1 ∧ len = 3 ∧ xfind xCL en.2.2.2.2.1 k1 = some (10, ν, n, p1, p2, p3, p4) ∧ as = .ref a :: as2 ∧ xpop n st = some (as2, .ref a :: st2) ∧ (hcls σ a).bind (fun c => (vwCl[c]?).map (fun r => r.1)) = some f0.1.cls) ∨ (en.2.2.2.2.1 = 8 ∧ f0.2.2.2.2.2.2.2 = 2 ∧ ∃ k1 n p1 p2 p3 p4, i = .invokestatic k1 ∧ len = 3 ∧ xfind xCL en.2.2.2.2.1 k1 = some (11, ν, n, p1, p2, p3, p4) ∧ xpop n st = some (as, st2)) ∨ ((en.2.2.2.2.1 = 8 ∧ 3 ≤ en.2.2.2.2.2.2.2) ∧ f0.2.2.2.2.2.2.2 = 4 ∧ ∃ k1 n p1 p2 p3 p4, i = .invokestatic k1 ∧ len = 3 ∧ xfind xCL en.2.2.2.2.1 k1 = some (12, ν, n, p1, p2, p3, p4) ∧ xpop n st = some (as, st2)) := by
  obtain ⟨f1, hf1, hw, hrm, hspr, rfl, rfl, rfl, k1, n, p1, p2, p3, p4, hcall⟩ := xcall_s h2
  cases hf0.symm.trans hf1
  have key : ∀ k2 q, xfind xCL en.2.2.2.2.1 k1 = some (k2, ν, q) → k2 = 0 ∨ k2 = 1 ∨ k2 = 2 ∨ k2 = 3 → f0.2.2.2.2.2.2.2 = 0 := by
    intro k2 q hq hk2
    obtain ⟨q1, q2, q3, q4, q5⟩ := q
    have h9 := xall xCL_all (xfind_mem _ _ _ _ hq)
    rcases hk2 with rfl | rfl | rfl | rfl <;> simp only [xCLc, hf0, Bool.and_eq_true, decide_eq_true_eq] at h9
    · exact h9.2.2
    · exact h9.2.2
    · exact h9.2.1.1.2
    · exact h9.2.2
  rcases hcall with ⟨rfl, rfl, hq | hq | hq | ⟨hq, hk3⟩, hpop⟩ | ⟨rfl, rfl, hq | hq, a, as2, rfl, hpop, hcl⟩ | ⟨rfl, rfl, hq, a, as2, rfl, hpop⟩
  · exact Or.inl (key _ _ hq (Or.inl rfl))
  · exact Or.inl (key _ _ hq (Or.inr (Or.inr (Or.inr rfl))))
  · by_cases ho : en.2.2.2.2.1 = 8
    · have h9 := xall xCL_all (xfind_mem _ _ _ _ hq)
      simp only [xCLc, hf0, Bool.and_eq_true, decide_eq_true_eq] at h9
      exact Or.inr (Or.inr (Or.inl ⟨ho, h9.2.2, k1, n, p1, p2, p3, p4, rfl, rfl, hq, hpop⟩))
    · exact absurd rfl (xCL10_ok hq ho).1.2
  · by_cases ho : en.2.2.2.2.1 = 8
    · have h9 := xall xCL_all (xfind_mem _ _ _ _ hq)
      simp only [xCLc, hf0, Bool.and_eq_true, decide_eq_true_eq] at h9
      exact Or.inr (Or.inr (Or.inr ⟨⟨ho, hk3⟩, h9.2.2, k1, n, p1, p2, p3, p4, rfl, rfl, hq, hpop⟩))
    · exact absurd rfl (xCL10_ok hq ho).2
  · exact Or.inl (key _ _ hq (Or.inr (Or.inl rfl)))
  · by_cases ho : en.2.2.2.2.1 = 8
    · have h9 := xall xCL_all (xfind_mem _ _ _ _ hq)
      simp only [xCLc, hf0, Bool.and_eq_true, decide_eq_true_eq] at h9
      exact Or.inr (Or.inl ⟨ho, h9.2.2, k1, n, p1, p2, p3, p4, a, as2, rfl, rfl, hq, rfl, hpop, hcl⟩)
    · exact absurd rfl (xCL10_ok hq ho).1.1
  · exact Or.inl (key _ _ hq (Or.inr (Or.inr (Or.inl rfl))))
def xPx (D : va_G) (cA : Nat → ClassId) (B b : Nat) (as : List Value) (σ : xS) : Array Value → State → Prop := va_Pc (as.map (xcv B b)) (fun U => xB D cA B b σ U ∧ xExc B U U.heap)
theorem xPx_blind {D : va_G} {cA : Nat → ClassId} {B b : Nat} {as : List Value} {σ : xS} : FrameBlind (xPx D cA B b as σ) := by
  rintro a U g mk ⟨h0, ⟨h1, h2, h3, h4, h5⟩, h6⟩
  exact ⟨h0, ⟨h1, h2, va_K.moved (u := U) (U := U.calling g mk a) (Vm.Alike.refl U.vm) h3, xTab.same (u := U) (U := U.calling g mk a) rfl h4, h5⟩, xExc.same (u := U) (U := U.calling g mk a) rfl h6⟩
/-- runs of methods that throw -/
theorem xGd1_all (l : Launch) (hl : l.stackTraces = false) : ∀ f, ∀ (μ pc : Nat) (ls : xL) (st : List Value) (σ : xS) (o : Option Value ⊕ Nat) (τ : xS), xrun f μ pc ls st σ = some (o, τ) → ∀ en, xM[μ]? = some en → en.2.2.2.2.2.2.2 = 1 →
  ∀ (p : Program) (e : Env) (R : Room) (s : State) (m : MethodId) (args : Array Value) (below : List Frame) (meth : Method) (c : Code) (D : va_G) (cA : Nat → ClassId) (B b k0 z0 : Nat), xEnv p l e R s m args below meth c D cA B b en → meth.sig.returnType = en.2.2.2.1 → meth.locks = false → (∀ z ∈ c.exceptionTable.toList, False) → xExc B s s.heap → τ.2.1 + τ.2.2.1 ≤ k0 + R.cells ∧ τ.2.2.2 ≤ z0 + R.slots →
    xT p l e R s m args below meth c (vx_MQ below (xQo D cA B b o τ) (xXo D cA B b o τ) args s ((τ.2.1 + τ.2.2.1) - k0) (τ.2.2.2 - z0) (fun q => B ≤ q)) D cA B b k0 z0 en pc ls st σ := by
  intro f
  induction f with
  | zero => intro μ pc ls st σ o τ h; cases h
  | succ f ih =>
    intro μ pc ls st σ o τ h en hen hk p e R s m args below meth c D cA B b k0 z0 E hret hlocks hout hX hroom lsJ H locs cells slots hO
    have hWF := hO.2.2.1
    unfold xrun at h
    split at h
    · cases h
    · next pc' ls' st' σ' ea =>
      obtain ⟨i, len, hd, h2⟩ := xact_s ea hen
      obtain ⟨g1, g2⟩ := xext hWF h2
      obtain ⟨⟨-, x2, x3, x4⟩, g4⟩ := xrun_ext _ _ _ _ _ _ _ _ h g2
      exact xnext E hd h2 (by omega) (ih _ _ _ _ _ _ _ h en hen hk p e R s m args below meth c D cA B b k0 z0 E hret hlocks hout hX hroom) lsJ H locs cells slots hO
    · next v' σ' ea =>
      obtain ⟨i, len, hd, h2⟩ := xact_s ea hen
      cases h
      exact vx_ret (xexit E hd h2 hret hlocks lsJ H locs cells slots hO)
    · next ν as pc' ls' st' σ' ea =>
      obtain ⟨i, len, hd, h2⟩ := xact_s ea hen
      obtain ⟨f0, hf0, -, -, -, -, -, hσ, -⟩ := xcall_s h2
      have ho8 := (xZ_ok hen).2 (by omega)
      have hk0 : f0.2.2.2.2.2.2.2 = 0 := by
        rcases xcall_kind h2 hf0 with q | q | q | q
        · exact q
        · exact absurd q.1 ho8
        · exact absurd q.1 ho8
        · exact absurd q.1.1 ho8
      split at h
      · cases h
      · next v2 σ2 e2 =>
        obtain ⟨g1, g2⟩ := xrun_ext _ _ _ _ _ _ _ _ e2 (by rw [hσ]; exact hWF)
        obtain ⟨⟨-, x2, x3, x4⟩, g4⟩ := xrun_ext _ _ _ _ _ _ _ _ h g2
        exact xcallp E hd h2 e2 (fun f1 hf1 => by cases hf0.symm.trans hf1; exact hk0) (by omega) (ih _ _ _ _ _ _ _ h en hen hk p e R s m args below meth c D cA B b k0 z0 E hret hlocks hout hX hroom) lsJ H locs cells slots hO
      · next x σ2 e2 =>
        rw [xcat_none hen (by omega)] at h
        cases h
    · next x σ' ea =>
      obtain ⟨i, len, hd, h2⟩ := xact_s ea hen
      cases h
      obtain ⟨k1, pl, rfl, rfl, hno, hq, hth, hw, hτ⟩ := xthrow_s h2
      exact n_throw E hd hth hτ hl hX hw hlocks hout hroom lsJ H locs cells slots hO
/-- a method that throws: its contract -/
def xMet1 (l : Launch) (D : va_G) (cA : Nat → ClassId) (B b ν : Nat) (as : List Value) (σ : xS) (o : Option Value ⊕ Nat) (τ : xS) : Prop :=
  ∀ f, xM[ν]? = some f → vx_Met l f.1 (xws f) (xrm f σ τ) (xPx D cA B b as σ) (xQo D cA B b o τ) (xXo D cA B b o τ) (xcw σ τ) (xsw σ τ) (fun q => B ≤ q)
set_option maxRecDepth 100000 in
theorem xpl1_all : xM.all (fun e => decide (e.2.2.2.2.2.2.2 = 0) || decide (2 < e.2.2.2.2.2.2.2) || plainName e.1.cls) = true := by decide +kernel
theorem xmet1 {l : Launch} (hl : l.stackTraces = false) {f ν : Nat} {as : List Value} {σ τ : xS} {o : Option Value ⊕ Nat} {D : va_G} {cA : Nat → ClassId} {B b : Nat} (h : xrun f ν 0 (xini (xnl ν) as) [] σ = some (o, τ)) (h0 : ∀ en, xM[ν]? = some en → en.2.2.2.2.2.2.2 = 1 ∧ (xspr as).length ≤ en.2.2.1) : xMet1 l D cA B b ν as σ o τ := by
  intro en hen
  obtain ⟨hk, hlen⟩ := h0 en hen
  have hz := xZ_ok hen
  have hnl : xnl ν = en.2.2.1 := by simp only [xnl, hen]
  have hpl : plainName en.1.cls = true := by
    have h1 := xall xpl1_all (List.mem_of_getElem? hen)
    simp only [Bool.or_eq_true, decide_eq_true_eq] at h1
    rcases h1 with (q | q) | q
    · omega
    · omega
    · exact q
  refine vx_ofW (cc := en.2.1) (maxL := en.2.2.1) (ret := en.2.2.2.1) hpl rfl ?_
  intro p e s m args below meth c s₁ Bd hml hout hv
  obtain ⟨rfl, ⟨hWF, hP, hK, hTab, hB, hsz⟩, hX⟩ := hv
  have hts := atoms_spec (ws := xws en) Bd.pre
  have hlv := lv_entry (as.map (xcv B b)) (n := en.2.2.1) (by rw [xspr_len]; exact hlen)
  rw [lg_entry_eq]
  generalize (lg_sl (as.map (xcv B b)) ++ List.replicate (en.2.2.1 - (lg_sl (as.map (xcv B b))).length) Slot.unset).toArray = ls at hlv ⊢
  obtain ⟨hx1, -⟩ := xrun_ext _ _ _ _ _ _ _ _ h hWF
  obtain ⟨x1, x2, x3, x4⟩ := hx1
  refine xGd1_all l hl f ν 0 (xini (xnl ν) as) [] σ o τ h en hen hk p e (headSpec (xws en) (xrm en σ τ)).room s m (as.map (xcv B b)).toArray below meth c D cA B b (σ.2.1 + σ.2.2.1) σ.2.2.2 ⟨Bd.exec, Bd.bytes, hml, ?_, fun w hw => hts w (List.mem_cons_of_mem _ hw), hK, hTab, fun hi => (name_of_methodNamed Bd.named Bd.method).1.trans hi, ⟨Nat.le_refl _, Nat.le_refl _⟩, hB⟩ Bd.returns Bd.notSynchronized hout hX ?_ ls s.heap [] 0 0 ⟨?_, ?_, hWF, hP, va_S.rf, hsz, by omega, fun h3 => by omega⟩
  · rw [hz.1]; exact findClass_of_methodNamed Bd.named
  · show _ ≤ _ + xcw σ τ ∧ _ ≤ _ + xsw σ τ
    simp only [xcw, xsw]
    omega
  · rw [hnl, xini, xlp_ini]; exact hlv
  · rw [hnl]; exact xini_len hlen
section XM2
variable {p : Program} {l : Launch} {e : Env} {R : Room} {s : State} {m : MethodId} {args : Array Value} {below : List Frame} {meth : Method} {c : Code} {Q : State → Prop} {D : va_G} {cA : Nat → ClassId} {B b k0 z0 : Nat} {en : xMe} {pc : Nat} {ls : xL} {σ : xS}
/-- what the interpreter's heap is behind a call: the machine's -/
theorem xOk_back {τ : xS} {lsJ : Array Slot} {H H1 : Heap} {locs L : List Loc} {cells slots : Nat} (hO : xOk s D cA B b k0 z0 en ls σ lsJ H locs cells slots) (hx : xExt σ τ) (hWF' : xWF τ) (hP' : va_P D vwCl (xW B b cA τ) H1) (hz' : H.size ≤ H1.size) (hF : ∀ q : Nat, q < H.size → ¬ B ≤ q → H1[q]? = H[q]?) (hL : ∀ q ∈ L, B ≤ q.base) : xOk s D cA B b k0 z0 en ls τ lsJ H1 (locs ++ L) (cells + xcw σ τ) (slots + xsw σ τ) := by
  obtain ⟨hl, hn, hWF, hP, hS, hz, hc, hscr⟩ := hO
  obtain ⟨x1, x2, x3, x4⟩ := hx
  have hcw : xcw σ τ = (τ.2.1 + τ.2.2.1) - (σ.2.1 + σ.2.2.1) := rfl
  have hsw : xsw σ τ = τ.2.2.2 - σ.2.2.2 := rfl
  exact ⟨hl, hn, hWF', hP', ⟨Nat.le_trans hS.1 hz', fun q h1 h2 => by rw [hF q (Nat.lt_of_lt_of_le h1 hS.1) h2]; exact hS.2.1 q h1 h2, fun q hq => by
      rcases List.mem_append.mp hq with h | h
      · exact hS.2.2 q h
      · exact hL q h⟩, fun h => hz (by omega), by omega, fun h3 n f hf => hscr h3 n f (by rw [← x1]; exact hf)⟩
theorem xput_s {h pc2 : Nat} {l2 : xL} {cc : ByteArray} (hp : xput cc h ls = some (pc2, l2)) : (∃ k1, decode cc h = .ok (.astore k1, 2) ∧ lst1 ls k1 none = some l2 ∧ pc2 = h + 2) ∨ (∃ k1 : Fin 4, decode cc h = .ok (.astore_n k1, 1) ∧ lst1 ls k1.val none = some l2 ∧ pc2 = h + 1) := by
  unfold xput at hp
  split at hp
  · next k1 hd =>
    simp only [Option.map_eq_some_iff, Prod.mk.injEq] at hp
    obtain ⟨l, h1, h2, rfl⟩ := hp
    exact Or.inl ⟨k1, hd, h1, h2.symm⟩
  · next k1 hd =>
    simp only [Option.map_eq_some_iff, Prod.mk.injEq] at hp
    obtain ⟨l, h1, h2, rfl⟩ := hp
    exact Or.inr ⟨k1, hd, h1, h2.symm⟩
  · cases hp
/-- a caught throw: from the handler on -/
theorem n_handler {h pc2 q : Nat} {l2 : xL} (E : xEnv p l e R s m args below meth c D cA B b en) (hp : xput en.2.1 h ls = some (pc2, l2)) (k : xT p l e R s m args below meth c Q D cA B b k0 z0 en pc2 l2 [] σ) {lsJ : Array Slot} {H : Heap} {locs : List Loc} {cells slots : Nat} (hO : xOk s D cA B b k0 z0 en ls σ lsJ H locs cells slots) : W p l e R s m args below meth c H locs cells slots Q (F0 m h lsJ [.ref q]) := by
  obtain ⟨hx, hb, -⟩ := E
  obtain ⟨hl, hn, hO⟩ := hO
  rcases xput_s hp with ⟨k1, hd, hg, rfl⟩ | ⟨k1, hd, hg, rfl⟩
  · obtain ⟨g1, g2, g3⟩ := lst1_f (B := B) (b := b) hg
    exact lv_astore hx hb hd hl (by rw [← hn]; exact g2) rfl (fun lsJ2 hl2 => k lsJ2 H locs cells slots ⟨lv_mem hl2 (g3 _ (fun z hz => by cases hz)), g1.trans hn, hO⟩)
  · obtain ⟨g1, g2, g3⟩ := lst1_f (B := B) (b := b) hg
    exact lv_astore_n hx hb hd rfl hl (by rw [← hn]; exact g2) rfl (fun lsJ2 hl2 => k lsJ2 H locs cells slots ⟨lv_mem hl2 (g3 _ (fun z hz => by cases hz)), g1.trans hn, hO⟩)
theorem xprex {as : List Value} {lsJ : Array Slot} {H : Heap} {locs : List Loc} {cells slots : Nat} (E : xEnv p l e R s m args below meth c D cA B b en) (hX : xExc B s s.heap) (hO : xOk s D cA B b k0 z0 en ls σ lsJ H locs cells slots) (hs : H.size ≤ s.heap.size + cells) : ∀ U : State, U.heap = H → s.WarmedH U.vm → xPx D cA B b as σ (as.map (xcv B b)).toArray U := by
  intro U hU hW
  have h1 := xpre (as := as) E hO hs U hU hW
  refine ⟨h1.1, h1.2, ?_⟩
  rw [hU]
  exact xExc.warm hW (xExc.kept (fun a h2 h3 => hO.2.2.2.2.1.2.1 a h2 h3) hX)
set_option maxHeartbeats 4000000 in
set_option maxRecDepth 100000 in
/-- a call of a method that may throw, in one that catches -/
theorem n_c10 {f ν μ len : Nat} {i : Instr} {as st st2 : List Value} {ls2 : xL} {σ1 τ : xS} {o : Option Value ⊕ Nat} {pc2 : Nat} (hl : l.stackTraces = false) (E : xEnv p l e R s m args below meth c D cA B b en) (hX : xExc B s s.heap) (hen : xM[μ]? = some en) (htab : ∀ x, o = .inr x → c.exceptionTable.toList = tableOf (xh4 μ)) (hd : decode en.2.1 pc = .ok (i, len)) (h2 : xDo en pc ls st σ i len = some (.inr (.inr (.inl (ν, as, pc2, ls2, st2, σ1))))) (e2 : xrun f ν 0 (xini (xnl ν) as) [] σ1 = some (o, τ)) (h1 : ∀ f0, xM[ν]? = some f0 → f0.2.2.2.2.2.2.2 = 1) (hroom : τ.2.1 + τ.2.2.1 ≤ k0 + R.cells ∧ τ.2.2.2 ≤ z0 + R.slots)
    (kv : ∀ v, o = .inl v → xT p l e R s m args below meth c Q D cA B b k0 z0 en pc2 ls2 (v.toList ++ st2) τ) (kx : ∀ x, o = .inr x → ∃ pc3 l3, xcat μ pc x ls2 = some (pc3, l3) ∧ xT p l e R s m args below meth c Q D cA B b k0 z0 en pc3 l3 [] τ) : xT p l e R s m args below meth c Q D cA B b k0 z0 en pc ls st σ := by
  obtain ⟨f0, hf0, hw, hrm, hspr, hpc2, hls2, hσ1, -⟩ := xcall_s h2
  subst hpc2; subst hls2; subst hσ1
  have hk1 := h1 f0 hf0
  rcases xcall_kind h2 hf0 with q | ⟨ho8, -, k1, n, p1, p2, p3, p4, a, as2, rfl, rfl, hq, rfl, hpop, hcl⟩ | q | q
  · omega
  · obtain ⟨rfl, hlen⟩ := xpop_s _ _ _ _ hpop
    intro lsJ H locs cells slots hO T hT X
    have hWF := hO.2.2.1
    obtain ⟨g1, g2⟩ := xrun_ext _ _ _ _ _ _ _ _ e2 hWF
    have hM : xMet1 l D cA B b ν (.ref a :: as2) σ1 o τ := xmet1 hl e2 (fun en2 hen2 => by
      cases hf0.symm.trans hen2
      exact ⟨hk1, hspr⟩)
    have h9 := xall xCL_all (xfind_mem _ _ _ _ hq)
    simp only [xCLc, hf0, Bool.and_eq_true, decide_eq_true_eq] at h9
    obtain ⟨hh2, ⟨⟨⟨hh3, hh4⟩, hh5⟩, hh7⟩, hh6⟩ := h9
    have hE := E
    obtain ⟨hx, hb, hml, hown, hts, hK, hTab, hnm, ⟨hfr, hlo⟩, hB⟩ := E
    have hc := hO.2.2.2.2.2.2.1
    have hcw : xcw σ1 τ = (τ.2.1 + τ.2.2.1) - (σ1.2.1 + σ1.2.2.1) := rfl
    have hsw : xsw σ1 τ = τ.2.2.2 - σ1.2.2.2 := rfl
    obtain ⟨-, x2, x3, x4⟩ := id g1
    have hw2 := xwid_cv (B := B) (b := b) st2
    obtain ⟨ci, hc1, hc2⟩ := bind_s hcl
    obtain ⟨fs, hfs⟩ := hcls_s hc1
    simp only [Option.map_eq_some_iff] at hc2
    obtain ⟨qc, hqc, hqn⟩ := hc2
    obtain ⟨ha, -, hwa⟩ := xW_get (B := B) (b := b) (cA := cA) hO.2.2.1 hfs (fun x h => by cases h)
    have hrv := va_recv hK hO.2.2.2.1 hqc hwa
    rw [hqn] at hrv
    obtain ⟨hcode, -⟩ := xM_ok hf0 (by omega)
    have hcb : CallB R s args (xcn en.2.2.2.2.1) k1 f0.1 f0.2.1 f0.2.2.1 f0.2.2.2.1 (xws f0) (xrm f0 σ1 τ) (xcw σ1 τ) (xsw σ1 τ) n := callB_of n hts (xws_in hcode) (ws' := xWS) rfl rfl rfl (hts _ (xgood_s hh7)) (hts _ (xgood_s hh3)) (xdsc_s hh2) ⟨by show f0.2.2.2.2.2.1 + 1 ≤ _; omega, by show 8 + (f0.2.2.1 + 11) + f0.2.2.2.2.2.2.1 ≤ _; omega⟩
    have hr := vx_runV (e := e) (As := as2.map (xcv B b)) (rest := st2.map (xcv B b)) (g := F0 m pc lsJ ((as2.reverse ++ .ref a :: st2).map (xcv B b))) (n := n) (C := f0.1.cls) (b := xad B b a) (cells := cells) (slots := slots) (below := below) (meth := meth) (locs := locs) ⟨hx, hb, hml, hown, hts⟩ (hM f0 hf0) ⟨hcb, hts _ (xgood_s hh4), hts _ (xgood_s hh5)⟩ ⟨xPx_blind, hrv, xprex (as := .ref a :: as2) hE hX hO (by rw [← hT]; exact X.heapSize)⟩ rfl (by rw [List.length_map]; exact hlen) hO.1.1 (by show (as2.reverse ++ .ref a :: st2).map (xcv B b) = _; rw [List.map_append, List.map_reverse]; rfl) (lv_room (by rw [hw2]; exact hw)) hd (by omega)
    rcases hr T hT X with ⟨v', st₀, t, T', L, hh0, X', hL, e3, e4, hQ, st⟩ | ⟨qx, st₀, t, T', L, Ex, ce, hh0, X', hL, e3, e4, hXC, hce, hcv, hcl2, st⟩
    · cases o with
      | inr x => exact hQ.elim
      | inl v =>
        obtain ⟨hv, hWF', hP', hz', hF⟩ := hQ
        cases hv
        rw [hh0] at hz' hF
        obtain ⟨t2, a1, b1⟩ := kv v rfl lsJ T'.heap (locs ++ L) (cells + xcw σ1 τ) (slots + xsw σ1 τ) (xOk_back hO g1 hWF' (by rw [e3]; exact hP') (by rw [e3]; exact hz') (fun q h3 h4 => by rw [e3]; exact hF q h3 h4) hL) T' rfl X'
        have hst : (v.toList ++ st2).map (xcv B b) = (v.map (xcv B b)).toList ++ st2.map (xcv B b) := by cases v <;> rfl
        rw [hst] at a1
        exact ⟨t2, st t2 a1, b1⟩
    · cases o with
      | inl v => exact hXC.elim
      | inr x =>
        obtain ⟨hE1, hWF', hP', hz', hF⟩ := hXC
        subst hE1
        rw [hh0] at hz' hF
        obtain ⟨pc3, l3, hcat, kk⟩ := kx x rfl
        have hOb := xOk_back (L := L) hO g1 hWF' (H1 := T'.heap) (by rw [e3]; exact hP') (by rw [e3]; exact hz') (fun q h3 h4 => by rw [e3]; exact hF q h3 h4) hL
        simp only [xcat, hen, Option.bind_some] at hcat
        obtain ⟨hp, hhd, hput⟩ := bind_s hcat
        obtain ⟨pre, z, suf, hsp, hcov, hzx, hzh, hpre⟩ := xhd_s _ _ _ _ hhd
        have hz3 := xHc_ok (μ := μ) (q := z) (by rw [hsp]; simp)
        have hown8 : s.vm.findClass "CarvedRinksLaw" = some m.cls := by
          have := hown
          rw [ho8] at this
          exact this
        have hcast : (Cond.castable (xXI x).1 (xXI x).1).before args s = true := by
          have hx3 : x < 3 := by rw [← hzx]; exact hz3.2.2
          have hin : Cond.castable (xXI x).1 (xXI x).1 ∈ lw_tbl ∧ (goodWord (Cond.castable (xXI x).1 (xXI x).1) = true ∨ Cond.castable (xXI x).1 (xXI x).1 ∈ xNG) := by
            have key : [0, 1, 2].all (fun x => decide (Cond.castable (xXI x).1 (xXI x).1 ∈ lw_tbl) && (goodWord (Cond.castable (xXI x).1 (xXI x).1) || decide (Cond.castable (xXI x).1 (xXI x).1 ∈ xNG))) = true := by decide +kernel
            have h5 := xall key (show x ∈ [0, 1, 2] by
              rcases x with _ | _ | _ | x
              · simp
              · simp
              · simp
              · omega)
            simpa using h5
          rcases hin.2 with q | q
          · exact hts _ (List.mem_filter.mpr ⟨hin.1, q⟩)
          · exact va_Nw.use rfl (hX.1 _ q)
        have hwx := vx_catch (name := (xXI x).1) (E := (xXI x).1) (q := qx) (pc := pc) (ls := lsJ) (rest := st2.map (xcv B b)) (Q := Q) (H := T'.heap) (locs := locs ++ L) (cells := cells + xcw σ1 τ) (slots := slots + xsw σ1 τ) (p := p) (l := l) (e := e) (R := R) (below := below) (meth := meth) (args := args) hown8
          ((pre.map (fun q => (q.1, q.2.1, q.2.2.1, q.2.2.2.1))).map fun q => ⟨q.1, q.2.1, q.2.2.1, q.2.2.2⟩) ⟨z.1, z.2.1, z.2.2.1, z.2.2.2.1⟩ ((suf.map (fun q => (q.1, q.2.1, q.2.2.1, q.2.2.2.1))).map fun q => ⟨q.1, q.2.1, q.2.2.1, q.2.2.2⟩)
          (by rw [htab x rfl, xh4, hsp]; simp [tableOf]) (fun w hw => by
            simp only [List.map_map, List.mem_map] at hw
            obtain ⟨w0, hw0, rfl⟩ := hw
            rcases hpre w0 hw0 with q | q
            · refine Or.inl ?_
              simp only [covers, Function.comp, Bool.and_eq_false_iff, decide_eq_false_iff_not]
              by_cases z1 : w0.1 ≤ pc
              · exact Or.inr (fun z2 => q ⟨z1, z2⟩)
              · exact Or.inl z1
            · have hw3 := xHc_ok (μ := μ) (q := w0) (by rw [hsp]; exact List.mem_append_left _ hw0)
              exact Or.inr ⟨hw3.2.1, _, hts _ hw3.1, hX.2.2.1 x w0.2.2.2.2 (by rw [← hzx]; exact hz3.2.2) hw3.2.2 (fun h => q h.symm)⟩)
          (by simp only [covers, Bool.and_eq_true, decide_eq_true_eq]; exact hcov) hz3.2.1 (by rw [← hzx]; exact hts _ hz3.1) hcast (by rw [e3]; exact hce) hcv hcl2 (by
            show W p l e R s m args below meth c T'.heap (locs ++ L) (cells + xcw σ1 τ) (slots + xsw σ1 τ) Q (F0 m z.2.2.1 lsJ [.ref qx])
            rw [hzh]
            exact n_handler hE hput kk hOb)
        obtain ⟨t2, a1, b1⟩ := hwx T' rfl X'
        exact ⟨t2, st.trans a1, b1⟩
  · omega
  · omega
end XM2
