/-! ===== runs and contracts of methods that only return ===== -/
def xZc (e : xMe) : Bool := decide (xcn e.2.2.2.2.1 = e.1.cls) && (decide (1 < e.2.2.2.2.2.2.2) || decide (e.2.2.2.2.1 ≠ 8))
set_option maxRecDepth 100000 in
theorem xZ_all : xM.all xZc = true := by decide +kernel
theorem xZ_ok {ν : Nat} {f : xMe} (h : xM[ν]? = some f) : xcn f.2.2.2.2.1 = f.1.cls ∧ (f.2.2.2.2.2.2.2 ≤ 1 → f.2.2.2.2.1 ≠ 8) := by
  have h1 := xall xZ_all (List.mem_of_getElem? h)
  simp only [xZc, Bool.and_eq_true, Bool.or_eq_true, decide_eq_true_eq] at h1
  exact ⟨h1.1, fun hk => by rcases h1.2 with q | q; omega; exact q⟩
set_option maxRecDepth 100000 in
theorem xCL10 : xCL.all (fun e => decide (e.1.1 = 8) || ((decide (e.2.1 ≠ 10) && decide (e.2.1 ≠ 11)) && decide (e.2.1 ≠ 12))) = true := by decide +kernel
theorem xCL10_ok {o i k : Nat} {q : Nat × Nat × Nat × Nat × Nat × Nat} (h : xfind xCL o i = some (k, q)) (ho : o ≠ 8) : (k ≠ 10 ∧ k ≠ 11) ∧ k ≠ 12 := by
  have h1 := xall xCL10 (xfind_mem _ _ _ _ h)
  simp only [Bool.or_eq_true, Bool.and_eq_true, decide_eq_true_eq] at h1
  rcases h1 with h1 | h1
  · exact absurd h1 ho
  · exact h1
theorem xspr_len (as : List Value) : ∀ B b : Nat, (lg_sl (as.map (xcv B b))).length = (xspr as).length := by
  intro B b
  induction as with
  | nil => rfl
  | cons v as ih =>
    have h : ∀ (w : Value) (l : List Value), (lg_sl (w :: l)).length = (if w.category = 2 then 2 else 1) + (lg_sl l).length := by
      intro w l
      simp only [lg_sl, List.flatMap_cons, List.length_append]
      split <;> rfl
    rw [List.map_cons, h, ih, xcv_cat]
    cases v <;> simp [xspr, Value.category] <;> omega
theorem xlp_rep (B b : Nat) : ∀ (k j : Nat), xlp B b j (List.replicate k none) = []
  | 0, _ => rfl
  | k + 1, j => by rw [List.replicate_succ]; simp only [xlp]; exact xlp_rep B b k (j + 1)
theorem xlp_ini (B b n : Nat) (as : List Value) : ∀ j, xlp B b j (xspr as ++ List.replicate n none) = lv_args j (as.map (xcv B b)) := by
  induction as with
  | nil => intro j; exact xlp_rep B b n j
  | cons v as ih =>
    intro j
    cases v <;> simp only [xspr, List.cons_append, xlp, List.map_cons, lv_args, xcv, Value.category] <;> rw [ih] <;> rfl
theorem xini_len {n : Nat} {as : List Value} (h : (xspr as).length ≤ n) : (xini n as).length = n := by
  simp only [xini, List.length_append, List.length_replicate]
  omega
section XR
variable {p : Program} {l : Launch} {e : Env} {R : Room} {s : State} {m : MethodId} {args : Array Value} {below : List Frame} {meth : Method} {c : Code} {D : va_G} {cA : Nat → ClassId} {B b k0 z0 : Nat} {en : xMe} {pc : Nat} {ls : xL} {σ : xS}
/-- where a method returns -/
theorem xexit {len : Nat} {i : Instr} {st : List Value} {v : Option Value} {τ : xS} (E : xEnv p l e R s m args below meth c D cA B b en) (hd : decode en.2.1 pc = .ok (i, len)) (h : xDo en pc ls st σ i len = some (.inr (.inl (v, τ)))) (hret : meth.sig.returnType = en.2.2.2.1) (hlocks : meth.locks = false) : xT p l e R s m args below meth c (MQ below (xQc D cA B b v τ) args s ((τ.2.1 + τ.2.2.1) - k0) (τ.2.2.2 - z0) (fun q => B ≤ q)) D cA B b k0 z0 en pc ls st σ := by
  obtain ⟨hx, hb, -⟩ := E
  have fin : ∀ (w : Option Value), xret w σ = some (.inr (.inl (v, τ))) → w = v ∧ τ = σ := by
    intro w hw
    simp only [xret, Option.some.injEq, Sum.inr.injEq, Sum.inl.injEq, Prod.mk.injEq] at hw
    exact ⟨hw.1, hw.2.symm⟩
  have key : ∀ (st0 : List Value), τ = σ → (∀ (lsJ : Array Slot) (H : Heap) (locs : List Loc) (cells slots : Nat), xWF σ → va_P D vwCl (xW B b cA σ) H → va_S (fun q => B ≤ q) s.heap H locs → W p l e R s m args below meth c H locs cells slots (MQ below (xQc D cA B b v τ) args s cells slots (fun q => B ≤ q)) (F0 m pc lsJ (st0.map (xcv B b)))) → xT p l e R s m args below meth c (MQ below (xQc D cA B b v τ) args s ((τ.2.1 + τ.2.2.1) - k0) (τ.2.2.2 - z0) (fun q => B ≤ q)) D cA B b k0 z0 en pc ls st0 σ := by
    intro st0 e1 hh lsJ H locs cells slots hO
    have h1 := hh lsJ H locs cells slots hO.2.2.1 hO.2.2.2.1 hO.2.2.2.2.1
    have hc := hO.2.2.2.2.2.2.1
    have e2 : (τ.2.1 + τ.2.2.1) - k0 = cells := by rw [e1]; omega
    have e3 : τ.2.2.2 - z0 = slots := by rw [e1]; omega
    rw [e2, e3]
    exact h1
  obtain ⟨e3, h | h | h | h | h⟩ := xret_s h
  · obtain ⟨rfl, rfl, x, rfl, rfl, hr⟩ := h
    refine key _ e3 (fun lsJ H locs cells slots hWF hP hS => ?_)
    rcases hr with hr | ⟨hr, hz⟩
    · exact W.iret hx hb (hret.trans hr) (fun t ht hW => ⟨rfl, by rw [e3]; exact hWF, by rw [ht, e3]; exact hP, hS.F ht⟩) hS.2.2 hd hlocks
    · exact W.zret hx hb (hret.trans hr) (by rcases hz with rfl | rfl <;> decide +kernel) (fun t ht hW => ⟨rfl, by rw [e3]; exact hWF, by rw [ht, e3]; exact hP, hS.F ht⟩) hS.2.2 hd hlocks
  · obtain ⟨rfl, rfl, x, rfl, rfl, hr⟩ := h
    refine key _ e3 (fun lsJ H locs cells slots hWF hP hS => ?_)
    exact W.lret hx hb (hret.trans hr) (fun t ht hW => ⟨rfl, by rw [e3]; exact hWF, by rw [ht, e3]; exact hP, hS.F ht⟩) hS.2.2 hd hlocks
  · obtain ⟨rfl, rfl, x, rfl, rfl, hr⟩ := h
    refine key _ e3 (fun lsJ H locs cells slots hWF hP hS => ?_)
    exact W.fret hx hb (hret.trans hr) (fun t ht hW => ⟨rfl, by rw [e3]; exact hWF, by rw [ht, e3]; exact hP, hS.F ht⟩) hS.2.2 hd hlocks
  · obtain ⟨rfl, rfl, x, rfl, rfl, hr⟩ := h
    refine key _ e3 (fun lsJ H locs cells slots hWF hP hS => ?_)
    exact W.dret hx hb (hret.trans hr) (fun t ht hW => ⟨rfl, by rw [e3]; exact hWF, by rw [ht, e3]; exact hP, hS.F ht⟩) hS.2.2 hd hlocks
  · obtain ⟨rfl, rfl, rfl, rfl, hr⟩ := h
    refine key _ e3 (fun lsJ H locs cells slots hWF hP hS => ?_)
    exact W.vret hx hb (hret.trans hr) (fun t ht hW => ⟨rfl, by rw [e3]; exact hWF, by rw [ht, e3]; exact hP, hS.F ht⟩) hS.2.2 hd hlocks
theorem xact_s {μ : Nat} {st : List Value} {a : xA} (h : xact μ pc ls st σ = some a) (hen : xM[μ]? = some en) : ∃ i len, decode en.2.1 pc = .ok (i, len) ∧ xDo en pc ls st σ i len = some a := by
  simp only [xact, hen, Option.bind_some] at h
  split at h
  · next i len hd => exact ⟨i, len, hd, h⟩
  · cases h
end XR
/-- a run keeps what is old -/
theorem xrun_ext : ∀ (f μ pc : Nat) (ls : xL) (st : List Value) (σ : xS) (o : Option Value ⊕ Nat) (τ : xS), xrun f μ pc ls st σ = some (o, τ) → xWF σ → xExt σ τ ∧ xWF τ := by
  intro f
  induction f with
  | zero => intro μ pc ls st σ o τ h; cases h
  | succ f ih =>
    intro μ pc ls st σ o τ h hWF
    have hen : ∀ a, xact μ pc ls st σ = some a → ∃ en, xM[μ]? = some en := by
      intro a ha
      unfold xact at ha
      obtain ⟨en, h1, -⟩ := bind_s ha
      exact ⟨en, h1⟩
    unfold xrun at h
    split at h
    · cases h
    · next pc' ls' st' σ' e =>
      obtain ⟨en, h1⟩ := hen _ e
      obtain ⟨i, len, -, h2⟩ := xact_s e h1
      obtain ⟨g1, g2⟩ := xext hWF h2
      obtain ⟨g3, g4⟩ := ih _ _ _ _ _ _ _ h g2
      exact ⟨g1.tr g3, g4⟩
    · next v σ' e =>
      obtain ⟨en, h1⟩ := hen _ e
      obtain ⟨i, len, -, h2⟩ := xact_s e h1
      cases h
      obtain ⟨rfl, -⟩ := xret_s h2
      exact ⟨xExt.rf, hWF⟩
    · next ν as pc' ls' st' σ' e =>
      obtain ⟨en, h1⟩ := hen _ e
      obtain ⟨i, len, -, h2⟩ := xact_s e h1
      obtain ⟨f0, -, -, -, -, -, -, rfl, -⟩ := xcall_s h2
      split at h
      · cases h
      · next v σ2 e2 =>
        obtain ⟨g1, g2⟩ := ih _ _ _ _ _ _ _ e2 hWF
        obtain ⟨g3, g4⟩ := ih _ _ _ _ _ _ _ h g2
        exact ⟨g1.tr g3, g4⟩
      · next x σ2 e2 =>
        obtain ⟨g1, g2⟩ := ih _ _ _ _ _ _ _ e2 hWF
        split at h
        · obtain ⟨g3, g4⟩ := ih _ _ _ _ _ _ _ h g2
          exact ⟨g1.tr g3, g4⟩
        · cases h
    · next x σ' e =>
      obtain ⟨en, h1⟩ := hen _ e
      obtain ⟨i, len, -, h2⟩ := xact_s e h1
      cases h
      obtain ⟨k1, p, -, -, -, -, -, -, rfl⟩ := xthrow_s h2
      exact ⟨⟨rfl, Nat.le_refl _, Nat.le_succ _, Nat.le_add_right _ _⟩, hWF⟩
def xHLn (μ : Nat) : Bool := match xM[μ]? with
  | some e => decide (e.2.2.2.2.2.2.2 = 2) || (xhs xHL μ).isEmpty
  | none => true
set_option maxRecDepth 100000 in
theorem xHL_all : (List.range 300).all xHLn = true := by decide +kernel
theorem xM_len : xM.length ≤ 300 := by decide +kernel
theorem xcat_none {μ : Nat} {en : xMe} (h : xM[μ]? = some en) (hk : en.2.2.2.2.2.2.2 ≠ 2) (pc x : Nat) (ls : xL) : xcat μ pc x ls = none := by
  have hl : μ < 300 := Nat.lt_of_lt_of_le (List.getElem?_eq_some_iff.mp h).1 xM_len
  have h1 := xall xHL_all (List.mem_range.mpr hl)
  simp only [xHLn, h, Bool.or_eq_true, decide_eq_true_eq] at h1
  rcases h1 with h1 | h1
  · exact absurd h1 hk
  · simp only [xcat, h, Option.bind_some]
    rw [List.isEmpty_iff.mp h1]
    rfl
/-- a run of a method that only returns is the machine's -/
def xGd (l : Launch) (f : Nat) : Prop := ∀ (μ pc : Nat) (ls : xL) (st : List Value) (σ : xS) (v : Option Value) (τ : xS), xrun f μ pc ls st σ = some (.inl v, τ) → ∀ en, xM[μ]? = some en → en.2.2.2.2.2.2.2 = 0 →
  ∀ (p : Program) (e : Env) (R : Room) (s : State) (m : MethodId) (args : Array Value) (below : List Frame) (meth : Method) (c : Code) (D : va_G) (cA : Nat → ClassId) (B b k0 z0 : Nat), xEnv p l e R s m args below meth c D cA B b en → meth.sig.returnType = en.2.2.2.1 → meth.locks = false → τ.2.1 + τ.2.2.1 ≤ k0 + R.cells ∧ τ.2.2.2 ≤ z0 + R.slots →
    xT p l e R s m args below meth c (MQ below (xQc D cA B b v τ) args s ((τ.2.1 + τ.2.2.1) - k0) (τ.2.2.2 - z0) (fun q => B ≤ q)) D cA B b k0 z0 en pc ls st σ
/-- the contract of a method that only returns, out of a run -/
theorem xmet_of {l : Launch} {f ν : Nat} {as : List Value} {σ τ : xS} {v : Option Value} {D : va_G} {cA : Nat → ClassId} {B b : Nat} (hG : xGd l f) (h : xrun f ν 0 (xini (xnl ν) as) [] σ = some (.inl v, τ)) (h0 : ∀ en, xM[ν]? = some en → en.2.2.2.2.2.2.2 = 0 ∧ (xspr as).length ≤ en.2.2.1) : xMet l D cA B b ν as σ v τ := by
  intro en hen
  obtain ⟨hk, hlen⟩ := h0 en hen
  obtain ⟨hcode, hpl⟩ := xM_ok hen (by omega)
  have hz := xZ_ok hen
  have hnl : xnl ν = en.2.2.1 := by simp only [xnl, hen]
  refine va_MetF (cc := en.2.1) (maxL := en.2.2.1) (ret := en.2.2.2.1) hpl rfl ?_
  intro p e s m args below meth c s₁ Bd hml hv
  obtain ⟨rfl, hWF, hP, hK, hTab, hB, hsz⟩ := hv
  have hts := atoms_spec (ws := xws en) Bd.pre
  have hlv := lv_entry (as.map (xcv B b)) (n := en.2.2.1) (by rw [xspr_len]; exact hlen)
  rw [lg_entry_eq]
  generalize (lg_sl (as.map (xcv B b)) ++ List.replicate (en.2.2.1 - (lg_sl (as.map (xcv B b))).length) Slot.unset).toArray = ls at hlv ⊢
  obtain ⟨hx1, -⟩ := xrun_ext _ _ _ _ _ _ _ _ h hWF
  obtain ⟨x1, x2, x3, x4⟩ := hx1
  refine hG ν 0 (xini (xnl ν) as) [] σ v τ h en hen hk p e (headSpec (xws en) (xrm en σ τ)).room s m (as.map (xcv B b)).toArray below meth c D cA B b (σ.2.1 + σ.2.2.1) σ.2.2.2 ⟨Bd.exec, Bd.bytes, hml, ?_, fun w hw => hts w (List.mem_cons_of_mem _ hw), hK, hTab, fun hi => (name_of_methodNamed Bd.named Bd.method).1.trans hi, ⟨Nat.le_refl _, Nat.le_refl _⟩, hB⟩ Bd.returns Bd.notSynchronized ?_ ls s.heap [] 0 0 ⟨?_, ?_, hWF, hP, va_S.rf, hsz, by omega, fun h3 => by omega⟩
  · rw [hz.1]; exact findClass_of_methodNamed Bd.named
  · show _ ≤ _ + xcw σ τ ∧ _ ≤ _ + xsw σ τ
    simp only [xcw, xsw]
    omega
  · rw [hnl, xini, xlp_ini]; exact hlv
  · rw [hnl]; exact xini_len hlen
set_option maxHeartbeats 4000000 in
set_option maxRecDepth 100000 in
theorem xGd_all (l : Launch) : ∀ f, xGd l f := by
  intro f
  induction f with
  | zero => intro μ pc ls st σ v τ h; cases h
  | succ f ih =>
    intro μ pc ls st σ v τ h en hen hk p e R s m args below meth c D cA B b k0 z0 E hret hlocks hroom lsJ H locs cells slots hO
    have hWF := hO.2.2.1
    unfold xrun at h
    split at h
    · cases h
    · next pc' ls' st' σ' ea =>
      obtain ⟨i, len, hd, h2⟩ := xact_s ea hen
      obtain ⟨g1, g2⟩ := xext hWF h2
      obtain ⟨⟨-, x2, x3, x4⟩, g4⟩ := xrun_ext _ _ _ _ _ _ _ _ h g2
      exact xnext E hd h2 (by omega) (ih _ _ _ _ _ _ _ h en hen hk p e R s m args below meth c D cA B b k0 z0 E hret hlocks hroom) lsJ H locs cells slots hO
    · next v' σ' ea =>
      obtain ⟨i, len, hd, h2⟩ := xact_s ea hen
      cases h
      exact xexit E hd h2 hret hlocks lsJ H locs cells slots hO
    · next ν as pc' ls' st' σ' ea =>
      obtain ⟨i, len, hd, h2⟩ := xact_s ea hen
      obtain ⟨f0, hf0, hw, hrm, hspr, rfl, rfl, rfl, k1, n, p1, p2, p3, p4, hcall⟩ := xcall_s h2
      have ho8 := (xZ_ok hen).2 (by omega)
      split at h
      · cases h
      · next v2 σ2 e2 =>
        obtain ⟨g1, g2⟩ := xrun_ext _ _ _ _ _ _ _ _ e2 hWF
        obtain ⟨⟨-, x2, x3, x4⟩, g4⟩ := xrun_ext _ _ _ _ _ _ _ _ h g2
        have kk := ih _ _ _ _ _ _ _ h en hen hk p e R s m args below meth c D cA B b k0 z0 E hret hlocks hroom
        have hkind : ∀ k2 q, xfind xCL en.2.2.2.2.1 k1 = some (k2, ν, q) → k2 = 0 ∨ k2 = 1 ∨ k2 = 2 ∨ k2 = 3 → f0.2.2.2.2.2.2.2 = 0 := by
          intro k2 q hq hk2
          obtain ⟨q1, q2, q3, q4, q5⟩ := q
          have h9 := xall xCL_all (xfind_mem _ _ _ _ hq)
          rcases hk2 with rfl | rfl | rfl | rfl <;> simp only [xCLc, hf0, Bool.and_eq_true, decide_eq_true_eq] at h9
          · exact h9.2.2
          · exact h9.2.2
          · exact h9.2.1.1.2
          · exact h9.2.2
        have hmet : f0.2.2.2.2.2.2.2 = 0 → xMet l D cA B b ν as σ' v2 σ2 := fun h0 => xmet_of ih e2 (fun en2 hen2 => by
          cases hf0.symm.trans hen2
          exact ⟨h0, hspr⟩)
        rcases hcall with ⟨rfl, rfl, hq | hq | hq | ⟨hq, -⟩, hpop⟩ | ⟨rfl, rfl, hq | hq, a, as2, rfl, hpop, hcl⟩ | ⟨rfl, rfl, hq, a, as2, rfl, hpop⟩
        · exact n_cS E hd hq hf0 hpop hw hrm (hmet (hkind _ _ hq (Or.inl rfl))) g1 (by omega) kk lsJ H locs cells slots hO
        · exact n_cN E hd hq hf0 hpop hw hrm (hmet (hkind _ _ hq (Or.inr (Or.inr (Or.inr rfl))))) g1 (by omega) kk lsJ H locs cells slots hO
        · exact absurd rfl (xCL10_ok hq ho8).1.2
        · exact absurd rfl (xCL10_ok hq ho8).2
        · exact n_cV E hd hq hf0 hpop hcl hw hrm (hmet (hkind _ _ hq (Or.inr (Or.inl rfl)))) g1 (by omega) kk lsJ H locs cells slots hO
        · exact absurd rfl (xCL10_ok hq ho8).1.1
        · exact n_cI E hd hq hf0 hpop hw hrm (hmet (hkind _ _ hq (Or.inr (Or.inr (Or.inl rfl))))) g1 (by omega) kk lsJ H locs cells slots hO
      · next x σ2 e2 =>
        rw [xcat_none hen (by omega)] at h
        cases h
    · cases h
/-- the contract of a method that only returns -/
theorem xmet {l : Launch} {ν : Nat} {as : List Value} {σ τ : xS} {v : Option Value} {D : va_G} {cA : Nat → ClassId} {B b : Nat} (h : xC1 ν as σ = some (.inl v, τ)) (h0 : ∀ en, xM[ν]? = some en → en.2.2.2.2.2.2.2 = 0 ∧ (xspr as).length ≤ en.2.2.1) : xMet l D cA B b ν as σ v τ := by
  obtain ⟨f, hf⟩ := xR_iff.mp h
  exact xmet_of (xGd_all l f) hf h0
