/-! ===== runs of the catchers and of the law ===== -/
def xws2 (ν : Nat) (f : xMe) : List Cond := .codeWith f.1 f.2.1 f.2.2.1 f.2.2.2.1 (xh4 ν) :: xWS
def xMet2 (l : Launch) (D : va_G) (cA : Nat → ClassId) (B b ν : Nat) (as : List Value) (σ : xS) (v : Option Value) (τ : xS) : Prop :=
  ∀ f, xM[ν]? = some f → Met l f.1 (xws2 ν f) (xrm f σ τ) (xPx D cA B b as σ) (xQc D cA B b v τ) (xcw σ τ) (xsw σ τ) (fun q => B ≤ q)
/-- what a method of the law's own may ask of its start: the script too -/
def xScr (B b : Nat) (σ : xS) (U : State) : Prop := ∀ n f, σ.1 1000 = some (.inl (9, n, .inl f)) → va_X b n f U U.heap ∧ b < U.heap.size ∧ b < B
def xPs (D : va_G) (cA : Nat → ClassId) (B b : Nat) (as : List Value) (σ : xS) : Array Value → State → Prop := va_Pc (as.map (xcv B b)) (fun U => (xB D cA B b σ U ∧ xExc B U U.heap) ∧ xScr B b σ U)
theorem xPs_blind {D : va_G} {cA : Nat → ClassId} {B b : Nat} {as : List Value} {σ : xS} : FrameBlind (xPs D cA B b as σ) := by
  rintro a U g mk ⟨h0, ⟨⟨h1, h2, h3, h4, h5⟩, h6⟩, h7⟩
  refine ⟨h0, ⟨⟨h1, h2, va_K.moved (u := U) (U := U.calling g mk a) (Vm.Alike.refl U.vm) h3, xTab.same (u := U) (U := U.calling g mk a) rfl h4, h5⟩, xExc.same (u := U) (U := U.calling g mk a) rfl h6⟩, fun n f hf => ?_⟩
  obtain ⟨g1, g2, g3⟩ := h7 n f hf
  exact ⟨va_X.moved (u := U) (U := U.calling g mk a) (Vm.Alike.refl U.vm) g1, g2, g3⟩
def xMet4 (l : Launch) (D : va_G) (cA : Nat → ClassId) (B b ν : Nat) (as : List Value) (σ : xS) (v : Option Value) (τ : xS) : Prop :=
  ∀ f, xM[ν]? = some f → Met l f.1 (xws f) (xrm f σ τ) (xPs D cA B b as σ) (xQc D cA B b v τ) (xcw σ τ) (xsw σ τ) (fun q => B ≤ q)
section XL2
variable {p : Program} {l : Launch} {e : Env} {R : Room} {s : State} {m : MethodId} {args : Array Value} {below : List Frame} {meth : Method} {c : Code} {Q : State → Prop} {D : va_G} {cA : Nat → ClassId} {B b k0 z0 : Nat} {en : xMe} {pc : Nat} {ls : xL} {r : List Value} {σ : xS}
theorem n_c11 {k1 ν n p1 p2 p3 p4 : Nat} {f : xMe} {as st : List Value} {v : Option Value} {τ : xS} (E : xEnv p l e R s m args below meth c D cA B b en) (hX : xExc B s s.heap) (hd : decode en.2.1 pc = .ok (.invokestatic k1, 3)) (hf : xfind xCL en.2.2.2.2.1 k1 = some (11, ν, n, p1, p2, p3, p4)) (hν : xM[ν]? = some f) (hpop : xpop n st = some (as, r)) (hw : xwid r ≤ 8) (hrm : f.2.2.2.2.2.1 + 1 ≤ en.2.2.2.2.2.1 ∧ 8 + (f.2.2.1 + 11) + f.2.2.2.2.2.2.1 ≤ en.2.2.2.2.2.2.1) (hM : xMet2 l D cA B b ν as σ v τ) (hxt : xExt σ τ) (hroom : τ.2.1 + τ.2.2.1 ≤ k0 + R.cells ∧ τ.2.2.2 ≤ z0 + R.slots) (k : xT p l e R s m args below meth c Q D cA B b k0 z0 en (pc + 3) ls (v.toList ++ r) τ) : xT p l e R s m args below meth c Q D cA B b k0 z0 en pc ls st σ := by
  obtain ⟨rfl, hlen⟩ := xpop_s _ _ _ _ hpop
  intro lsJ H locs cells slots hO T hT X
  have h1 := xall xCL_all (xfind_mem _ _ _ _ hf)
  simp only [xCLc, hν, Bool.and_eq_true, decide_eq_true_eq] at h1
  have hE := E
  obtain ⟨hx, hb, hml, hown, hts, hK, hTab, hnm, ⟨hfr, hlo⟩, hB⟩ := E
  have hc := hO.2.2.2.2.2.2.1
  have hcw : xcw σ τ = (τ.2.1 + τ.2.2.1) - (σ.2.1 + σ.2.2.1) := rfl
  have hsw : xsw σ τ = τ.2.2.2 - σ.2.2.2 := rfl
  obtain ⟨-, x2, x3, x4⟩ := id hxt
  have hw2 := xwid_cv (B := B) (b := b) r
  obtain ⟨h2, ⟨⟨h3, h4⟩, h5⟩, h6⟩ := h1
  have hcode : Cond.codeWith f.1 f.2.1 f.2.2.1 f.2.2.2.1 (xh4 ν) ∈ xWS := List.mem_filter.mpr ⟨xM2_ok hν h6, rfl⟩
  have hgood : GoodIn xWS (va_wsS (xcn en.2.2.2.2.1) k1 f.1 (xws2 ν f)) := by
    intro w hw
    have hin : w ∈ xWS := by
      rcases List.mem_append.mp hw with q | q
      · simp only [List.mem_cons, List.mem_nil_iff, or_false] at q
        rcases q with rfl | rfl | rfl
        · exact xgood_s h3
        · exact xgood_s h4
        · exact xgood_s h5
      · rcases List.mem_cons.mp q with rfl | q
        · exact hcode
        · exact q
    exact ⟨hin, good_of_word (xWS_good _ hin)⟩
  refine n_back (vx_runSW (As := as.map (xcv B b)) (rest := r.map (xcv B b)) (n := n) ⟨hx, hb, hml, hown, hts⟩ (hM f hν) (vx_cwSW n hts hgood (ws' := xWS) rfl rfl rfl (xdsc_s h2) ⟨by show f.2.2.2.2.2.1 + 1 ≤ _; omega, by show 8 + (f.2.2.1 + 11) + f.2.2.2.2.2.2.1 ≤ _; omega⟩) ⟨xPx_blind, xprex hE hX hO (by rw [← hT]; exact X.heapSize)⟩ rfl (by rw [List.length_map]; exact hlen) hO.1.1 (by show (as.reverse ++ r).map (xcv B b) = _; rw [List.map_append, List.map_reverse]) (lv_room (by rw [hw2]; exact hw)) hd (by omega)) hO hxt k T hT X
theorem xpres {as : List Value} {lsJ : Array Slot} {H : Heap} {locs : List Loc} {cells slots : Nat} (E : xEnv p l e R s m args below meth c D cA B b en) (hX : xExc B s s.heap) (h3 : 3 ≤ en.2.2.2.2.2.2.2) (hO : xOk s D cA B b k0 z0 en ls σ lsJ H locs cells slots) (hs : H.size ≤ s.heap.size + cells) : ∀ U : State, U.heap = H → s.WarmedH U.vm → xPs D cA B b as σ (as.map (xcv B b)).toArray U := by
  intro U hU hW
  have h1 := xprex (as := as) E hX hO hs U hU hW
  refine ⟨h1.1, h1.2, fun n f hf => ?_⟩
  obtain ⟨hl, hn, hWF, hP, hS, hz, hc, hscr⟩ := hO
  obtain ⟨g1, g2, g3⟩ := hscr h3 n f hf
  rw [hU]
  exact ⟨va_X.moved hW.alike (va_X.kept g1 (hS.2.1 b g2 (by omega))), Nat.lt_of_lt_of_le g2 hS.1, g3⟩
theorem n_c12 {k1 ν n p1 p2 p3 p4 : Nat} {f : xMe} {as st : List Value} {v : Option Value} {τ : xS} (E : xEnv p l e R s m args below meth c D cA B b en) (hX : xExc B s s.heap) (h39 : 3 ≤ en.2.2.2.2.2.2.2) (hd : decode en.2.1 pc = .ok (.invokestatic k1, 3)) (hf : xfind xCL en.2.2.2.2.1 k1 = some (12, ν, n, p1, p2, p3, p4)) (hν : xM[ν]? = some f) (hpop : xpop n st = some (as, r)) (hw : xwid r ≤ 8) (hrm : f.2.2.2.2.2.1 + 1 ≤ en.2.2.2.2.2.1 ∧ 8 + (f.2.2.1 + 11) + f.2.2.2.2.2.2.1 ≤ en.2.2.2.2.2.2.1) (hM : xMet4 l D cA B b ν as σ v τ) (hxt : xExt σ τ) (hroom : τ.2.1 + τ.2.2.1 ≤ k0 + R.cells ∧ τ.2.2.2 ≤ z0 + R.slots) (k : xT p l e R s m args below meth c Q D cA B b k0 z0 en (pc + 3) ls (v.toList ++ r) τ) : xT p l e R s m args below meth c Q D cA B b k0 z0 en pc ls st σ := by
  obtain ⟨rfl, hlen⟩ := xpop_s _ _ _ _ hpop
  intro lsJ H locs cells slots hO T hT X
  have h1 := xall xCL_all (xfind_mem _ _ _ _ hf)
  simp only [xCLc, hν, Bool.and_eq_true, decide_eq_true_eq] at h1
  have hE := E
  obtain ⟨hx, hb, hml, hown, hts, hK, hTab, hnm, ⟨hfr, hlo⟩, hB⟩ := E
  have hc := hO.2.2.2.2.2.2.1
  have hcw : xcw σ τ = (τ.2.1 + τ.2.2.1) - (σ.2.1 + σ.2.2.1) := rfl
  have hsw : xsw σ τ = τ.2.2.2 - σ.2.2.2 := rfl
  obtain ⟨-, x2, x3, x4⟩ := id hxt
  have hw2 := xwid_cv (B := B) (b := b) r
  obtain ⟨h2, ⟨⟨h3, h4⟩, h5⟩, h6⟩ := h1
  refine n_back (va_runS (As := as.map (xcv B b)) (rest := r.map (xcv B b)) (n := n) ⟨hx, hb, hml, hown, hts⟩ (hM f hν) ⟨xcalB hE hν (by omega) (xgood_s h3) (xgood_s h5) h2 hrm, hts _ (xgood_s h4)⟩ ⟨xPs_blind, xpres hE hX h39 hO (by rw [← hT]; exact X.heapSize)⟩ rfl (by rw [List.length_map]; exact hlen) hO.1.1 (by show (as.reverse ++ r).map (xcv B b) = _; rw [List.map_append, List.map_reverse]) (lv_room (by rw [hw2]; exact hw)) hd (by omega)) hO hxt k T hT X
end XL2
/-- who ends in a throw throws -/
theorem xrun_thr : ∀ (f μ pc : Nat) (ls : xL) (st : List Value) (σ : xS) (x : Nat) (τ : xS), xrun f μ pc ls st σ = some (.inr x, τ) → ∀ en, xM[μ]? = some en → en.2.2.2.2.2.2.2 = 1 := by
  intro f
  induction f with
  | zero => intro μ pc ls st σ x τ h; cases h
  | succ f ih =>
    intro μ pc ls st σ x τ h en hen
    unfold xrun at h
    split at h
    · cases h
    · exact ih _ _ _ _ _ _ _ h en hen
    · cases h
    · split at h
      · cases h
      · exact ih _ _ _ _ _ _ _ h en hen
      · split at h
        · exact ih _ _ _ _ _ _ _ h en hen
        · cases h
    · next y σ' ea =>
      obtain ⟨i, len, hd, h2⟩ := xact_s ea hen
      obtain ⟨k1, pl, -, -, -, -, hth, -⟩ := xthrow_s h2
      obtain ⟨is, ic, text, -, -, -, -, -, -, -, -, -, -, -, hk⟩ := xths_s hth
      exact hk
/-- runs of the catchers and of the law -/
def xGd2 (l : Launch) (f : Nat) : Prop := ∀ (μ pc : Nat) (ls : xL) (st : List Value) (σ : xS) (v : Option Value) (τ : xS), xrun f μ pc ls st σ = some (.inl v, τ) → ∀ en, xM[μ]? = some en → en.2.2.2.2.2.2.2 = 2 ∨ en.2.2.2.2.2.2.2 = 3 ∨ en.2.2.2.2.2.2.2 = 4 →
  ∀ (p : Program) (e : Env) (R : Room) (s : State) (m : MethodId) (args : Array Value) (below : List Frame) (meth : Method) (c : Code) (Q : State → Prop) (D : va_G) (cA : Nat → ClassId) (B b k0 z0 : Nat), xEnv p l e R s m args below meth c D cA B b en → (en.2.2.2.2.2.2.2 = 2 → c.exceptionTable.toList = tableOf (xh4 μ)) → xExc B s s.heap → τ.2.1 + τ.2.2.1 ≤ k0 + R.cells ∧ τ.2.2.2 ≤ z0 + R.slots →
    (∀ (pc1 : Nat) (ls1 : xL) (st1 : List Value) (σ1 : xS) (i : Instr) (len : Nat), decode en.2.1 pc1 = .ok (i, len) → xDo en pc1 ls1 st1 σ1 i len = some (.inr (.inl (v, τ))) → xT p l e R s m args below meth c Q D cA B b k0 z0 en pc1 ls1 st1 σ1) →
    xT p l e R s m args below meth c Q D cA B b k0 z0 en pc ls st σ
theorem xmet2_of {l : Launch} {f ν : Nat} {as : List Value} {σ τ : xS} {v : Option Value} {D : va_G} {cA : Nat → ClassId} {B b : Nat} (hG : xGd2 l f) (h : xrun f ν 0 (xini (xnl ν) as) [] σ = some (.inl v, τ)) (h0 : ∀ en, xM[ν]? = some en → en.2.2.2.2.2.2.2 = 2 ∧ (xspr as).length ≤ en.2.2.1) : xMet2 l D cA B b ν as σ v τ := by
  intro en hen
  obtain ⟨hk, hlen⟩ := h0 en hen
  have hz := xZ_ok hen
  have hnl : xnl ν = en.2.2.1 := by simp only [xnl, hen]
  have hpl : plainName en.1.cls = true := by
    have h1 := xall xpl1_all (List.mem_of_getElem? hen)
    simp only [Bool.or_eq_true, decide_eq_true_eq] at h1
    rcases h1 with (q | q) | q
    · omega
    · omega
    · exact q
  refine va_MetW (cc := en.2.1) (maxL := en.2.2.1) (ret := en.2.2.2.1) (hh := xh4 ν) hpl rfl ?_
  intro p e s m args below meth c s₁ Bd hml hv
  obtain ⟨rfl, ⟨hWF, hP, hK, hTab, hB, hsz⟩, hX⟩ := hv
  have hts := atoms_spec (ws := xws2 ν en) Bd.pre
  have htab := vx_table (x := en.1) Bd (hts _ List.mem_cons_self)
  have hlv := lv_entry (as.map (xcv B b)) (n := en.2.2.1) (by rw [xspr_len]; exact hlen)
  rw [lg_entry_eq]
  generalize (lg_sl (as.map (xcv B b)) ++ List.replicate (en.2.2.1 - (lg_sl (as.map (xcv B b))).length) Slot.unset).toArray = ls at hlv ⊢
  obtain ⟨hx1, -⟩ := xrun_ext _ _ _ _ _ _ _ _ h hWF
  obtain ⟨x1, x2, x3, x4⟩ := hx1
  have E : xEnv p l e (headSpec (xws2 ν en) (xrm en σ τ)).room s m (as.map (xcv B b)).toArray below meth c D cA B b en := ⟨Bd.exec, Bd.bytes, hml, by rw [hz.1]; exact findClass_of_methodNamed Bd.named, fun w hw => hts w (List.mem_cons_of_mem _ hw), hK, hTab, fun hi => (name_of_methodNamed Bd.named Bd.method).1.trans hi, ⟨Nat.le_refl _, Nat.le_refl _⟩, hB⟩
  have hret := Bd.returns
  have hlocks := Bd.notSynchronized
  have key := hG ν 0 (xini (xnl ν) as) [] σ v τ h en hen (Or.inl hk) p e (headSpec (xws2 ν en) (xrm en σ τ)).room s m (as.map (xcv B b)).toArray below meth c (MQ below (xQc D cA B b v τ) (as.map (xcv B b)).toArray s ((τ.2.1 + τ.2.2.1) - (σ.2.1 + σ.2.2.1)) (τ.2.2.2 - σ.2.2.2) (fun q => B ≤ q)) D cA B b (σ.2.1 + σ.2.2.1) σ.2.2.2 E (fun _ => htab) hX (by
    show _ ≤ _ + xcw σ τ ∧ _ ≤ _ + xsw σ τ
    simp only [xcw, xsw]
    omega) (fun pc1 ls1 st1 σ1 i len hd hdo => xexit E hd hdo hret hlocks) ls s.heap [] 0 0 ⟨by rw [hnl, xini, xlp_ini]; exact hlv, by rw [hnl]; exact xini_len hlen, hWF, hP, va_S.rf, hsz, by omega, fun h3 => by omega⟩
  exact key
theorem xmet4_of {l : Launch} {f ν : Nat} {as : List Value} {σ τ : xS} {v : Option Value} {D : va_G} {cA : Nat → ClassId} {B b : Nat} (hG : xGd2 l f) (h : xrun f ν 0 (xini (xnl ν) as) [] σ = some (.inl v, τ)) (h0 : ∀ en, xM[ν]? = some en → en.2.2.2.2.2.2.2 = 4 ∧ (xspr as).length ≤ en.2.2.1) : xMet4 l D cA B b ν as σ v τ := by
  intro en hen
  obtain ⟨hk, hlen⟩ := h0 en hen
  have hz := xZ_ok hen
  have hnl : xnl ν = en.2.2.1 := by simp only [xnl, hen]
  obtain ⟨hcode, hpl⟩ := xM_ok hen (by omega)
  refine va_MetF (cc := en.2.1) (maxL := en.2.2.1) (ret := en.2.2.2.1) hpl rfl ?_
  intro p e s m args below meth c s₁ Bd hml hv
  obtain ⟨rfl, ⟨⟨hWF, hP, hK, hTab, hB, hsz⟩, hX⟩, hscr⟩ := hv
  have hts := atoms_spec (ws := xws en) Bd.pre
  have hlv := lv_entry (as.map (xcv B b)) (n := en.2.2.1) (by rw [xspr_len]; exact hlen)
  rw [lg_entry_eq]
  generalize (lg_sl (as.map (xcv B b)) ++ List.replicate (en.2.2.1 - (lg_sl (as.map (xcv B b))).length) Slot.unset).toArray = ls at hlv ⊢
  obtain ⟨hx1, -⟩ := xrun_ext _ _ _ _ _ _ _ _ h hWF
  obtain ⟨x1, x2, x3, x4⟩ := hx1
  have E : xEnv p l e (headSpec (xws en) (xrm en σ τ)).room s m (as.map (xcv B b)).toArray below meth c D cA B b en := ⟨Bd.exec, Bd.bytes, hml, by rw [hz.1]; exact findClass_of_methodNamed Bd.named, fun w hw => hts w (List.mem_cons_of_mem _ hw), hK, hTab, fun hi => (name_of_methodNamed Bd.named Bd.method).1.trans hi, ⟨Nat.le_refl _, Nat.le_refl _⟩, hB⟩
  have hret := Bd.returns
  have hlocks := Bd.notSynchronized
  have key := hG ν 0 (xini (xnl ν) as) [] σ v τ h en hen (Or.inr (Or.inr hk)) p e (headSpec (xws en) (xrm en σ τ)).room s m (as.map (xcv B b)).toArray below meth c (MQ below (xQc D cA B b v τ) (as.map (xcv B b)).toArray s ((τ.2.1 + τ.2.2.1) - (σ.2.1 + σ.2.2.1)) (τ.2.2.2 - σ.2.2.2) (fun q => B ≤ q)) D cA B b (σ.2.1 + σ.2.2.1) σ.2.2.2 E (fun h2 => by omega) hX (by
    show _ ≤ _ + xcw σ τ ∧ _ ≤ _ + xsw σ τ
    simp only [xcw, xsw]
    omega) (fun pc1 ls1 st1 σ1 i len hd hdo => xexit E hd hdo hret hlocks) ls s.heap [] 0 0 ⟨by rw [hnl, xini, xlp_ini]; exact hlv, by rw [hnl]; exact xini_len hlen, hWF, hP, va_S.rf, hsz, by omega, fun _ n g hg => hscr n g hg⟩
  exact key
set_option maxHeartbeats 4000000 in
set_option maxRecDepth 100000 in
theorem xGd2_all (l : Launch) (hl : l.stackTraces = false) : ∀ f, xGd2 l f := by
  intro f
  induction f with
  | zero => intro μ pc ls st σ v τ h; cases h
  | succ f ih =>
    intro μ pc ls st σ v τ h en hen hk p e R s m args below meth c Q D cA B b k0 z0 E htab hX hroom hex lsJ H locs cells slots hO
    have hWF := hO.2.2.1
    unfold xrun at h
    split at h
    · cases h
    · next pc' ls' st' σ' ea =>
      obtain ⟨i, len, hd, h2⟩ := xact_s ea hen
      obtain ⟨g1, g2⟩ := xext hWF h2
      obtain ⟨⟨-, x2, x3, x4⟩, g4⟩ := xrun_ext _ _ _ _ _ _ _ _ h g2
      exact xnext E hd h2 (by omega) (ih _ _ _ _ _ _ _ h en hen hk p e R s m args below meth c Q D cA B b k0 z0 E htab hX hroom hex) lsJ H locs cells slots hO
    · next v' σ' ea =>
      obtain ⟨i, len, hd, h2⟩ := xact_s ea hen
      cases h
      exact hex _ _ _ _ _ _ hd h2 lsJ H locs cells slots hO
    · next ν as pc' ls' st' σ' ea =>
      obtain ⟨i, len, hd, h2⟩ := xact_s ea hen
      obtain ⟨f0, hf0, hw, hrm, hspr, hpc2, hls2, hσ, -⟩ := xcall_s h2
      have hWF' : xWF σ' := by rw [hσ]; exact hWF
      split at h
      · cases h
      · next v2 σ2 e2 =>
        obtain ⟨g1, g2⟩ := xrun_ext _ _ _ _ _ _ _ _ e2 hWF'
        obtain ⟨⟨-, x2, x3, x4⟩, g4⟩ := xrun_ext _ _ _ _ _ _ _ _ h g2
        have kk := ih _ _ _ _ _ _ _ h en hen hk p e R s m args below meth c Q D cA B b k0 z0 E htab hX hroom hex
        rcases xcall_kind h2 hf0 with q | q | ⟨ho8, hk2, k1, n, p1, p2, p3, p4, rfl, rfl, hq, hpop⟩ | ⟨⟨ho8, hk3⟩, hk4, k1, n, p1, p2, p3, p4, rfl, rfl, hq, hpop⟩
        · exact xcallp E hd h2 e2 (fun f1 hf1 => by cases hf0.symm.trans hf1; exact q) (by omega) kk lsJ H locs cells slots hO
        · exact n_c10 (o := .inl v2) hl E hX hen (fun x hx => by cases hx) hd h2 e2 (fun f1 hf1 => by cases hf0.symm.trans hf1; exact q.2.1) (by omega) (fun w hw => by cases hw; exact kk) (fun x hx => by cases hx) lsJ H locs cells slots hO
        · subst hpc2; subst hls2; subst hσ
          exact n_c11 E hX hd hq hf0 hpop hw hrm (xmet2_of ih e2 (fun en2 hen2 => by
            cases hf0.symm.trans hen2
            exact ⟨hk2, hspr⟩)) g1 (by omega) kk lsJ H locs cells slots hO
        · subst hpc2; subst hls2; subst hσ
          exact n_c12 E hX hk3 hd hq hf0 hpop hw hrm (xmet4_of ih e2 (fun en2 hen2 => by
            cases hf0.symm.trans hen2
            exact ⟨hk4, hspr⟩)) g1 (by omega) kk lsJ H locs cells slots hO
      · next x σ2 e2 =>
        split at h
        · next pc3 l3 hcat =>
          have hk2 : en.2.2.2.2.2.2.2 = 2 := by
            rcases hk with q | q
            · exact q
            · rw [xcat_none hen (by omega)] at hcat
              cases hcat
          obtain ⟨g1, g2⟩ := xrun_ext _ _ _ _ _ _ _ _ e2 hWF'
          obtain ⟨⟨-, x2, x3, x4⟩, g4⟩ := xrun_ext _ _ _ _ _ _ _ _ h g2
          have kk := ih _ _ _ _ _ _ _ h en hen hk p e R s m args below meth c Q D cA B b k0 z0 E htab hX hroom hex
          have hk1 : f0.2.2.2.2.2.2.2 = 1 := xrun_thr _ _ _ _ _ _ _ _ e2 f0 hf0
          exact n_c10 (o := .inr x) hl E hX hen (fun _ _ => htab hk2) hd h2 e2 (fun f1 hf1 => by cases hf0.symm.trans hf1; exact hk1) (by omega) (fun w hw => by cases hw) (fun y hy => by cases hy; exact ⟨_, _, hcat, kk⟩) lsJ H locs cells slots hO
        · cases h
    · cases h
