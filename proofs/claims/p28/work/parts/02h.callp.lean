/-! ===== calls of methods that only return; a step: by program (wip/tools/gen_next.py) ===== -/
section XD
variable {p : Program} {l : Launch} {e : Env} {R : Room} {s : State} {m : MethodId} {args : Array Value} {below : List Frame} {meth : Method} {c : Code} {Q : State → Prop} {D : va_G} {cA : Nat → ClassId} {B b k0 z0 : Nat} {en : xMe} {pc : Nat} {ls : xL} {r : List Value} {σ : xS}
theorem n_cS {k1 ν n p1 p2 p3 p4 : Nat} {f : xMe} {as st : List Value} {v : Option Value} {τ : xS} (E : xEnv p l e R s m args below meth c D cA B b en) (hd : decode en.2.1 pc = .ok (.invokestatic k1, 3)) (hf : xfind xCL en.2.2.2.2.1 k1 = some (0, ν, n, p1, p2, p3, p4)) (hν : xM[ν]? = some f) (hpop : xpop n st = some (as, r)) (hw : xwid r ≤ 8) (hrm : f.2.2.2.2.2.1 + 1 ≤ en.2.2.2.2.2.1 ∧ 8 + (f.2.2.1 + 11) + f.2.2.2.2.2.2.1 ≤ en.2.2.2.2.2.2.1) (hM : xMet l D cA B b ν as σ v τ) (hxt : xExt σ τ) (hroom : τ.2.1 + τ.2.2.1 ≤ k0 + R.cells ∧ τ.2.2.2 ≤ z0 + R.slots) (k : xT p l e R s m args below meth c Q D cA B b k0 z0 en (pc + 3) (ls) (v.toList ++ r) (τ)) : xT p l e R s m args below meth c Q D cA B b k0 z0 en (pc) (ls) (st) (σ) := by
  obtain ⟨rfl, hlen⟩ := xpop_s _ _ _ _ hpop
  intro lsJ H locs cells slots hO T hT X
  have h1 := xall xCL_all (xfind_mem _ _ _ _ hf)
  simp only [xCLc, hν, Bool.and_eq_true, decide_eq_true_eq] at h1
  have hE := E
  obtain ⟨hx, hb, hml, hown, hts, hK, hTab, hnm, ⟨hfr, hlo⟩, hB⟩ := E
  have hc := hO.2.2.2.2.2.2.1
  have hcw : xcw σ τ = (τ.2.1 + τ.2.2.1) - (σ.2.1 + σ.2.2.1) := rfl
  have hsw : xsw σ τ = τ.2.2.2 - σ.2.2.2 := rfl
  obtain ⟨-, x2, x3, x4⟩ := id hxt
  have hw2 := xwid_cv (B := B) (b := b) r
  obtain ⟨h2, ⟨⟨h3, h4⟩, h5⟩, h6⟩ := h1
  refine n_back (va_runS (As := as.map (xcv B b)) (rest := r.map (xcv B b)) (n := n) ⟨hx, hb, hml, hown, hts⟩ (hM f hν) ⟨xcalB hE hν (by omega) (xgood_s h3) (xgood_s h5) h2 hrm, hts _ (xgood_s h4)⟩ ⟨xPc_blind, xpre hE hO (by rw [← hT]; exact X.heapSize)⟩ rfl (by rw [List.length_map]; exact hlen) hO.1.1 (by show (as.reverse ++ r).map (xcv B b) = _; rw [List.map_append, List.map_reverse]) (lv_room (by rw [hw2]; exact hw)) hd (by omega)) hO hxt k T hT X
theorem n_cN {k1 ν n p1 p2 p3 p4 : Nat} {f : xMe} {as st : List Value} {v : Option Value} {τ : xS} (E : xEnv p l e R s m args below meth c D cA B b en) (hd : decode en.2.1 pc = .ok (.invokestatic k1, 3)) (hf : xfind xCL en.2.2.2.2.1 k1 = some (3, ν, n, p1, p2, p3, p4)) (hν : xM[ν]? = some f) (hpop : xpop n st = some (as, r)) (hw : xwid r ≤ 8) (hrm : f.2.2.2.2.2.1 + 1 ≤ en.2.2.2.2.2.1 ∧ 8 + (f.2.2.1 + 11) + f.2.2.2.2.2.2.1 ≤ en.2.2.2.2.2.2.1) (hM : xMet l D cA B b ν as σ v τ) (hxt : xExt σ τ) (hroom : τ.2.1 + τ.2.2.1 ≤ k0 + R.cells ∧ τ.2.2.2 ≤ z0 + R.slots) (k : xT p l e R s m args below meth c Q D cA B b k0 z0 en (pc + 3) (ls) (v.toList ++ r) (τ)) : xT p l e R s m args below meth c Q D cA B b k0 z0 en (pc) (ls) (st) (σ) := by
  obtain ⟨rfl, hlen⟩ := xpop_s _ _ _ _ hpop
  intro lsJ H locs cells slots hO T hT X
  have h1 := xall xCL_all (xfind_mem _ _ _ _ hf)
  simp only [xCLc, hν, Bool.and_eq_true, decide_eq_true_eq] at h1
  have hE := E
  obtain ⟨hx, hb, hml, hown, hts, hK, hTab, hnm, ⟨hfr, hlo⟩, hB⟩ := E
  have hc := hO.2.2.2.2.2.2.1
  have hcw : xcw σ τ = (τ.2.1 + τ.2.2.1) - (σ.2.1 + σ.2.2.1) := rfl
  have hsw : xsw σ τ = τ.2.2.2 - σ.2.2.2 := rfl
  obtain ⟨-, x2, x3, x4⟩ := id hxt
  have hw2 := xwid_cv (B := B) (b := b) r
  obtain ⟨h2, ⟨⟨h3, h4⟩, h5⟩, h6⟩ := h1
  obtain ⟨hcode, -⟩ := xM_ok hν (by omega)
  refine n_back (va_runSN (As := as.map (xcv B b)) (rest := r.map (xcv B b)) (n := n) (host := "CarvedRinks") ⟨hx, hb, hml, hown, hts⟩ (hM f hν) ⟨va_cnB n hts (xws_in hcode) (ws' := xWS) rfl rfl rfl (hTab.1 _ h3) (hts _ (xgood_s h5)) (xdsc_s h2) ⟨by show f.2.2.2.2.2.1 + 1 ≤ _; omega, by show 8 + (f.2.2.1 + 11) + f.2.2.2.2.2.2.1 ≤ _; omega⟩, hts _ (xgood_s h4), trivial⟩ ⟨xPc_blind, xpre hE hO (by rw [← hT]; exact X.heapSize)⟩ rfl (by rw [List.length_map]; exact hlen) hO.1.1 (by show (as.reverse ++ r).map (xcv B b) = _; rw [List.map_append, List.map_reverse]) (lv_room (by rw [hw2]; exact hw)) hd (by omega)) hO hxt k T hT X
theorem n_cV {k1 ν n p1 p2 p3 p4 : Nat} {a : Nat} {f : xMe} {as st : List Value} {v : Option Value} {τ : xS} (E : xEnv p l e R s m args below meth c D cA B b en) (hd : decode en.2.1 pc = .ok (.invokevirtual k1, 3)) (hf : xfind xCL en.2.2.2.2.1 k1 = some (1, ν, n, p1, p2, p3, p4)) (hν : xM[ν]? = some f) (hpop : xpop n st = some (as, .ref a :: r)) (hcl : (hcls σ a).bind (fun c => (vwCl[c]?).map (fun r => r.1)) = some f.1.cls) (hw : xwid r ≤ 8) (hrm : f.2.2.2.2.2.1 + 1 ≤ en.2.2.2.2.2.1 ∧ 8 + (f.2.2.1 + 11) + f.2.2.2.2.2.2.1 ≤ en.2.2.2.2.2.2.1) (hM : xMet l D cA B b ν (.ref a :: as) σ v τ) (hxt : xExt σ τ) (hroom : τ.2.1 + τ.2.2.1 ≤ k0 + R.cells ∧ τ.2.2.2 ≤ z0 + R.slots) (k : xT p l e R s m args below meth c Q D cA B b k0 z0 en (pc + 3) (ls) (v.toList ++ r) (τ)) : xT p l e R s m args below meth c Q D cA B b k0 z0 en (pc) (ls) (st) (σ) := by
  obtain ⟨rfl, hlen⟩ := xpop_s _ _ _ _ hpop
  intro lsJ H locs cells slots hO T hT X
  have h1 := xall xCL_all (xfind_mem _ _ _ _ hf)
  simp only [xCLc, hν, Bool.and_eq_true, decide_eq_true_eq] at h1
  have hE := E
  obtain ⟨hx, hb, hml, hown, hts, hK, hTab, hnm, ⟨hfr, hlo⟩, hB⟩ := E
  have hc := hO.2.2.2.2.2.2.1
  have hcw : xcw σ τ = (τ.2.1 + τ.2.2.1) - (σ.2.1 + σ.2.2.1) := rfl
  have hsw : xsw σ τ = τ.2.2.2 - σ.2.2.2 := rfl
  obtain ⟨-, x2, x3, x4⟩ := id hxt
  have hw2 := xwid_cv (B := B) (b := b) r
  obtain ⟨h2, ⟨⟨⟨h3, h4⟩, h5⟩, h7⟩, h6⟩ := h1
  obtain ⟨ci, hc1, hc2⟩ := bind_s hcl
  obtain ⟨fs, hfs⟩ := hcls_s hc1
  simp only [Option.map_eq_some_iff] at hc2
  obtain ⟨q, hq, hqc⟩ := hc2
  obtain ⟨ha, -, hwa⟩ := xW_get (B := B) (b := b) (cA := cA) hO.2.2.1 hfs (fun x h => by cases h)
  have hrv := va_recv hK hO.2.2.2.1 hq hwa
  rw [hqc] at hrv
  refine n_back (va_runV (As := as.map (xcv B b)) (rest := r.map (xcv B b)) (n := n) (C := f.1.cls) (b := xad B b a) ⟨hx, hb, hml, hown, hts⟩ (hM f hν) ⟨xcalB hE hν (by omega) (xgood_s h3) (xgood_s h7) h2 hrm, hts _ (xgood_s h4), hts _ (xgood_s h5)⟩ ⟨xPc_blind, hrv, xpre (as := .ref a :: as) hE hO (by rw [← hT]; exact X.heapSize)⟩ rfl (by rw [List.length_map]; exact hlen) hO.1.1 (by show (as.reverse ++ .ref a :: r).map (xcv B b) = _; rw [List.map_append, List.map_reverse]; rfl) (lv_room (by rw [hw2]; exact hw)) hd (by omega)) hO hxt k T hT X
theorem n_cI {k1 ν n p1 p2 p3 p4 : Nat} {a : Nat} {f : xMe} {as st : List Value} {v : Option Value} {τ : xS} (E : xEnv p l e R s m args below meth c D cA B b en) (hd : decode en.2.1 pc = .ok (.invokespecial k1, 3)) (hf : xfind xCL en.2.2.2.2.1 k1 = some (2, ν, n, p1, p2, p3, p4)) (hν : xM[ν]? = some f) (hpop : xpop n st = some (as, .ref a :: r)) (hw : xwid r ≤ 8) (hrm : f.2.2.2.2.2.1 + 1 ≤ en.2.2.2.2.2.1 ∧ 8 + (f.2.2.1 + 11) + f.2.2.2.2.2.2.1 ≤ en.2.2.2.2.2.2.1) (hM : xMet l D cA B b ν (.ref a :: as) σ v τ) (hxt : xExt σ τ) (hroom : τ.2.1 + τ.2.2.1 ≤ k0 + R.cells ∧ τ.2.2.2 ≤ z0 + R.slots) (k : xT p l e R s m args below meth c Q D cA B b k0 z0 en (pc + 3) (ls) (v.toList ++ r) (τ)) : xT p l e R s m args below meth c Q D cA B b k0 z0 en (pc) (ls) (st) (σ) := by
  obtain ⟨rfl, hlen⟩ := xpop_s _ _ _ _ hpop
  intro lsJ H locs cells slots hO T hT X
  have h1 := xall xCL_all (xfind_mem _ _ _ _ hf)
  simp only [xCLc, hν, Bool.and_eq_true, decide_eq_true_eq] at h1
  have hE := E
  obtain ⟨hx, hb, hml, hown, hts, hK, hTab, hnm, ⟨hfr, hlo⟩, hB⟩ := E
  have hc := hO.2.2.2.2.2.2.1
  have hcw : xcw σ τ = (τ.2.1 + τ.2.2.1) - (σ.2.1 + σ.2.2.1) := rfl
  have hsw : xsw σ τ = τ.2.2.2 - σ.2.2.2 := rfl
  obtain ⟨-, x2, x3, x4⟩ := id hxt
  have hw2 := xwid_cv (B := B) (b := b) r
  obtain ⟨h2, ⟨⟨⟨⟨h3, h4⟩, h5⟩, h6⟩, h7⟩, h8⟩ := h1
  have hcb := xcalB (σ := σ) (τ := τ) hE hν (by omega) (xgood_s h3) (xgood_s h5) h2 hrm
  rw [h8] at hcb
  refine n_back (va_runI (As := as.map (xcv B b)) (rest := r.map (xcv B b)) (n := n) (b := xad B b a) ⟨hx, hb, hml, hown, hts⟩ (hM f hν) ⟨hcb, h7, hts _ (xgood_s h4)⟩ ⟨xPc_blind, xpre (as := .ref a :: as) hE hO (by rw [← hT]; exact X.heapSize)⟩ rfl (by rw [List.length_map]; exact hlen) hO.1.1 (by show (as.reverse ++ .ref a :: r).map (xcv B b) = _; rw [List.map_append, List.map_reverse]; rfl) (lv_room (by rw [hw2]; exact hw)) hd (by omega)) hO hxt k T hT X
theorem xcal_s {ν pc' : Nat} {as st : List Value} {ls : xL} {a : xA} (h : xcal en ν as pc' ls st σ = some a) : ∃ f, xM[ν]? = some f ∧ xwid st ≤ 8 ∧ (f.2.2.2.2.2.1 + 1 ≤ en.2.2.2.2.2.1 ∧ 8 + (f.2.2.1 + 11) + f.2.2.2.2.2.2.1 ≤ en.2.2.2.2.2.2.1) ∧ (xspr as).length ≤ f.2.2.1 ∧ a = .inr (.inr (.inl (ν, as, pc', ls, st, σ))) := by
  unfold xcal at h
  obtain ⟨f, h1, h2⟩ := bind_s h
  obtain ⟨⟨h3, h4, h5, h6⟩, h7⟩ := ite_s h2
  cases h7
  exact ⟨f, h1, h3, ⟨h4, h5⟩, h6, rfl⟩
end XD
