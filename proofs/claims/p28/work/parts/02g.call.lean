/-! ===== natives and calls: by program (wip/tools/gen_call.py) ===== -/
theorem va_P_re {D : va_G} {cl : List vw_C} {ws : va_W} {i a : Nat} {x y : va_E} {H : Heap} (hP : va_P D cl (ws.set i (a, x)) H) (h : va_at D cl (a, x) H → va_at D cl (a, y) H) : va_P D cl (ws.set i (a, y)) H := by
  intro k q hq
  rw [List.getElem?_set] at hq
  split at hq
  · next hik =>
    split at hq
    · next hlt =>
      cases hq
      refine h (hP k (a, x) ?_)
      rw [List.getElem?_set, if_pos hik, if_pos hlt]
    · cases hq
  · next hik =>
    refine hP k q ?_
    rw [List.getElem?_set, if_neg hik]
    exact hq
theorem xwid_cv {B b : Nat} (r : List Value) : ((r.map (xcv B b)).map fun v => v.category).sum = xwid r := by
  rw [xwid_sum]
  induction r with
  | nil => rfl
  | cons a r ih => simp [xwid, xcv_cat, ih]
theorem xini9_s {C : String} (h : xini9 C = true) : Cond.initialized C ∈ xWS := by
  simp only [xini9, Bool.and_eq_true, decide_eq_true_eq] at h
  exact List.mem_filter.mpr h
section XG
variable {p : Program} {l : Launch} {e : Env} {R : Room} {s : State} {m : MethodId} {args : Array Value} {below : List Frame} {meth : Method} {c : Code} {Q : State → Prop} {D : va_G} {cA : Nat → ClassId} {B b k0 z0 : Nat} {en : xMe} {pc : Nat} {ls : xL} {r : List Value} {σ : xS}
theorem n_oinit {k1 ν n p1 p2 p3 p4 a : Nat} (E : xEnv p l e R s m args below meth c D cA B b en) (hd : decode en.2.1 pc = .ok (.invokespecial k1, 3)) (hf : xfind xCL en.2.2.2.2.1 k1 = some (4, ν, n, p1, p2, p3, p4)) (hw : xwid r ≤ 8 ∧ 1 ≤ en.2.2.2.2.2.1 ∧ 20 ≤ en.2.2.2.2.2.2.1) (k : xT p l e R s m args below meth c Q D cA B b k0 z0 en (pc + 3) (ls) (r) (σ)) : xT p l e R s m args below meth c Q D cA B b k0 z0 en (pc) (ls) (.ref a :: r) (σ) := by
  obtain ⟨hx, hb, hml, hown, hts, hK, hTab, hnm, ⟨hfr, hlo⟩, hB⟩ := E
  intro lsJ H locs cells slots hO
  have h1 := xall xCL_all (xfind_mem _ _ _ _ hf)
  simp only [xCLc, Bool.and_eq_true] at h1
  have hw2 := xwid_cv (B := B) (b := b) r
  exact W.objInit hx hb hown (hts _ (xgood_s h1.1.1)) (hts _ (xgood_s h1.1.2)) (hts _ (xgood_s h1.2)) (g := F0 m pc lsJ ((Value.ref a :: r).map (xcv B b))) rfl (hO.1.1.trans hml.symm) (a := xad B b a) (rest := r.map (xcv B b)) rfl hd (by omega) (by show 2 * 0 + _ + 12 ≤ _; omega) (k _ _ _ _ _ hO)
theorem n_copy {k1 ν n1 p1 p2 p3 p4 a a0 : Nat} {sp dp n : Int32} {q0 q1 : Nat × (Nat → Int32)} (E : xEnv p l e R s m args below meth c D cA B b en) (hd : decode en.2.1 pc = .ok (.invokestatic k1, 3)) (hf : xfind xCL en.2.2.2.2.1 k1 = some (5, ν, n1, p1, p2, p3, p4)) (hq0 : hint σ 0 a0 = some q0) (hq1 : hint σ 0 a = some q1) (hh : sp = 0 ∧ dp = 0 ∧ ¬ n < 0 ∧ n.toNatClampNeg = q0.1 ∧ q1.1 = q0.1 ∧ xwid r ≤ 8 ∧ 1 ≤ en.2.2.2.2.2.1 ∧ 30 ≤ en.2.2.2.2.2.2.1) (k : xT p l e R s m args below meth c Q D cA B b k0 z0 en (pc + 3) (ls) (r) (hup σ a (.inl (0, q0.1, .inl q0.2)))) : xT p l e R s m args below meth c Q D cA B b k0 z0 en (pc) (ls) (.int n :: .int dp :: .ref a :: .int sp :: .ref a0 :: r) (σ) := by
  obtain ⟨hx, hb, hml, hown, hts, hK, hTab, hnm, ⟨hfr, hlo⟩, hB⟩ := E
  obtain ⟨rfl, rfl, h0, hn0, hn1, hw, hf1, hl1⟩ := hh
  intro lsJ H locs cells slots hO
  have hO2 := hO
  obtain ⟨hl, hn, hWF, hP, hS, hz, hc, hscr⟩ := hO2
  have h1 := xall xCL_all (xfind_mem _ _ _ _ hf)
  simp only [xCLc, Bool.and_eq_true] at h1
  have hw2 := xwid_cv (B := B) (b := b) r
  obtain ⟨g1, -, g3⟩ := xW_get (B := B) (b := b) (cA := cA) hWF (hint_s hq0) (fun x h => by simp at h)
  obtain ⟨g4, -, g6⟩ := xW_get (B := B) (b := b) (cA := cA) hWF (hint_s hq1) (fun x h => by simp at h)
  have hnf : nativeFrameWords "java/lang/System" "arraycopy" 5 + 11 ≤ 22 := by decide
  have hz0 : (0 : Int32).toNatClampNeg = 0 := by decide
  exact va_copyi hx hb (hml.trans hl.1.symm) hown (hts _ (xgood_s h1.1.1.1)) (hts _ (xgood_s h1.1.1.2)) (hts _ (xgood_s h1.1.2)) (hts _ (xini9_s h1.2)) hK hP (xW_D hWF) hS a0 a 0 0 g3 g6 rfl rfl rfl (by decide) (by decide) h0 (by rw [hz0]; omega) (by rw [hz0]; omega) (fun _ _ => rfl) (by omega) (by omega) hd
    (fun H1 locs1 hP1 _ hS1 => k _ _ _ _ _ (xOk_up hO g4 (fun x h => by simp at h) (va_P_re hP1 (fun z => by
      have z' : H1[xad B b a]? = some (arrV (cA 0) q1.1 (fun j => .int (va_cpy q0.2 q1.2 (0 : Int32).toNatClampNeg (0 : Int32).toNatClampNeg n.toNatClampNeg j))) := z
      show H1[xad B b a]? = some (arrV (cA 0) q0.1 (fun j => .int (q0.2 j)))
      rw [z', hn1]
      congr 1
      simp only [arrV]
      congr 1
      congr 1
      funext j
      have hj := j.isLt
      rw [hz0, hn0]
      simp [va_cpy])) hS1))
theorem n_d2raw {k1 ν n1 p1 p2 p3 p4 : Nat} {x : UInt64} (E : xEnv p l e R s m args below meth c D cA B b en) (hd : decode en.2.1 pc = .ok (.invokestatic k1, 3)) (hf : xfind xCL en.2.2.2.2.1 k1 = some (6, ν, n1, p1, p2, p3, p4)) (hw : xwid r ≤ 8 ∧ 1 ≤ en.2.2.2.2.2.1 ∧ 30 ≤ en.2.2.2.2.2.2.1) (k : xT p l e R s m args below meth c Q D cA B b k0 z0 en (pc + 3) (ls) (.long x.toInt64 :: r) (σ)) : xT p l e R s m args below meth c Q D cA B b k0 z0 en (pc) (ls) (.double x :: r) (σ) := by
  obtain ⟨hx, hb, hml, hown, hts, hK, hTab, hnm, ⟨hfr, hlo⟩, hB⟩ := E
  intro lsJ H locs cells slots hO
  have h1 := xall xCL_all (xfind_mem _ _ _ _ hf)
  simp only [xCLc, Bool.and_eq_true] at h1
  have hw2 := xwid_cv (B := B) (b := b) r
  exact vn_d2l hx hb (hml.trans hO.1.1.symm) hown (hts _ (xgood_s h1.1.1.1)) (hts _ (xgood_s h1.1.1.2)) (hts _ (xgood_s h1.1.2)) (hts _ (xini9_s h1.2)) (by omega) (by omega) hd (k _ _ _ _ _ hO)
theorem n_f2raw {k1 ν n1 p1 p2 p3 p4 : Nat} {x : UInt32} (E : xEnv p l e R s m args below meth c D cA B b en) (hd : decode en.2.1 pc = .ok (.invokestatic k1, 3)) (hf : xfind xCL en.2.2.2.2.1 k1 = some (7, ν, n1, p1, p2, p3, p4)) (hw : xwid r ≤ 8 ∧ 1 ≤ en.2.2.2.2.2.1 ∧ 30 ≤ en.2.2.2.2.2.2.1) (k : xT p l e R s m args below meth c Q D cA B b k0 z0 en (pc + 3) (ls) (.int x.toInt32 :: r) (σ)) : xT p l e R s m args below meth c Q D cA B b k0 z0 en (pc) (ls) (.float x :: r) (σ) := by
  obtain ⟨hx, hb, hml, hown, hts, hK, hTab, hnm, ⟨hfr, hlo⟩, hB⟩ := E
  intro lsJ H locs cells slots hO
  have h1 := xall xCL_all (xfind_mem _ _ _ _ hf)
  simp only [xCLc, Bool.and_eq_true] at h1
  have hw2 := xwid_cv (B := B) (b := b) r
  exact vn_f2i hx hb (hml.trans hO.1.1.symm) hown (hts _ (xgood_s h1.1.1.1)) (hts _ (xgood_s h1.1.1.2)) (hts _ (xgood_s h1.1.2)) (hts _ (xini9_s h1.2)) (by omega) (by omega) hd (k _ _ _ _ _ hO)
theorem n_max {k1 ν n1 p1 p2 p3 p4 : Nat} {x y : Int32} (E : xEnv p l e R s m args below meth c D cA B b en) (hd : decode en.2.1 pc = .ok (.invokestatic k1, 3)) (hf : xfind xCL en.2.2.2.2.1 k1 = some (8, ν, n1, p1, p2, p3, p4)) (hw : xwid r ≤ 8 ∧ 1 ≤ en.2.2.2.2.2.1 ∧ 30 ≤ en.2.2.2.2.2.2.1) (hcs : ∀ (cells slots : Nat), cells + k0 = σ.2.1 + σ.2.2.1 → slots + z0 = σ.2.2.2 → cells ≤ R.cells ∧ slots ≤ R.slots) (k : xT p l e R s m args below meth c Q D cA B b k0 z0 en (pc + 3) (ls) (.int (if x < y then y else x) :: r) (σ)) : xT p l e R s m args below meth c Q D cA B b k0 z0 en (pc) (ls) (.int y :: .int x :: r) (σ) := by
  obtain ⟨hx, hb, hml, hown, hts, hK, hTab, hnm, ⟨hfr, hlo⟩, hB⟩ := E
  intro lsJ H locs cells slots hO
  have h1 := xall xCL_all (xfind_mem _ _ _ _ hf)
  simp only [xCLc, Bool.and_eq_true] at h1
  have hw2 := xwid_cv (B := B) (b := b) r
  have hc := hO.2.2.2.2.2.2.1
  obtain ⟨c1, c2⟩ := hcs cells slots hc.1 hc.2
  exact va_mmax hx hb (hml.trans hO.1.1.symm) hown (hts _ (xgood_s h1.1.1.1)) (hts _ (xgood_s h1.1.1.2)) (hts _ (xini9_s h1.2)) (hts _ (xgood_s h1.1.2)) (by omega) (by omega) c1 c2 hd (k _ _ _ _ _ hO)
theorem n_min {k1 ν n1 p1 p2 p3 p4 : Nat} {x y : Int32} (E : xEnv p l e R s m args below meth c D cA B b en) (hd : decode en.2.1 pc = .ok (.invokestatic k1, 3)) (hf : xfind xCL en.2.2.2.2.1 k1 = some (9, ν, n1, p1, p2, p3, p4)) (hw : xwid r ≤ 8 ∧ 1 ≤ en.2.2.2.2.2.1 ∧ 30 ≤ en.2.2.2.2.2.2.1) (hcs : ∀ (cells slots : Nat), cells + k0 = σ.2.1 + σ.2.2.1 → slots + z0 = σ.2.2.2 → cells ≤ R.cells ∧ slots ≤ R.slots) (k : xT p l e R s m args below meth c Q D cA B b k0 z0 en (pc + 3) (ls) (.int (if y < x then y else x) :: r) (σ)) : xT p l e R s m args below meth c Q D cA B b k0 z0 en (pc) (ls) (.int y :: .int x :: r) (σ) := by
  obtain ⟨hx, hb, hml, hown, hts, hK, hTab, hnm, ⟨hfr, hlo⟩, hB⟩ := E
  intro lsJ H locs cells slots hO
  have h1 := xall xCL_all (xfind_mem _ _ _ _ hf)
  simp only [xCLc, Bool.and_eq_true] at h1
  have hw2 := xwid_cv (B := B) (b := b) r
  have hc := hO.2.2.2.2.2.2.1
  obtain ⟨c1, c2⟩ := hcs cells slots hc.1 hc.2
  exact va_mmin hx hb (hml.trans hO.1.1.symm) hown (hts _ (xgood_s h1.1.1.1)) (hts _ (xgood_s h1.1.1.2)) (hts _ (xini9_s h1.2)) (hts _ (xgood_s h1.1.2)) (by omega) (by omega) c1 c2 hd (k _ _ _ _ _ hO)
end XG
/-! contracts of methods that only return -/
def xExt (σ τ : xS) : Prop := τ.1 1000 = σ.1 1000 ∧ σ.2.1 ≤ τ.2.1 ∧ σ.2.2.1 ≤ τ.2.2.1 ∧ σ.2.2.2 ≤ τ.2.2.2
theorem xExt.rf {σ : xS} : xExt σ σ := ⟨rfl, Nat.le_refl _, Nat.le_refl _, Nat.le_refl _⟩
theorem xExt.tr {σ τ υ : xS} (h : xExt σ τ) (h2 : xExt τ υ) : xExt σ υ := ⟨h2.1.trans h.1, Nat.le_trans h.2.1 h2.2.1, Nat.le_trans h.2.2.1 h2.2.2.1, Nat.le_trans h.2.2.2 h2.2.2.2⟩
def xB (D : va_G) (cA : Nat → ClassId) (B b : Nat) (σ : xS) (U : State) : Prop := xWF σ ∧ va_P D vwCl (xW B b cA σ) U.heap ∧ va_K D vwCl (xtys cA) U ∧ xTab U ∧ B ≤ U.heap.size ∧ (σ.2.2.1 = 0 → U.heap.size ≤ B + (σ.2.1 + σ.2.2.1))
def xPc (D : va_G) (cA : Nat → ClassId) (B b : Nat) (as : List Value) (σ : xS) : Array Value → State → Prop := va_Pc (as.map (xcv B b)) (xB D cA B b σ)
def xQc (D : va_G) (cA : Nat → ClassId) (B b : Nat) (v : Option Value) (τ : xS) : Array Value → State → Outcome → State → Prop := fun _ st o t => o = .returned (v.map (xcv B b)) ∧ xWF τ ∧ va_P D vwCl (xW B b cA τ) t.heap ∧ va_F (fun q => B ≤ q) st t
def xcw (σ τ : xS) : Nat := (τ.2.1 + τ.2.2.1) - (σ.2.1 + σ.2.2.1)
def xsw (σ τ : xS) : Nat := τ.2.2.2 - σ.2.2.2
def xrm (f : xMe) (σ τ : xS) : Room := { frames := f.2.2.2.2.2.1, cells := xcw σ τ, slots := xsw σ τ, locals := f.2.2.2.2.2.2.1 }
def xws (f : xMe) : List Cond := .code f.1 f.2.1 f.2.2.1 f.2.2.2.1 :: xWS
def xMet (l : Launch) (D : va_G) (cA : Nat → ClassId) (B b ν : Nat) (as : List Value) (σ : xS) (v : Option Value) (τ : xS) : Prop :=
  ∀ f, xM[ν]? = some f → Met l f.1 (xws f) (xrm f σ τ) (xPc D cA B b as σ) (xQc D cA B b v τ) (xcw σ τ) (xsw σ τ) (fun q => B ≤ q)
theorem xTab.same {u U : State} (h : u.vm = U.vm) (hT : xTab u) : xTab U := by
  refine ⟨fun w hw => va_Nw.same ?_ h (hT.1 w hw), va_AO.moved (by rw [h]; exact Vm.Alike.refl _) hT.2.1, va_AO.moved (by rw [h]; exact Vm.Alike.refl _) hT.2.2⟩
  simp only [xNest, List.mem_cons, List.mem_nil_iff, or_false] at hw
  rcases hw with rfl | rfl | rfl | rfl | rfl | rfl | rfl | rfl | rfl | rfl <;> rfl
theorem xTab.warm {s U : State} (hW : s.WarmedH U.vm) (hT : xTab s) : xTab U := by
  refine ⟨fun w hw => ?_, va_AO.moved hW.alike hT.2.1, va_AO.moved hW.alike hT.2.2⟩
  have h0 := hT.1 w hw
  simp only [xNest, List.mem_cons, List.mem_nil_iff, or_false] at hw
  rcases hw with rfl | rfl | rfl | rfl | rfl | rfl | rfl | rfl | rfl | rfl <;> exact va_Nw.warmM hW h0
theorem xPc_blind {D : va_G} {cA : Nat → ClassId} {B b : Nat} {as : List Value} {σ : xS} : FrameBlind (xPc D cA B b as σ) := by
  rintro a U g mk ⟨h0, h1, h2, h3, h4, h5⟩
  exact ⟨h0, h1, h2, va_K.moved (u := U) (U := U.calling g mk a) (Vm.Alike.refl U.vm) h3, xTab.same (u := U) (U := U.calling g mk a) rfl h4, h5⟩
theorem xpop_s : ∀ (n : Nat) (st as r : List Value), xpop n st = some (as, r) → st = as.reverse ++ r ∧ as.length = n
  | 0, st, as, r, h => by
    simp only [xpop, Option.some.injEq, Prod.mk.injEq] at h
    obtain ⟨rfl, rfl⟩ := h
    exact ⟨rfl, rfl⟩
  | n + 1, [], as, r, h => by simp [xpop] at h
  | n + 1, v :: st, as, r, h => by
    simp only [xpop, Option.map_eq_some_iff, Prod.mk.injEq] at h
    obtain ⟨q, h1, h2, h3⟩ := h
    obtain ⟨g1, g2⟩ := xpop_s n st q.1 q.2 h1
    subst h2; subst h3
    refine ⟨?_, by simp [g2]⟩
    simp only [List.reverse_append, List.reverse_cons, List.reverse_nil, List.nil_append, List.cons_append]
    rw [← g1]
section XGC
variable {p : Program} {l : Launch} {e : Env} {R : Room} {s : State} {m : MethodId} {args : Array Value} {below : List Frame} {meth : Method} {c : Code} {Q : State → Prop} {D : va_G} {cA : Nat → ClassId} {B b k0 z0 : Nat} {en : xMe} {pc : Nat} {ls : xL} {r : List Value} {σ : xS}
theorem n_back {τ : xS} {v : Option Value} {a : Array Value} {lsJ : Array Slot} {H : Heap} {locs : List Loc} {cells slots : Nat} {st0 : List Value} (hr : va_Run p l e R s m args below meth c H locs cells slots (xcw σ τ) (xsw σ τ) (F0 m pc lsJ st0) (r.map (xcv B b)) (xQc D cA B b v τ a) (fun q => B ≤ q)) (hO : xOk s D cA B b k0 z0 en ls σ lsJ H locs cells slots) (hx : xExt σ τ) (k : xT p l e R s m args below meth c Q D cA B b k0 z0 en (pc + 3) (ls) (v.toList ++ r) (τ)) : W p l e R s m args below meth c H locs cells slots Q (F0 m pc lsJ st0) := by
  intro T hT X
  obtain ⟨v', st₀, t, T', L, h0, X', hL, e1, e2, ⟨hv, hWF', hP', hz', hF⟩, st⟩ := hr T hT X
  cases hv
  obtain ⟨hl, hn, hWF, hP, hS, hz, hc, hscr⟩ := hO
  obtain ⟨x1, x2, x3, x4⟩ := hx
  rw [h0] at hz' hF
  have hcw : xcw σ τ = (τ.2.1 + τ.2.2.1) - (σ.2.1 + σ.2.2.1) := rfl
  have hsw : xsw σ τ = τ.2.2.2 - σ.2.2.2 := rfl
  obtain ⟨t2, a1, b1⟩ := k lsJ T'.heap (locs ++ L) (cells + xcw σ τ) (slots + xsw σ τ) ⟨hl, hn, hWF', by rw [e1]; exact hP', ⟨Nat.le_trans hS.1 (by rw [e1]; exact hz'), fun q h1 h2 => by rw [e1, hF q (Nat.lt_of_lt_of_le h1 hS.1) h2]; exact hS.2.1 q h1 h2, fun q hq => by
      rcases List.mem_append.mp hq with h | h
      · exact hS.2.2 q h
      · exact hL q h⟩, fun h => hz (by omega), by omega, fun h3 n f hf => hscr h3 n f (by rw [← x1]; exact hf)⟩ T' rfl X'
  have hst : (v.toList ++ r).map (xcv B b) = (v.map (xcv B b)).toList ++ r.map (xcv B b) := by cases v <;> rfl
  rw [hst] at a1
  exact ⟨t2, st t2 a1, b1⟩
theorem xpre {as : List Value} {lsJ : Array Slot} {H : Heap} {locs : List Loc} {cells slots : Nat} (E : xEnv p l e R s m args below meth c D cA B b en) (hO : xOk s D cA B b k0 z0 en ls σ lsJ H locs cells slots) (hs : H.size ≤ s.heap.size + cells) : ∀ U : State, U.heap = H → s.WarmedH U.vm → xPc D cA B b as σ (as.map (xcv B b)).toArray U := by
  obtain ⟨hx, hb, hml, hown, hts, hK, hTab, hnm, ⟨hfr, hlo⟩, hB⟩ := E
  obtain ⟨hl, hn, hWF, hP, hS, hz, hc, hscr⟩ := hO
  intro U hU hW
  refine ⟨rfl, hWF, by rw [hU]; exact hP, va_K.moved hW.alike hK, xTab.warm hW hTab, by rw [hU]; exact Nat.le_trans hB hS.1, fun h => ?_⟩
  have := hz h
  rw [hU]
  omega
theorem xws_in {f : xMe} (hc : Cond.code f.1 f.2.1 f.2.2.1 f.2.2.2.1 ∈ xWS) : GoodIn xWS (xws f) := by
  intro w hw
  simp only [xws, List.mem_cons] at hw
  rcases hw with rfl | hw
  · exact ⟨hc, good_of_word (xWS_good _ hc)⟩
  · exact ⟨hw, good_of_word (xWS_good _ hw)⟩
theorem xdsc_s {y : MethodName} {n : Nat} (h : xdsc y n = true) : y.cls ≠ "java/lang/invoke/MethodHandle" ∧ y.cls ≠ "java/lang/invoke/VarHandle" ∧ (parseMethodDescriptor y.desc).map (fun d => d.parameters.length) = some n := by
  simp only [xdsc, Bool.and_eq_true, decide_eq_true_eq] at h
  exact ⟨h.1.1, h.1.2, h.2⟩
/-- what a call asks of the room and of the words -/
theorem xcalB {f : xMe} {ν k1 n : Nat} {τ : xS} (E : xEnv p l e R s m args below meth c D cA B b en) (hf : xM[ν]? = some f) (hk : f.2.2.2.2.2.2.2 ≤ 1 ∨ f.2.2.2.2.2.2.2 = 4) (hlink : Cond.methodLink (xcn en.2.2.2.2.1) k1 f.1 ∈ xWS) (hini : Cond.initialized f.1.cls ∈ xWS) (hdsc : xdsc f.1 n = true) (hroom : f.2.2.2.2.2.1 + 1 ≤ en.2.2.2.2.2.1 ∧ 8 + (f.2.2.1 + 11) + f.2.2.2.2.2.2.1 ≤ en.2.2.2.2.2.2.1) : CallB R s args (xcn en.2.2.2.2.1) k1 f.1 f.2.1 f.2.2.1 f.2.2.2.1 (xws f) (xrm f σ τ) (xcw σ τ) (xsw σ τ) n := by
  obtain ⟨hx, hb, hml, hown, hts, hK, hTab, hnm, ⟨hfr, hlo⟩, hB⟩ := E
  obtain ⟨hcode, -⟩ := xM_ok hf (by omega)
  exact callB_of n hts (xws_in hcode) (ws' := xWS) rfl rfl rfl (hts _ hini) (hts _ hlink) (xdsc_s hdsc) ⟨by show f.2.2.2.2.2.1 + 1 ≤ _; omega, by show 8 + (f.2.2.1 + 11) + f.2.2.2.2.2.2.1 ≤ _; omega⟩
end XGC
