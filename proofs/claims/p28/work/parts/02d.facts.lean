/-! ===== what the tables say is so: checked word by word ===== -/
def xgood (p : Nat) (w : Cond) : Bool := decide (lw_tbl[p]? = some w) && goodWord w
theorem xgood_s {p : Nat} {w : Cond} (h : xgood p w = true) : w ∈ xWS := by
  simp only [xgood, Bool.and_eq_true, decide_eq_true_eq] at h
  exact List.mem_filter.mpr ⟨List.mem_of_getElem? h.1, h.2⟩
theorem xfind_mem {α : Type} : ∀ (l : List ((Nat × Nat) × α)) (o i : Nat) (a : α), xfind l o i = some a → ((o, i), a) ∈ l
  | [], _, _, _, h => by simp [xfind] at h
  | e :: l, o, i, a, h => by
    unfold xfind at h
    split at h
    · next q =>
      obtain ⟨⟨x, y⟩, z⟩ := e
      obtain ⟨rfl, rfl⟩ := q
      cases h
      exact List.mem_cons_self
    · exact List.mem_cons_of_mem _ (xfind_mem l o i a h)
theorem xall {α : Type} {l : List α} {c : α → Bool} (h : l.all c = true) {a : α} (ha : a ∈ l) : c a = true := List.all_eq_true.mp h a ha
def xFLc (e : (Nat × Nat) × (Nat × Nat × Nat)) : Bool := match vwCl[e.2.1]? with
  | some r => xgood e.2.2.2 (.fieldLink (xcn e.1.1) e.1.2 r.1 (r.2.1 e.2.2.1).2.1 (r.2.1 e.2.2.1).2.2.1) && decide (e.2.2.1 < r.2.2) && decide ((r.2.1 e.2.2.1).1 = r.1)
  | none => false
set_option maxRecDepth 100000 in
theorem xFL_all : xFL.all xFLc = true := by decide +kernel
theorem xFL_ok {o i ci k p : Nat} (h : xfind xFL o i = some (ci, k, p)) : ∃ r, vwCl[ci]? = some r ∧ k < r.2.2 ∧ (r.2.1 k).1 = r.1 ∧ Cond.fieldLink (xcn o) i r.1 (r.2.1 k).2.1 (r.2.1 k).2.2.1 ∈ xWS := by
  have h1 := xall xFL_all (xfind_mem _ _ _ _ h)
  unfold xFLc at h1
  split at h1
  · next r hr =>
    simp only [Bool.and_eq_true, decide_eq_true_eq] at h1
    exact ⟨r, hr, h1.1.2, h1.2, xgood_s h1.1.1⟩
  · cases h1
set_option maxRecDepth 100000 in
theorem xU_all : vwCl.all (fun r => (u_ws r.1 r.2.1 r.2.2).all (fun w => decide (w ∈ lw_tbl) && goodWord w)) = true := by decide +kernel
theorem xU_ok {ci : Nat} {r : vw_C} (h : vwCl[ci]? = some r) : ∀ w ∈ u_ws r.1 r.2.1 r.2.2, w ∈ xWS := by
  intro w hw
  have h1 := xall (xall xU_all (List.mem_of_getElem? h)) hw
  simp only [Bool.and_eq_true, decide_eq_true_eq] at h1
  exact List.mem_filter.mpr h1
def xtyN : Nat → Nat → FieldType
  | 0 => tyX0
  | 1 => tyX2
  | 2 => tyX3
  | 3 => tyX4
  | 4 => tyX5
  | _ => tyX6
theorem xC_ok {ci : Nat} {r : vw_C} (h : vwCl[ci]? = some r) : (∀ k, k < r.2.2 → parseFieldDescriptor (r.2.1 k).2.2.1 = some (xtyN ci k)) ∧ (∀ a, a < r.2.2 → ∀ b, b < r.2.2 → a ≠ b → (r.2.1 a).2.1 ≠ (r.2.1 b).2.1) := by
  match ci, h with
  | 0, h => cases h; exact ⟨tyX0_ok, nmX0⟩
  | 1, h => cases h; exact ⟨tyX2_ok, nmX2⟩
  | 2, h => cases h; exact ⟨tyX3_ok, nmX3⟩
  | 3, h => cases h; exact ⟨tyX4_ok, nmX4⟩
  | 4, h => cases h; exact ⟨tyX5_ok, nmX5⟩
  | 5, h => cases h; exact ⟨tyX6_ok, nmX6⟩
  | n + 6, h => simp [vwCl] at h
theorem xpf1 : plainFor ⟨"java/lang/Float", "isNaN", "(F)Z"⟩ = true := by decide +kernel
theorem xpf2 : plainFor ⟨"java/lang/Float", "floatToIntBits", "(F)I"⟩ = true := by decide +kernel
def xMc (e : xMe) : Bool := (decide (1 < e.2.2.2.2.2.2.2) && decide (e.2.2.2.2.2.2.2 ≠ 4)) || (plainName e.1.cls || decide (e.1 = ⟨"java/lang/Float", "isNaN", "(F)Z"⟩) || decide (e.1 = ⟨"java/lang/Float", "floatToIntBits", "(F)I"⟩))
set_option maxRecDepth 100000 in
theorem xM_all : xM.all xMc = true := by decide +kernel
theorem xM_ok {ν : Nat} {f : xMe} (h : xM[ν]? = some f) (hk : f.2.2.2.2.2.2.2 ≤ 1 ∨ f.2.2.2.2.2.2.2 = 4) : Cond.code f.1 f.2.1 f.2.2.1 f.2.2.2.1 ∈ xWS ∧ plainFor f.1 = true := by
  have h0 : f ∈ xM := List.mem_of_getElem? h
  have h1 := xall xM_all h0
  refine ⟨List.mem_filter.mpr ⟨xP f h0 hk, rfl⟩, ?_⟩
  simp only [xMc, Bool.or_eq_true, Bool.and_eq_true, decide_eq_true_eq] at h1
  rcases h1 with h1 | (q | q) | q
  · omega
  · exact plainFor_of_name q
  · rw [q]; exact xpf1
  · rw [q]; exact xpf2
def xini9 (C : String) : Bool := decide (Cond.initialized C ∈ lw_tbl) && goodWord (.initialized C)
def xdsc (y : MethodName) (n : Nat) : Bool := decide (y.cls ≠ "java/lang/invoke/MethodHandle") && decide (y.cls ≠ "java/lang/invoke/VarHandle") && decide ((parseMethodDescriptor y.desc).map (fun d => d.parameters.length) = some n)
def xCLc (e : (Nat × Nat) × (Nat × Nat × Nat × Nat × Nat × Nat × Nat)) : Bool := match e with
  | ((o, i), (k, ν, n, p1, p2, p3, p4)) => match k with
    | 4 => xgood p1 (.methodLink (xcn o) i objectInit) && xgood p2 (.instanceMethod objectInit) && xgood p3 (.code objectInit ⟨#[0xb1]⟩ 1 none)
    | 5 => xgood p1 (.methodLink (xcn o) i arraycopyName) && xgood p2 (.native arraycopyName) && xgood p3 (.static arraycopyName) && xini9 "java/lang/System"
    | 8 => xgood p1 (.methodLink (xcn o) i Lib.Math.max.name) && xgood p2 (.static Lib.Math.max.name) && xgood p3 (.code Lib.Math.max.name Lib.Math.max.code 2 (some .int)) && xini9 "java/lang/Math"
    | 9 => xgood p1 (.methodLink (xcn o) i Lib.Math.min.name) && xgood p2 (.static Lib.Math.min.name) && xgood p3 (.code Lib.Math.min.name Lib.Math.min.code 2 (some .int)) && xini9 "java/lang/Math"
    | 6 => xgood p1 (.methodLink (xcn o) i ⟨"java/lang/Double", "doubleToRawLongBits", "(D)J"⟩) && xgood p2 (.native ⟨"java/lang/Double", "doubleToRawLongBits", "(D)J"⟩) && xgood p3 (.static ⟨"java/lang/Double", "doubleToRawLongBits", "(D)J"⟩) && xini9 "java/lang/Double"
    | 7 => xgood p1 (.methodLink (xcn o) i ⟨"java/lang/Float", "floatToRawIntBits", "(F)I"⟩) && xgood p2 (.native ⟨"java/lang/Float", "floatToRawIntBits", "(F)I"⟩) && xgood p3 (.static ⟨"java/lang/Float", "floatToRawIntBits", "(F)I"⟩) && xini9 "java/lang/Float"
    | _ => (match xM[ν]? with
      | none => false
      | some f => xdsc f.1 n && (match k with
        | 0 => xgood p1 (.methodLink (xcn o) i f.1) && xgood p2 (.static f.1) && xgood p3 (.initialized f.1.cls) && decide (f.2.2.2.2.2.2.2 = 0)
        | 11 => xgood p1 (.methodLink (xcn o) i f.1) && xgood p2 (.static f.1) && xgood p3 (.initialized f.1.cls) && decide (f.2.2.2.2.2.2.2 = 2)
        | 12 => xgood p1 (.methodLink (xcn o) i f.1) && xgood p2 (.static f.1) && xgood p3 (.initialized f.1.cls) && decide (f.2.2.2.2.2.2.2 = 4)
        | 3 => decide (Cond.methodLinkNest (xcn o) i f.1 "CarvedRinks" ∈ xNest) && xgood p2 (.static f.1) && xgood p3 (.initialized f.1.cls) && decide (f.2.2.2.2.2.2.2 = 0)
        | 1 => xgood p1 (.methodLink (xcn o) i f.1) && xgood p2 (.instanceMethod f.1) && xgood p3 (.selects f.1.cls f.1 f.1) && xgood p4 (.initialized f.1.cls) && decide (f.2.2.2.2.2.2.2 = 0)
        | 10 => xgood p1 (.methodLink (xcn o) i f.1) && xgood p2 (.instanceMethod f.1) && xgood p3 (.selects f.1.cls f.1 f.1) && xgood p4 (.initialized f.1.cls) && decide (f.2.2.2.2.2.2.2 = 1)
        | 2 => xgood p1 (.methodLink (xcn o) i f.1) && xgood p2 (.instanceMethod f.1) && xgood p3 (.initialized f.1.cls) && decide (f.2.2.2.2.2.2.2 = 0) && decide (f.1.name = "<init>") && decide (f.2.2.2.1 = none)
        | _ => false))
set_option maxRecDepth 100000 in
theorem xCL_all : xCL.all xCLc = true := by decide +kernel
def xKLc (e : (Nat × Nat) × (Value × Nat)) : Bool := match e.2.1 with
  | .long x => xgood e.2.2 (.constantLong (xcn e.1.1) e.1.2 x)
  | .double x => xgood e.2.2 (.constantDouble (xcn e.1.1) e.1.2 x)
  | .int x => xgood e.2.2 (.constant (xcn e.1.1) e.1.2 x)
  | _ => false
set_option maxRecDepth 100000 in
theorem xKL_all : xKL.all xKLc = true := by decide +kernel
def xNLc (e : (Nat × Nat) × (Nat × Nat)) : Bool := match vwCl[e.2.1]? with
  | some r => xgood e.2.2 (.classLink (xcn e.1.1) e.1.2 r.1) && decide (Cond.instantiable r.1 r.2.2 ∈ lw_tbl) && goodWord (.instantiable r.1 r.2.2) && xini9 r.1 && decide ((xblk e.2.1).length = r.2.2) && (List.range r.2.2).all (fun j => decide (defaultValue (xtyN e.2.1 j) = vp_V (xblk e.2.1) j))
  | none => false
set_option maxRecDepth 100000 in
theorem xNL_all : xNL.all xNLc = true := by decide +kernel
theorem xNL_ok {o i ci p : Nat} (h : xfind xNL o i = some (ci, p)) : ∃ r, vwCl[ci]? = some r ∧ Cond.classLink (xcn o) i r.1 ∈ xWS ∧ Cond.instantiable r.1 r.2.2 ∈ xWS ∧ Cond.initialized r.1 ∈ xWS ∧ (xblk ci).length = r.2.2 ∧ ∀ j, j < r.2.2 → defaultValue (xtyN ci j) = vp_V (xblk ci) j := by
  have h1 := xall xNL_all (xfind_mem _ _ _ _ h)
  unfold xNLc at h1
  split at h1
  · next r hr =>
    simp only [Bool.and_eq_true, decide_eq_true_eq, xini9, List.all_eq_true, List.mem_range] at h1
    obtain ⟨⟨⟨⟨⟨h2, h3⟩, h4⟩, h5⟩, h6⟩, h7⟩ := h1
    exact ⟨r, hr, xgood_s h2, List.mem_filter.mpr ⟨h3, h4⟩, List.mem_filter.mpr h5, h6, h7⟩
  · cases h1
set_option maxRecDepth 100000 in
theorem xarr_all : [Cond.arrayClass .int].all (fun w => decide (w ∈ lw_tbl) && goodWord w) = true := by decide +kernel
theorem xWS_good : ∀ w ∈ xWS, goodWord w = true := fun w hw => (List.mem_filter.mp hw).2
