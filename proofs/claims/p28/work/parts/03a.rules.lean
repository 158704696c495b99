/-! ===== how simp walks a method: by program (wip/tools/gen_rules.py) ===== -/
noncomputable def xK (μ pc : Nat) (a : Option xA) : Option xO := match a with
    | none => none
    | some (.inl (pc', ls', st', σ')) => xR μ pc' ls' st' σ'
    | some (.inr (.inl (v, σ'))) => some (.inl v, σ')
    | some (.inr (.inr (.inl (ν, as, pc', ls', st', σ')))) => (match xC1 ν as σ' with
      | none => none
      | some (.inl v, σ2) => xR μ pc' ls' (v.toList ++ st') σ2
      | some (.inr x, σ2) => (match xcat μ pc x ls' with
        | some (pc2, l2) => xR μ pc2 l2 [] σ2
        | none => none))
    | some (.inr (.inr (.inr (x, σ')))) => some (.inr x, σ')
section YK
variable {μ pc : Nat} {en : xMe} {ls : xL} {st : List Value} {σ : xS}
theorem y0 {i : Instr} {len : Nat} (he : xM[μ]? = some en) (hd : decode en.2.1 pc = .ok (i, len)) : xR μ pc ls st σ = xK μ pc (xDo en pc ls st σ i len) := by
  rw [xR_eq]
  have : xact μ pc ls st σ = xDo en pc ls st σ i len := by simp only [xact, he, Option.bind_some, hd]
  rw [this]
  rfl
theorem yk_gI {v : Option Value} {k : Int32 → Option xA} : xK μ pc (gI v k) = gI v (fun x => xK μ pc (k x)) := by unfold gI; split <;> rfl
theorem yk_gL {v : Option Value} {k : Int64 → Option xA} : xK μ pc (gL v k) = gL v (fun x => xK μ pc (k x)) := by unfold gL; split <;> rfl
theorem yk_gF {v : Option Value} {k : UInt32 → Option xA} : xK μ pc (gF v k) = gF v (fun x => xK μ pc (k x)) := by unfold gF; split <;> rfl
theorem yk_gD {v : Option Value} {k : UInt64 → Option xA} : xK μ pc (gD v k) = gD v (fun x => xK μ pc (k x)) := by unfold gD; split <;> rfl
theorem yk_gA {v : Option Value} {k : Nat → Option xA} : xK μ pc (gA v k) = gA v (fun x => xK μ pc (k x)) := by unfold gA; split <;> rfl
theorem yk_b {β : Type} {v : Option β} {k : β → Option xA} : xK μ pc (v.bind k) = v.bind (fun x => xK μ pc (k x)) := by cases v <;> rfl
theorem yk_if {c : Prop} [Decidable c] {a b : Option xA} : xK μ pc (if c then a else b) = if c then xK μ pc a else xK μ pc b := by split <;> rfl
/-- behind a call of a method that only returns -/
def yC (w : Nat) (r : Option xO) (k : Option Value → xS → Option xO) : Option xO := if w ≤ 8 then (match r with
  | some (.inl v, τ) => k v τ
  | _ => none) else none
def yV (h : Option Nat) (ci w : Nat) (r : Option xO) (k : Option Value → xS → Option xO) : Option xO := if h = some ci then yC w r k else none
theorem yC_s {w : Nat} {v : Option Value} {τ : xS} {k : Option Value → xS → Option xO} (h : w ≤ 8) : yC w (some (.inl v, τ)) k = k v τ := by unfold yC; rw [if_pos h]
theorem yV_s {ci w : Nat} {v : Option Value} {τ : xS} {k : Option Value → xS → Option xO} (h : w ≤ 8) : yV (some ci) ci w (some (.inl v, τ)) k = k v τ := by unfold yV; rw [if_pos rfl, yC_s h]
theorem yk_cal {ν pc2 : Nat} {f : xMe} {as : List Value} (hf : xM[ν]? = some f) (hrm : (f.2.2.2.2.2.1 + 1 ≤ en.2.2.2.2.2.1 ∧ 8 + (f.2.2.1 + 11) + f.2.2.2.2.2.2.1 ≤ en.2.2.2.2.2.2.1)) (hs : (xspr as).length ≤ f.2.2.1) (hen : xM[μ]? = some en) (hk : en.2.2.2.2.2.2.2 ≠ 2) : xK μ pc (xcal en ν as pc2 ls st σ) = yC (xwid st) (xC1 ν as σ) (fun v τ => xR μ pc2 ls (v.toList ++ st) τ) := by
  unfold xcal yC
  simp only [hf, Option.bind_some]
  by_cases h : xwid st ≤ 8
  · rw [if_pos ⟨h, hrm.1, hrm.2, hs⟩, if_pos h]
    show (match xC1 ν as σ with
      | none => none
      | some (.inl v, σ2) => xR μ pc2 ls (v.toList ++ st) σ2
      | some (.inr x, σ2) => (match xcat μ pc x ls with
        | some (pc2, l2) => xR μ pc2 l2 [] σ2
        | none => none)) = _
    cases xC1 ν as σ with
    | none => rfl
    | some q =>
      obtain ⟨q, τ⟩ := q
      cases q with
      | inl v => rfl
      | inr x =>
        show (match xcat μ pc x ls with
          | some (pc2, l2) => xR μ pc2 l2 [] τ
          | none => none) = none
        rw [xcat_none hen hk]
  · rw [if_neg (fun q => h q.1), if_neg h]
    rfl
theorem yn_cls : ∀ (c d : Nat) (r : vw_C), vwCl[d]? = some r → (vwCl[c]?).map (fun r => r.1) = some r.1 → c = d := by
  intro c d r hd hc
  have key : ∀ c, c < 6 → ∀ d, d < 6 → (vwCl[c]?).map (fun r => r.1) = (vwCl[d]?).map (fun r => r.1) → c = d := by decide +kernel
  have h1 : d < 6 := (List.getElem?_eq_some_iff.mp hd).1
  have h2 : c < 6 := by
    cases h : vwCl[c]? with
    | none => rw [h] at hc; cases hc
    | some q => exact (List.getElem?_eq_some_iff.mp h).1
  exact key c h2 d h1 (by rw [hc, hd]; rfl)
theorem yk_calv {ν pc2 a ci : Nat} {f : xMe} {as : List Value} {r : vw_C} (hr : vwCl[ci]? = some r) (hn : r.1 = f.1.cls) (hf : xM[ν]? = some f) (hrm : (f.2.2.2.2.2.1 + 1 ≤ en.2.2.2.2.2.1 ∧ 8 + (f.2.2.1 + 11) + f.2.2.2.2.2.2.1 ≤ en.2.2.2.2.2.2.1)) (hs : (xspr as).length ≤ f.2.2.1) (hen : xM[μ]? = some en) (hk : en.2.2.2.2.2.2.2 ≠ 2) : xK μ pc ((xM[ν]?).bind fun f => if (hcls σ a).bind (fun c => (vwCl[c]?).map (fun r => r.1)) = some f.1.cls then xcal en ν as pc2 ls st σ else none) = yV (hcls σ a) ci (xwid st) (xC1 ν as σ) (fun v τ => xR μ pc2 ls (v.toList ++ st) τ) := by
  rw [hf, Option.bind_some, ← hn]
  unfold yV
  by_cases h : hcls σ a = some ci
  · rw [h, if_pos (rfl : some ci = some ci), Option.bind_some, hr, if_pos (show Option.map (fun (r : vw_C) => r.1) (some r) = some r.1 from rfl)]
    exact yk_cal hf hrm hs hen hk
  · rw [if_neg h, if_neg]
    · rfl
    · intro q
      obtain ⟨c, h1, h2⟩ := bind_s q
      rw [yn_cls c ci r hr h2] at h1
      exact h h1
end YK
theorem lg0 {a0 : Option Value} {l : xL} : lget (a0 :: l) 0 = a0 := rfl
theorem lg1 {a0 a1 : Option Value} {l : xL} : lget (a0 :: a1 :: l) 1 = a1 := rfl
theorem lg2 {a0 a1 a2 : Option Value} {l : xL} : lget (a0 :: a1 :: a2 :: l) 2 = a2 := rfl
theorem lg3 {a0 a1 a2 a3 : Option Value} {l : xL} : lget (a0 :: a1 :: a2 :: a3 :: l) 3 = a3 := rfl
theorem lg4 {a0 a1 a2 a3 a4 : Option Value} {l : xL} : lget (a0 :: a1 :: a2 :: a3 :: a4 :: l) 4 = a4 := rfl
theorem lg5 {a0 a1 a2 a3 a4 a5 : Option Value} {l : xL} : lget (a0 :: a1 :: a2 :: a3 :: a4 :: a5 :: l) 5 = a5 := rfl
theorem lg6 {a0 a1 a2 a3 a4 a5 a6 : Option Value} {l : xL} : lget (a0 :: a1 :: a2 :: a3 :: a4 :: a5 :: a6 :: l) 6 = a6 := rfl
theorem lg7 {a0 a1 a2 a3 a4 a5 a6 a7 : Option Value} {l : xL} : lget (a0 :: a1 :: a2 :: a3 :: a4 :: a5 :: a6 :: a7 :: l) 7 = a7 := rfl
theorem lg8 {a0 a1 a2 a3 a4 a5 a6 a7 a8 : Option Value} {l : xL} : lget (a0 :: a1 :: a2 :: a3 :: a4 :: a5 :: a6 :: a7 :: a8 :: l) 8 = a8 := rfl
theorem lg9 {a0 a1 a2 a3 a4 a5 a6 a7 a8 a9 : Option Value} {l : xL} : lget (a0 :: a1 :: a2 :: a3 :: a4 :: a5 :: a6 :: a7 :: a8 :: a9 :: l) 9 = a9 := rfl
theorem lg10 {a0 a1 a2 a3 a4 a5 a6 a7 a8 a9 a10 : Option Value} {l : xL} : lget (a0 :: a1 :: a2 :: a3 :: a4 :: a5 :: a6 :: a7 :: a8 :: a9 :: a10 :: l) 10 = a10 := rfl
theorem lg11 {a0 a1 a2 a3 a4 a5 a6 a7 a8 a9 a10 a11 : Option Value} {l : xL} : lget (a0 :: a1 :: a2 :: a3 :: a4 :: a5 :: a6 :: a7 :: a8 :: a9 :: a10 :: a11 :: l) 11 = a11 := rfl
theorem lg12 {a0 a1 a2 a3 a4 a5 a6 a7 a8 a9 a10 a11 a12 : Option Value} {l : xL} : lget (a0 :: a1 :: a2 :: a3 :: a4 :: a5 :: a6 :: a7 :: a8 :: a9 :: a10 :: a11 :: a12 :: l) 12 = a12 := rfl
theorem ls0 {a0 : Option Value} {l : xL} {v : Option Value} : lst1 (a0 :: l) 0 v = some (v :: l) := rfl
theorem ls1 {a0 a1 : Option Value} {l : xL} {v : Option Value} : lst1 (a0 :: a1 :: l) 1 v = some (lkl a0 :: v :: l) := rfl
theorem ls2 {a0 a1 a2 : Option Value} {l : xL} {v : Option Value} : lst1 (a0 :: a1 :: a2 :: l) 2 v = some (a0 :: lkl a1 :: v :: l) := rfl
theorem ls3 {a0 a1 a2 a3 : Option Value} {l : xL} {v : Option Value} : lst1 (a0 :: a1 :: a2 :: a3 :: l) 3 v = some (a0 :: a1 :: lkl a2 :: v :: l) := rfl
theorem ls4 {a0 a1 a2 a3 a4 : Option Value} {l : xL} {v : Option Value} : lst1 (a0 :: a1 :: a2 :: a3 :: a4 :: l) 4 v = some (a0 :: a1 :: a2 :: lkl a3 :: v :: l) := rfl
theorem ls5 {a0 a1 a2 a3 a4 a5 : Option Value} {l : xL} {v : Option Value} : lst1 (a0 :: a1 :: a2 :: a3 :: a4 :: a5 :: l) 5 v = some (a0 :: a1 :: a2 :: a3 :: lkl a4 :: v :: l) := rfl
theorem ls6 {a0 a1 a2 a3 a4 a5 a6 : Option Value} {l : xL} {v : Option Value} : lst1 (a0 :: a1 :: a2 :: a3 :: a4 :: a5 :: a6 :: l) 6 v = some (a0 :: a1 :: a2 :: a3 :: a4 :: lkl a5 :: v :: l) := rfl
theorem ls7 {a0 a1 a2 a3 a4 a5 a6 a7 : Option Value} {l : xL} {v : Option Value} : lst1 (a0 :: a1 :: a2 :: a3 :: a4 :: a5 :: a6 :: a7 :: l) 7 v = some (a0 :: a1 :: a2 :: a3 :: a4 :: a5 :: lkl a6 :: v :: l) := rfl
theorem ls8 {a0 a1 a2 a3 a4 a5 a6 a7 a8 : Option Value} {l : xL} {v : Option Value} : lst1 (a0 :: a1 :: a2 :: a3 :: a4 :: a5 :: a6 :: a7 :: a8 :: l) 8 v = some (a0 :: a1 :: a2 :: a3 :: a4 :: a5 :: a6 :: lkl a7 :: v :: l) := rfl
theorem ls9 {a0 a1 a2 a3 a4 a5 a6 a7 a8 a9 : Option Value} {l : xL} {v : Option Value} : lst1 (a0 :: a1 :: a2 :: a3 :: a4 :: a5 :: a6 :: a7 :: a8 :: a9 :: l) 9 v = some (a0 :: a1 :: a2 :: a3 :: a4 :: a5 :: a6 :: a7 :: lkl a8 :: v :: l) := rfl
theorem ls10 {a0 a1 a2 a3 a4 a5 a6 a7 a8 a9 a10 : Option Value} {l : xL} {v : Option Value} : lst1 (a0 :: a1 :: a2 :: a3 :: a4 :: a5 :: a6 :: a7 :: a8 :: a9 :: a10 :: l) 10 v = some (a0 :: a1 :: a2 :: a3 :: a4 :: a5 :: a6 :: a7 :: a8 :: lkl a9 :: v :: l) := rfl
theorem ls11 {a0 a1 a2 a3 a4 a5 a6 a7 a8 a9 a10 a11 : Option Value} {l : xL} {v : Option Value} : lst1 (a0 :: a1 :: a2 :: a3 :: a4 :: a5 :: a6 :: a7 :: a8 :: a9 :: a10 :: a11 :: l) 11 v = some (a0 :: a1 :: a2 :: a3 :: a4 :: a5 :: a6 :: a7 :: a8 :: a9 :: lkl a10 :: v :: l) := rfl
theorem ls12 {a0 a1 a2 a3 a4 a5 a6 a7 a8 a9 a10 a11 a12 : Option Value} {l : xL} {v : Option Value} : lst1 (a0 :: a1 :: a2 :: a3 :: a4 :: a5 :: a6 :: a7 :: a8 :: a9 :: a10 :: a11 :: a12 :: l) 12 v = some (a0 :: a1 :: a2 :: a3 :: a4 :: a5 :: a6 :: a7 :: a8 :: a9 :: a10 :: lkl a11 :: v :: l) := rfl
theorem lw0 {a0 b : Option Value} {l : xL} {v : Value} : lst2 (a0 :: b :: l) 0 v = some (some v :: none :: l) := rfl
theorem lw1 {a0 a1 b : Option Value} {l : xL} {v : Value} : lst2 (a0 :: a1 :: b :: l) 1 v = some (lkl a0 :: some v :: none :: l) := rfl
theorem lw2 {a0 a1 a2 b : Option Value} {l : xL} {v : Value} : lst2 (a0 :: a1 :: a2 :: b :: l) 2 v = some (a0 :: lkl a1 :: some v :: none :: l) := rfl
theorem lw3 {a0 a1 a2 a3 b : Option Value} {l : xL} {v : Value} : lst2 (a0 :: a1 :: a2 :: a3 :: b :: l) 3 v = some (a0 :: a1 :: lkl a2 :: some v :: none :: l) := rfl
theorem lw4 {a0 a1 a2 a3 a4 b : Option Value} {l : xL} {v : Value} : lst2 (a0 :: a1 :: a2 :: a3 :: a4 :: b :: l) 4 v = some (a0 :: a1 :: a2 :: lkl a3 :: some v :: none :: l) := rfl
theorem lw5 {a0 a1 a2 a3 a4 a5 b : Option Value} {l : xL} {v : Value} : lst2 (a0 :: a1 :: a2 :: a3 :: a4 :: a5 :: b :: l) 5 v = some (a0 :: a1 :: a2 :: a3 :: lkl a4 :: some v :: none :: l) := rfl
theorem lw6 {a0 a1 a2 a3 a4 a5 a6 b : Option Value} {l : xL} {v : Value} : lst2 (a0 :: a1 :: a2 :: a3 :: a4 :: a5 :: a6 :: b :: l) 6 v = some (a0 :: a1 :: a2 :: a3 :: a4 :: lkl a5 :: some v :: none :: l) := rfl
theorem lw7 {a0 a1 a2 a3 a4 a5 a6 a7 b : Option Value} {l : xL} {v : Value} : lst2 (a0 :: a1 :: a2 :: a3 :: a4 :: a5 :: a6 :: a7 :: b :: l) 7 v = some (a0 :: a1 :: a2 :: a3 :: a4 :: a5 :: lkl a6 :: some v :: none :: l) := rfl
theorem lw8 {a0 a1 a2 a3 a4 a5 a6 a7 a8 b : Option Value} {l : xL} {v : Value} : lst2 (a0 :: a1 :: a2 :: a3 :: a4 :: a5 :: a6 :: a7 :: a8 :: b :: l) 8 v = some (a0 :: a1 :: a2 :: a3 :: a4 :: a5 :: a6 :: lkl a7 :: some v :: none :: l) := rfl
theorem lw9 {a0 a1 a2 a3 a4 a5 a6 a7 a8 a9 b : Option Value} {l : xL} {v : Value} : lst2 (a0 :: a1 :: a2 :: a3 :: a4 :: a5 :: a6 :: a7 :: a8 :: a9 :: b :: l) 9 v = some (a0 :: a1 :: a2 :: a3 :: a4 :: a5 :: a6 :: a7 :: lkl a8 :: some v :: none :: l) := rfl
theorem lw10 {a0 a1 a2 a3 a4 a5 a6 a7 a8 a9 a10 b : Option Value} {l : xL} {v : Value} : lst2 (a0 :: a1 :: a2 :: a3 :: a4 :: a5 :: a6 :: a7 :: a8 :: a9 :: a10 :: b :: l) 10 v = some (a0 :: a1 :: a2 :: a3 :: a4 :: a5 :: a6 :: a7 :: a8 :: lkl a9 :: some v :: none :: l) := rfl
theorem lw11 {a0 a1 a2 a3 a4 a5 a6 a7 a8 a9 a10 a11 b : Option Value} {l : xL} {v : Value} : lst2 (a0 :: a1 :: a2 :: a3 :: a4 :: a5 :: a6 :: a7 :: a8 :: a9 :: a10 :: a11 :: b :: l) 11 v = some (a0 :: a1 :: a2 :: a3 :: a4 :: a5 :: a6 :: a7 :: a8 :: a9 :: lkl a10 :: some v :: none :: l) := rfl
theorem lk0 : lkl none = none := rfl
theorem lkI {x : Int32} : lkl (some (.int x)) = some (.int x) := rfl
theorem lkA {x : Nat} : lkl (some (.ref x)) = some (.ref x) := rfl
theorem lkL {x : Int64} : lkl (some (.long x)) = none := rfl
theorem lkD {x : UInt64} : lkl (some (.double x)) = none := rfl
theorem lkF {x : UInt32} : lkl (some (.float x)) = some (.float x) := rfl
theorem gI1 {α : Type} {x : Int32} {k : Int32 → Option α} : gI (some (.int x)) k = k x := rfl
theorem gL1 {α : Type} {x : Int64} {k : Int64 → Option α} : gL (some (.long x)) k = k x := rfl
theorem gF1 {α : Type} {x : UInt32} {k : UInt32 → Option α} : gF (some (.float x)) k = k x := rfl
theorem gD1 {α : Type} {x : UInt64} {k : UInt64 → Option α} : gD (some (.double x)) k = k x := rfl
theorem gA1 {α : Type} {x : Nat} {k : Nat → Option α} : gA (some (.ref x)) k = k x := rfl
theorem xw0 : xwid [] = 0 := rfl
theorem xwI {x : Int32} {l : List Value} : xwid (.int x :: l) = 1 + xwid l := rfl
theorem xwA {x : Nat} {l : List Value} : xwid (.ref x :: l) = 1 + xwid l := rfl
theorem xwL {x : Int64} {l : List Value} : xwid (.long x :: l) = 2 + xwid l := rfl
theorem xwD {x : UInt64} {l : List Value} : xwid (.double x :: l) = 2 + xwid l := rfl
theorem xwF {x : UInt32} {l : List Value} : xwid (.float x :: l) = 1 + xwid l := rfl
theorem vtS {v : Value} {l : List Value} : (some v).toList ++ l = v :: l := rfl
theorem vtN {l : List Value} : (none : Option Value).toList ++ l = l := rfl
section YO
variable {μ pc : Nat} {en : xMe} {ls : xL} {st : List Value} {σ : xS}
theorem y_iconst {n : Int} {v : Int32} (he : xM[μ]? = some en) (hd : decode en.2.1 pc = .ok (.iconst n, 1)) (hv : Int32.ofInt n = v) : xR μ pc ls (st) σ = xR μ (pc + 1) ls (.int v :: st) σ := by subst hv; exact (y0 he hd).trans rfl
theorem y_bipush {n : Int} {v : Int32} (he : xM[μ]? = some en) (hd : decode en.2.1 pc = .ok (.bipush n, 2)) (hv : (Int8.ofInt n).toInt32 = v) : xR μ pc ls (st) σ = xR μ (pc + 2) ls (.int v :: st) σ := by subst hv; exact (y0 he hd).trans rfl
theorem y_sipush {n : Int} {v : Int32} (he : xM[μ]? = some en) (hd : decode en.2.1 pc = .ok (.sipush n, 3)) (hv : (Int16.ofInt n).toInt32 = v) : xR μ pc ls (st) σ = xR μ (pc + 3) ls (.int v :: st) σ := by subst hv; exact (y0 he hd).trans rfl
theorem y_lconst {n : Fin 2} {v : Int64} (he : xM[μ]? = some en) (hd : decode en.2.1 pc = .ok (.lconst n, 1)) (hv : Int64.ofNat (n : Nat) = v) : xR μ pc ls (st) σ = xR μ (pc + 1) ls (.long v :: st) σ := by subst hv; exact (y0 he hd).trans rfl
theorem y_fconst  (he : xM[μ]? = some en) (hd : decode en.2.1 pc = .ok (.fconst 0, 1))  : xR μ pc ls (st) σ = xR μ (pc + 1) ls (.float FP.fconst0 :: st) σ := (y0 he hd).trans rfl
theorem y_dconst0  (he : xM[μ]? = some en) (hd : decode en.2.1 pc = .ok (.dconst 0, 1))  : xR μ pc ls (st) σ = xR μ (pc + 1) ls (.double FP.dconst0 :: st) σ := (y0 he hd).trans rfl
theorem y_dconst1  (he : xM[μ]? = some en) (hd : decode en.2.1 pc = .ok (.dconst 1, 1))  : xR μ pc ls (st) σ = xR μ (pc + 1) ls (.double FP.dconst1 :: st) σ := (y0 he hd).trans rfl
theorem y_ldc {k pl : Nat} {v : Int32} (he : xM[μ]? = some en) (hd : decode en.2.1 pc = .ok (.ldc k, 2)) (hq : xfind xKL en.2.2.2.2.1 k = some (.int v, pl)) : xR μ pc ls (st) σ = xR μ (pc + 2) ls (.int v :: st) σ := (y0 he hd).trans (by show xK μ pc ((xfind xKL en.2.2.2.2.1 k).bind _) = _; rw [hq]; rfl)
theorem y_ldc2l {k pl : Nat} {v : Int64} (he : xM[μ]? = some en) (hd : decode en.2.1 pc = .ok (.ldc2_w k, 3)) (hq : xfind xKL en.2.2.2.2.1 k = some (.long v, pl)) : xR μ pc ls (st) σ = xR μ (pc + 3) ls (.long v :: st) σ := (y0 he hd).trans (by show xK μ pc ((xfind xKL en.2.2.2.2.1 k).bind _) = _; rw [hq]; rfl)
theorem y_ldc2d {k pl : Nat} {v : UInt64} (he : xM[μ]? = some en) (hd : decode en.2.1 pc = .ok (.ldc2_w k, 3)) (hq : xfind xKL en.2.2.2.2.1 k = some (.double v, pl)) : xR μ pc ls (st) σ = xR μ (pc + 3) ls (.double v :: st) σ := (y0 he hd).trans (by show xK μ pc ((xfind xKL en.2.2.2.2.1 k).bind _) = _; rw [hq]; rfl)
theorem y_iload_n {k : Fin 4} (he : xM[μ]? = some en) (hd : decode en.2.1 pc = .ok (.iload_n k, 1))  : xR μ pc ls (st) σ = gI (lget ls k.val) (fun x => xR μ (pc + 1) ls (.int x :: st) σ) := (y0 he hd).trans yk_gI
theorem y_iload {k : Nat} (he : xM[μ]? = some en) (hd : decode en.2.1 pc = .ok (.iload k, 2))  : xR μ pc ls (st) σ = gI (lget ls k) (fun x => xR μ (pc + 2) ls (.int x :: st) σ) := (y0 he hd).trans yk_gI
theorem y_lload_n {k : Fin 4} (he : xM[μ]? = some en) (hd : decode en.2.1 pc = .ok (.lload_n k, 1))  : xR μ pc ls (st) σ = gL (lget ls k.val) (fun x => xR μ (pc + 1) ls (.long x :: st) σ) := (y0 he hd).trans yk_gL
theorem y_lload {k : Nat} (he : xM[μ]? = some en) (hd : decode en.2.1 pc = .ok (.lload k, 2))  : xR μ pc ls (st) σ = gL (lget ls k) (fun x => xR μ (pc + 2) ls (.long x :: st) σ) := (y0 he hd).trans yk_gL
theorem y_fload_n {k : Fin 4} (he : xM[μ]? = some en) (hd : decode en.2.1 pc = .ok (.fload_n k, 1))  : xR μ pc ls (st) σ = gF (lget ls k.val) (fun x => xR μ (pc + 1) ls (.float x :: st) σ) := (y0 he hd).trans yk_gF
theorem y_dload_n {k : Fin 4} (he : xM[μ]? = some en) (hd : decode en.2.1 pc = .ok (.dload_n k, 1))  : xR μ pc ls (st) σ = gD (lget ls k.val) (fun x => xR μ (pc + 1) ls (.double x :: st) σ) := (y0 he hd).trans yk_gD
theorem y_dload {k : Nat} (he : xM[μ]? = some en) (hd : decode en.2.1 pc = .ok (.dload k, 2))  : xR μ pc ls (st) σ = gD (lget ls k) (fun x => xR μ (pc + 2) ls (.double x :: st) σ) := (y0 he hd).trans yk_gD
theorem y_aload_n {k : Fin 4} (he : xM[μ]? = some en) (hd : decode en.2.1 pc = .ok (.aload_n k, 1))  : xR μ pc ls (st) σ = gA (lget ls k.val) (fun x => xR μ (pc + 1) ls (.ref x :: st) σ) := (y0 he hd).trans yk_gA
theorem y_aload {k : Nat} (he : xM[μ]? = some en) (hd : decode en.2.1 pc = .ok (.aload k, 2))  : xR μ pc ls (st) σ = gA (lget ls k) (fun x => xR μ (pc + 2) ls (.ref x :: st) σ) := (y0 he hd).trans yk_gA
theorem y_istore_n {k : Fin 4} {x : Int32} (he : xM[μ]? = some en) (hd : decode en.2.1 pc = .ok (.istore_n k, 1))  : xR μ pc ls (.int x :: st) σ = (lst1 ls k.val (some (.int x))).bind (fun l => xR μ (pc + 1) l st σ) := (y0 he hd).trans yk_b
theorem y_istore {k : Nat} {x : Int32} (he : xM[μ]? = some en) (hd : decode en.2.1 pc = .ok (.istore k, 2))  : xR μ pc ls (.int x :: st) σ = (lst1 ls k (some (.int x))).bind (fun l => xR μ (pc + 2) l st σ) := (y0 he hd).trans yk_b
theorem y_astore_n {k : Fin 4} {x : Nat} (he : xM[μ]? = some en) (hd : decode en.2.1 pc = .ok (.astore_n k, 1))  : xR μ pc ls (.ref x :: st) σ = (lst1 ls k.val (some (.ref x))).bind (fun l => xR μ (pc + 1) l st σ) := (y0 he hd).trans yk_b
theorem y_astore {k : Nat} {x : Nat} (he : xM[μ]? = some en) (hd : decode en.2.1 pc = .ok (.astore k, 2))  : xR μ pc ls (.ref x :: st) σ = (lst1 ls k (some (.ref x))).bind (fun l => xR μ (pc + 2) l st σ) := (y0 he hd).trans yk_b
theorem y_lstore_n {k : Fin 4} {x : Int64} (he : xM[μ]? = some en) (hd : decode en.2.1 pc = .ok (.lstore_n k, 1))  : xR μ pc ls (.long x :: st) σ = (lst2 ls k.val (.long x)).bind (fun l => xR μ (pc + 1) l st σ) := (y0 he hd).trans yk_b
theorem y_lstore {k : Nat} {x : Int64} (he : xM[μ]? = some en) (hd : decode en.2.1 pc = .ok (.lstore k, 2))  : xR μ pc ls (.long x :: st) σ = (lst2 ls k (.long x)).bind (fun l => xR μ (pc + 2) l st σ) := (y0 he hd).trans yk_b
theorem y_dstore {k : Nat} {x : UInt64} (he : xM[μ]? = some en) (hd : decode en.2.1 pc = .ok (.dstore k, 2))  : xR μ pc ls (.double x :: st) σ = (lst2 ls k (.double x)).bind (fun l => xR μ (pc + 2) l st σ) := (y0 he hd).trans yk_b
theorem y_iinc {k : Nat} {n : Int} {v : Int32} (he : xM[μ]? = some en) (hd : decode en.2.1 pc = .ok (.iinc k n, 3)) (hv : Int32.ofInt n = v) : xR μ pc ls (st) σ = gI (lget ls k) (fun x => (lst1 ls k (some (.int (x + v)))).bind (fun l => xR μ (pc + 3) l st σ)) := by
  subst hv
  refine (y0 he hd).trans (yk_gI.trans ?_)
  congr 1
  funext x
  exact yk_b
theorem y_iadd {x y : Int32} (he : xM[μ]? = some en) (hd : decode en.2.1 pc = .ok (.iadd, 1))  : xR μ pc ls (.int y :: .int x :: st) σ = xR μ (pc + 1) ls (.int (x + y) :: st) σ := (y0 he hd).trans rfl
theorem y_isub {x y : Int32} (he : xM[μ]? = some en) (hd : decode en.2.1 pc = .ok (.isub, 1))  : xR μ pc ls (.int y :: .int x :: st) σ = xR μ (pc + 1) ls (.int (x - y) :: st) σ := (y0 he hd).trans rfl
theorem y_imul {x y : Int32} (he : xM[μ]? = some en) (hd : decode en.2.1 pc = .ok (.imul, 1))  : xR μ pc ls (.int y :: .int x :: st) σ = xR μ (pc + 1) ls (.int (x * y) :: st) σ := (y0 he hd).trans rfl
theorem y_iand {x y : Int32} (he : xM[μ]? = some en) (hd : decode en.2.1 pc = .ok (.iand, 1))  : xR μ pc ls (.int y :: .int x :: st) σ = xR μ (pc + 1) ls (.int (x &&& y) :: st) σ := (y0 he hd).trans rfl
theorem y_ishr {x y : Int32} (he : xM[μ]? = some en) (hd : decode en.2.1 pc = .ok (.ishr, 1))  : xR μ pc ls (.int y :: .int x :: st) σ = xR μ (pc + 1) ls (.int (x >>> (y &&& 31)) :: st) σ := (y0 he hd).trans rfl
theorem y_idiv {x y : Int32} (he : xM[μ]? = some en) (hd : decode en.2.1 pc = .ok (.idiv, 1))  : xR μ pc ls (.int y :: .int x :: st) σ = if y = 0 then none else xR μ (pc + 1) ls (.int (x / y) :: st) σ := (y0 he hd).trans yk_if
theorem y_irem {x y : Int32} (he : xM[μ]? = some en) (hd : decode en.2.1 pc = .ok (.irem, 1))  : xR μ pc ls (.int y :: .int x :: st) σ = if y = 0 then none else xR μ (pc + 1) ls (.int (x - x / y * y) :: st) σ := (y0 he hd).trans yk_if
theorem y_ladd {x y : Int64} (he : xM[μ]? = some en) (hd : decode en.2.1 pc = .ok (.ladd, 1))  : xR μ pc ls (.long y :: .long x :: st) σ = xR μ (pc + 1) ls (.long (x + y) :: st) σ := (y0 he hd).trans rfl
theorem y_lsub {x y : Int64} (he : xM[μ]? = some en) (hd : decode en.2.1 pc = .ok (.lsub, 1))  : xR μ pc ls (.long y :: .long x :: st) σ = xR μ (pc + 1) ls (.long (x - y) :: st) σ := (y0 he hd).trans rfl
theorem y_lmul {x y : Int64} (he : xM[μ]? = some en) (hd : decode en.2.1 pc = .ok (.lmul, 1))  : xR μ pc ls (.long y :: .long x :: st) σ = xR μ (pc + 1) ls (.long (x * y) :: st) σ := (y0 he hd).trans rfl
theorem y_land {x y : Int64} (he : xM[μ]? = some en) (hd : decode en.2.1 pc = .ok (.land, 1))  : xR μ pc ls (.long y :: .long x :: st) σ = xR μ (pc + 1) ls (.long (x &&& y) :: st) σ := (y0 he hd).trans rfl
theorem y_lor {x y : Int64} (he : xM[μ]? = some en) (hd : decode en.2.1 pc = .ok (.lor, 1))  : xR μ pc ls (.long y :: .long x :: st) σ = xR μ (pc + 1) ls (.long (x ||| y) :: st) σ := (y0 he hd).trans rfl
theorem y_lxor {x y : Int64} (he : xM[μ]? = some en) (hd : decode en.2.1 pc = .ok (.lxor, 1))  : xR μ pc ls (.long y :: .long x :: st) σ = xR μ (pc + 1) ls (.long (x ^^^ y) :: st) σ := (y0 he hd).trans rfl
theorem y_lcmp {x y : Int64} (he : xM[μ]? = some en) (hd : decode en.2.1 pc = .ok (.lcmp, 1))  : xR μ pc ls (.long y :: .long x :: st) σ = xR μ (pc + 1) ls (.int (lg_cmp x y) :: st) σ := (y0 he hd).trans rfl
theorem y_lneg {x : Int64} (he : xM[μ]? = some en) (hd : decode en.2.1 pc = .ok (.lneg, 1))  : xR μ pc ls (.long x :: st) σ = xR μ (pc + 1) ls (.long (-x) :: st) σ := (y0 he hd).trans rfl
theorem y_lshl {x : Int64} {y : Int32} (he : xM[μ]? = some en) (hd : decode en.2.1 pc = .ok (.lshl, 1))  : xR μ pc ls (.int y :: .long x :: st) σ = xR μ (pc + 1) ls (.long (x <<< (y.toInt64 &&& 63)) :: st) σ := (y0 he hd).trans rfl
theorem y_lushr {x : Int64} {y : Int32} (he : xM[μ]? = some en) (hd : decode en.2.1 pc = .ok (.lushr, 1))  : xR μ pc ls (.int y :: .long x :: st) σ = xR μ (pc + 1) ls (.long ((x.toUInt64 >>> (y.toInt64.toUInt64 &&& Int64.toUInt64 63)).toInt64) :: st) σ := (y0 he hd).trans rfl
theorem y_i2l {x : Int32} (he : xM[μ]? = some en) (hd : decode en.2.1 pc = .ok (.i2l, 1))  : xR μ pc ls (.int x :: st) σ = xR μ (pc + 1) ls (.long x.toInt64 :: st) σ := (y0 he hd).trans rfl
theorem y_l2i {x : Int64} (he : xM[μ]? = some en) (hd : decode en.2.1 pc = .ok (.l2i, 1))  : xR μ pc ls (.long x :: st) σ = xR μ (pc + 1) ls (.int x.toInt32 :: st) σ := (y0 he hd).trans rfl
theorem y_i2f {x : Int32} (he : xM[μ]? = some en) (hd : decode en.2.1 pc = .ok (.i2f, 1))  : xR μ pc ls (.int x :: st) σ = xR μ (pc + 1) ls (.float (FP.i2f x) :: st) σ := (y0 he hd).trans rfl
theorem y_i2d {x : Int32} (he : xM[μ]? = some en) (hd : decode en.2.1 pc = .ok (.i2d, 1))  : xR μ pc ls (.int x :: st) σ = xR μ (pc + 1) ls (.double (FP.i2d x) :: st) σ := (y0 he hd).trans rfl
theorem y_l2d {x : Int64} (he : xM[μ]? = some en) (hd : decode en.2.1 pc = .ok (.l2d, 1))  : xR μ pc ls (.long x :: st) σ = xR μ (pc + 1) ls (.double (FP.l2d x) :: st) σ := (y0 he hd).trans rfl
theorem y_d2l {x : UInt64} (he : xM[μ]? = some en) (hd : decode en.2.1 pc = .ok (.d2l, 1))  : xR μ pc ls (.double x :: st) σ = xR μ (pc + 1) ls (.long (FP.d2l x) :: st) σ := (y0 he hd).trans rfl
theorem y_f2d {x : UInt32} (he : xM[μ]? = some en) (hd : decode en.2.1 pc = .ok (.f2d, 1))  : xR μ pc ls (.float x :: st) σ = if FP.f2d x &&& 0x7fffffffffffffff ≤ 0x7ff0000000000000 then xR μ (pc + 1) ls (.double (FP.f2d x) :: st) σ else none := (y0 he hd).trans yk_if
theorem y_fdiv {x y : UInt32} (he : xM[μ]? = some en) (hd : decode en.2.1 pc = .ok (.fdiv, 1))  : xR μ pc ls (.float y :: .float x :: st) σ = if FP.fdiv x y &&& 0x7fffffff ≤ 0x7f800000 then xR μ (pc + 1) ls (.float (FP.fdiv x y) :: st) σ else none := (y0 he hd).trans yk_if
theorem y_ddiv {x y : UInt64} (he : xM[μ]? = some en) (hd : decode en.2.1 pc = .ok (.ddiv, 1))  : xR μ pc ls (.double y :: .double x :: st) σ = if FP.ddiv x y &&& 0x7fffffffffffffff ≤ 0x7ff0000000000000 then xR μ (pc + 1) ls (.double (FP.ddiv x y) :: st) σ else none := (y0 he hd).trans yk_if
theorem y_dmul {x y : UInt64} (he : xM[μ]? = some en) (hd : decode en.2.1 pc = .ok (.dmul, 1))  : xR μ pc ls (.double y :: .double x :: st) σ = if FP.dmul x y &&& 0x7fffffffffffffff ≤ 0x7ff0000000000000 then xR μ (pc + 1) ls (.double (FP.dmul x y) :: st) σ else none := (y0 he hd).trans yk_if
theorem y_dsub {x y : UInt64} (he : xM[μ]? = some en) (hd : decode en.2.1 pc = .ok (.dsub, 1))  : xR μ pc ls (.double y :: .double x :: st) σ = if FP.dsub x y &&& 0x7fffffffffffffff ≤ 0x7ff0000000000000 then xR μ (pc + 1) ls (.double (FP.dsub x y) :: st) σ else none := (y0 he hd).trans yk_if
theorem y_fcmp {x y : UInt32} {op : CmpOp} (he : xM[μ]? = some en) (hd : decode en.2.1 pc = .ok (.fcmp op, 1))  : xR μ pc ls (.float y :: .float x :: st) σ = xR μ (pc + 1) ls (.int (Op.cmpValue (FP.fcmp x y) op) :: st) σ := (y0 he hd).trans rfl
theorem y_dcmp {x y : UInt64} {op : CmpOp} (he : xM[μ]? = some en) (hd : decode en.2.1 pc = .ok (.dcmp op, 1))  : xR μ pc ls (.double y :: .double x :: st) σ = xR μ (pc + 1) ls (.int (Op.cmpValue (FP.dcmp x y) op) :: st) σ := (y0 he hd).trans rfl
theorem y_dupI {x : Int32} (he : xM[μ]? = some en) (hd : decode en.2.1 pc = .ok (.dup, 1))  : xR μ pc ls (.int x :: st) σ = xR μ (pc + 1) ls (.int x :: .int x :: st) σ := (y0 he hd).trans rfl
theorem y_popI {x : Int32} (he : xM[μ]? = some en) (hd : decode en.2.1 pc = .ok (.pop, 1))  : xR μ pc ls (.int x :: st) σ = xR μ (pc + 1) ls st σ := (y0 he hd).trans rfl
theorem y_dupA {x : Nat} (he : xM[μ]? = some en) (hd : decode en.2.1 pc = .ok (.dup, 1))  : xR μ pc ls (.ref x :: st) σ = xR μ (pc + 1) ls (.ref x :: .ref x :: st) σ := (y0 he hd).trans rfl
theorem y_popA {x : Nat} (he : xM[μ]? = some en) (hd : decode en.2.1 pc = .ok (.pop, 1))  : xR μ pc ls (.ref x :: st) σ = xR μ (pc + 1) ls st σ := (y0 he hd).trans rfl
theorem y_dup2 {x : Int32} {a : Nat} (he : xM[μ]? = some en) (hd : decode en.2.1 pc = .ok (.dup2, 1))  : xR μ pc ls (.int x :: .ref a :: st) σ = xR μ (pc + 1) ls (.int x :: .ref a :: .int x :: .ref a :: st) σ := (y0 he hd).trans rfl
theorem y_goto {off : Int} {t : Nat} (he : xM[μ]? = some en) (hd : decode en.2.1 pc = .ok (.goto off, 3)) (ht : (pc : Int) + off = (t : Int)) : xR μ pc ls (st) σ = xR μ t ls st σ := by
  rw [y0 he hd]
  show xK μ pc (xgo pc off ls st σ) = _
  unfold xgo
  rw [ht, if_pos (Int.natCast_nonneg t)]
  rfl
theorem y_if_eq {off : Int} {t : Nat} {x : Int32} (he : xM[μ]? = some en) (hd : decode en.2.1 pc = .ok (.ifCond .eq off, 3)) (ht : (pc : Int) + off = (t : Int)) : xR μ pc ls (.int x :: st) σ = if x = 0 then xR μ t ls st σ else xR μ (pc + 3) ls st σ := by
  rw [y0 he hd]
  show xK μ pc (xIf (x = 0) pc off ls st σ) = _
  unfold xIf
  rw [ht, if_pos (Int.natCast_nonneg t)]
  show xR μ (if x = 0 then t else pc + 3) ls st σ = _
  split <;> rfl
theorem y_if_ne {off : Int} {t : Nat} {x : Int32} (he : xM[μ]? = some en) (hd : decode en.2.1 pc = .ok (.ifCond .ne off, 3)) (ht : (pc : Int) + off = (t : Int)) : xR μ pc ls (.int x :: st) σ = if ¬ x = 0 then xR μ t ls st σ else xR μ (pc + 3) ls st σ := by
  rw [y0 he hd]
  show xK μ pc (xIf (¬ x = 0) pc off ls st σ) = _
  unfold xIf
  rw [ht, if_pos (Int.natCast_nonneg t)]
  show xR μ (if ¬ x = 0 then t else pc + 3) ls st σ = _
  split <;> rfl
theorem y_if_lt {off : Int} {t : Nat} {x : Int32} (he : xM[μ]? = some en) (hd : decode en.2.1 pc = .ok (.ifCond .lt off, 3)) (ht : (pc : Int) + off = (t : Int)) : xR μ pc ls (.int x :: st) σ = if x < 0 then xR μ t ls st σ else xR μ (pc + 3) ls st σ := by
  rw [y0 he hd]
  show xK μ pc (xIf (x < 0) pc off ls st σ) = _
  unfold xIf
  rw [ht, if_pos (Int.natCast_nonneg t)]
  show xR μ (if x < 0 then t else pc + 3) ls st σ = _
  split <;> rfl
theorem y_if_ge {off : Int} {t : Nat} {x : Int32} (he : xM[μ]? = some en) (hd : decode en.2.1 pc = .ok (.ifCond .ge off, 3)) (ht : (pc : Int) + off = (t : Int)) : xR μ pc ls (.int x :: st) σ = if 0 ≤ x then xR μ t ls st σ else xR μ (pc + 3) ls st σ := by
  rw [y0 he hd]
  show xK μ pc (xIf (0 ≤ x) pc off ls st σ) = _
  unfold xIf
  rw [ht, if_pos (Int.natCast_nonneg t)]
  show xR μ (if 0 ≤ x then t else pc + 3) ls st σ = _
  split <;> rfl
theorem y_if_gt {off : Int} {t : Nat} {x : Int32} (he : xM[μ]? = some en) (hd : decode en.2.1 pc = .ok (.ifCond .gt off, 3)) (ht : (pc : Int) + off = (t : Int)) : xR μ pc ls (.int x :: st) σ = if 0 < x then xR μ t ls st σ else xR μ (pc + 3) ls st σ := by
  rw [y0 he hd]
  show xK μ pc (xIf (0 < x) pc off ls st σ) = _
  unfold xIf
  rw [ht, if_pos (Int.natCast_nonneg t)]
  show xR μ (if 0 < x then t else pc + 3) ls st σ = _
  split <;> rfl
theorem y_if_le {off : Int} {t : Nat} {x : Int32} (he : xM[μ]? = some en) (hd : decode en.2.1 pc = .ok (.ifCond .le off, 3)) (ht : (pc : Int) + off = (t : Int)) : xR μ pc ls (.int x :: st) σ = if x ≤ 0 then xR μ t ls st σ else xR μ (pc + 3) ls st σ := by
  rw [y0 he hd]
  show xK μ pc (xIf (x ≤ 0) pc off ls st σ) = _
  unfold xIf
  rw [ht, if_pos (Int.natCast_nonneg t)]
  show xR μ (if x ≤ 0 then t else pc + 3) ls st σ = _
  split <;> rfl
theorem y_icmp_eq {off : Int} {t : Nat} {x y : Int32} (he : xM[μ]? = some en) (hd : decode en.2.1 pc = .ok (.if_icmp .eq off, 3)) (ht : (pc : Int) + off = (t : Int)) : xR μ pc ls (.int y :: .int x :: st) σ = if x = y then xR μ t ls st σ else xR μ (pc + 3) ls st σ := by
  rw [y0 he hd]
  show xK μ pc (xIf (x = y) pc off ls st σ) = _
  unfold xIf
  rw [ht, if_pos (Int.natCast_nonneg t)]
  show xR μ (if x = y then t else pc + 3) ls st σ = _
  split <;> rfl
theorem y_icmp_ne {off : Int} {t : Nat} {x y : Int32} (he : xM[μ]? = some en) (hd : decode en.2.1 pc = .ok (.if_icmp .ne off, 3)) (ht : (pc : Int) + off = (t : Int)) : xR μ pc ls (.int y :: .int x :: st) σ = if ¬ x = y then xR μ t ls st σ else xR μ (pc + 3) ls st σ := by
  rw [y0 he hd]
  show xK μ pc (xIf (¬ x = y) pc off ls st σ) = _
  unfold xIf
  rw [ht, if_pos (Int.natCast_nonneg t)]
  show xR μ (if ¬ x = y then t else pc + 3) ls st σ = _
  split <;> rfl
theorem y_icmp_lt {off : Int} {t : Nat} {x y : Int32} (he : xM[μ]? = some en) (hd : decode en.2.1 pc = .ok (.if_icmp .lt off, 3)) (ht : (pc : Int) + off = (t : Int)) : xR μ pc ls (.int y :: .int x :: st) σ = if x < y then xR μ t ls st σ else xR μ (pc + 3) ls st σ := by
  rw [y0 he hd]
  show xK μ pc (xIf (x < y) pc off ls st σ) = _
  unfold xIf
  rw [ht, if_pos (Int.natCast_nonneg t)]
  show xR μ (if x < y then t else pc + 3) ls st σ = _
  split <;> rfl
theorem y_icmp_ge {off : Int} {t : Nat} {x y : Int32} (he : xM[μ]? = some en) (hd : decode en.2.1 pc = .ok (.if_icmp .ge off, 3)) (ht : (pc : Int) + off = (t : Int)) : xR μ pc ls (.int y :: .int x :: st) σ = if y ≤ x then xR μ t ls st σ else xR μ (pc + 3) ls st σ := by
  rw [y0 he hd]
  show xK μ pc (xIf (y ≤ x) pc off ls st σ) = _
  unfold xIf
  rw [ht, if_pos (Int.natCast_nonneg t)]
  show xR μ (if y ≤ x then t else pc + 3) ls st σ = _
  split <;> rfl
theorem y_icmp_gt {off : Int} {t : Nat} {x y : Int32} (he : xM[μ]? = some en) (hd : decode en.2.1 pc = .ok (.if_icmp .gt off, 3)) (ht : (pc : Int) + off = (t : Int)) : xR μ pc ls (.int y :: .int x :: st) σ = if y < x then xR μ t ls st σ else xR μ (pc + 3) ls st σ := by
  rw [y0 he hd]
  show xK μ pc (xIf (y < x) pc off ls st σ) = _
  unfold xIf
  rw [ht, if_pos (Int.natCast_nonneg t)]
  show xR μ (if y < x then t else pc + 3) ls st σ = _
  split <;> rfl
theorem y_icmp_le {off : Int} {t : Nat} {x y : Int32} (he : xM[μ]? = some en) (hd : decode en.2.1 pc = .ok (.if_icmp .le off, 3)) (ht : (pc : Int) + off = (t : Int)) : xR μ pc ls (.int y :: .int x :: st) σ = if x ≤ y then xR μ t ls st σ else xR μ (pc + 3) ls st σ := by
  rw [y0 he hd]
  show xK μ pc (xIf (x ≤ y) pc off ls st σ) = _
  unfold xIf
  rw [ht, if_pos (Int.natCast_nonneg t)]
  show xR μ (if x ≤ y then t else pc + 3) ls st σ = _
  split <;> rfl
/-- where a tableswitch goes -/
def yts (pc : Nat) (d lo hi : Int) (offs : Array Int) (x : Int32) : Option Nat := if x.toInt < lo ∨ hi < x.toInt then some ((pc : Int) + d).toNat else (offs[(x.toInt - lo).toNat]?).map (fun o => ((pc : Int) + o).toNat)
theorem y_tsw {d lo hi : Int} {offs : Array Int} {len : Nat} {x : Int32} (he : xM[μ]? = some en) (hd : decode en.2.1 pc = .ok (.tableswitch d lo hi offs, len)) (h0 : 0 ≤ (pc : Int) + d) (h1 : ∀ o ∈ offs.toList, 0 ≤ (pc : Int) + o) : xR μ pc ls (.int x :: st) σ = (yts pc d lo hi offs x).bind (fun t => xR μ t ls st σ) := by
  rw [y0 he hd]
  show xK μ pc (if x.toInt < lo ∨ hi < x.toInt then xgo pc d ls st σ else (offs[(x.toInt - lo).toNat]?).bind fun o => xgo pc o ls st σ) = _
  unfold yts
  split
  · unfold xgo
    rw [if_pos h0]
    rfl
  · cases h : offs[(x.toInt - lo).toNat]? with
    | none => rfl
    | some o =>
      have hm : o ∈ offs.toList := Array.mem_toList_iff.mpr (Array.mem_of_getElem? h)
      show xK μ pc (xgo pc o ls st σ) = _
      unfold xgo
      rw [if_pos (h1 o hm)]
      rfl
theorem y_lsw {d : Int} {ps : Array (Int × Int)} {len : Nat} {x : Int32} (he : xM[μ]? = some en) (hd : decode en.2.1 pc = .ok (.lookupswitch d ps, len)) (hp : (ps.toList.zip (ps.toList.drop 1)).all (fun (a, next) => a.1 < next.1) = true) : xR μ pc ls (.int x :: st) σ = if 0 ≤ (pc : Int) + Op.lookupswitch.offset ps.toList d x.toInt then xR μ ((pc : Int) + Op.lookupswitch.offset ps.toList d x.toInt).toNat ls st σ else none := by
  rw [y0 he hd]
  show xK μ pc (if (ps.toList.zip (ps.toList.drop 1)).all (fun (a, next) => a.1 < next.1) = true then xgo pc (Op.lookupswitch.offset ps.toList d x.toInt) ls st σ else none) = _
  rw [if_pos hp]
  unfold xgo
  split <;> rfl
theorem y_getf {k ci k2 pl a : Nat} (he : xM[μ]? = some en) (hd : decode en.2.1 pc = .ok (.getfield k, 3)) (hq : xfind xFL en.2.2.2.2.1 k = some (ci, k2, pl)) : xR μ pc ls (.ref a :: st) σ = (hfld σ a ci k2).bind (fun v => xR μ (pc + 3) ls (v :: st) σ) := by
  rw [y0 he hd]
  show xK μ pc ((xfind xFL en.2.2.2.2.1 k).bind _) = _
  rw [hq]
  show xK μ pc ((hfld σ a ci k2).bind (fun v => xnx (pc + 3) ls (v :: st) σ)) = _
  exact yk_b
theorem y_putf {k ci k2 pl a : Nat} {v : Value} {ty : FieldType} (he : xM[μ]? = some en) (hd : decode en.2.1 pc = .ok (.putfield k, 3)) (hq : xfind xFL en.2.2.2.2.1 k = some (ci, k2, pl)) (hty : xty ci k2 = some ty) (hf : xfin ci k2 = false ∨ (en.1.name = "<init>" ∧ xdec ci k2 = xcn en.2.2.2.2.1)) : xR μ pc ls (v :: .ref a :: st) σ = if xfit ty v = true then (hfst σ a ci k2 v).bind (fun σ2 => xR μ (pc + 3) ls st σ2) else none := by
  rw [y0 he hd]
  show xK μ pc ((xfind xFL en.2.2.2.2.1 k).bind _) = _
  rw [hq]
  show xK μ pc ((xty ci k2).bind _) = _
  rw [hty]
  show xK μ pc (if xfit ty v = true ∧ (xfin ci k2 = false ∨ (en.1.name = "<init>" ∧ xdec ci k2 = xcn en.2.2.2.2.1)) then (hfst σ a ci k2 v).bind (fun σ2 => xnx (pc + 3) ls st σ2) else none) = _
  by_cases h : xfit ty v = true
  · rw [if_pos ⟨h, hf⟩, if_pos h]; exact yk_b
  · rw [if_neg (fun q => h q.1), if_neg h]; rfl
theorem y_iald {a : Nat} {i : Int32} (he : xM[μ]? = some en) (hd : decode en.2.1 pc = .ok (.iaload, 1)) (hk : ¬ 3 ≤ en.2.2.2.2.2.2.2) : xR μ pc ls (.int i :: .ref a :: st) σ = (hint σ 0 a).bind (fun q => if xin i q.1 = true then xR μ (pc + 1) ls (.int (q.2 i.toNatClampNeg) :: st) σ else none) := by
  rw [y0 he hd]
  show xK μ pc (match hint σ 0 a with
    | some q => if xin i q.1 = true then xnx (pc + 1) ls (.int (q.2 i.toNatClampNeg) :: st) σ else none
    | none => (hint σ 9 a).bind fun q => if 3 ≤ en.2.2.2.2.2.2.2 ∧ xin i q.1 = true then xnx (pc + 1) ls (.int (q.2 i.toNatClampNeg) :: st) σ else none) = _
  cases hint σ 0 a with
  | some q => exact yk_if
  | none =>
    rw [Option.bind_none]
    cases hint σ 9 a with
    | none => rfl
    | some q => rw [Option.bind_some, if_neg (fun z => hk z.1)]; rfl
theorem y_aald {a : Nat} {i : Int32} (he : xM[μ]? = some en) (hd : decode en.2.1 pc = .ok (.aaload, 1))  : xR μ pc ls (.int i :: .ref a :: st) σ = (href σ a).bind (fun q => if xin i q.2.1 = true ∧ (q.1 = 2 ∨ q.1 = 3) then xR μ (pc + 1) ls (va_rf (q.2.2 i.toNatClampNeg) :: st) σ else none) := (y0 he hd).trans (yk_b.trans (by congr 1; funext q; exact yk_if))
theorem y_iast {a : Nat} {i x : Int32} (he : xM[μ]? = some en) (hd : decode en.2.1 pc = .ok (.iastore, 1))  : xR μ pc ls (.int x :: .int i :: .ref a :: st) σ = (hint σ 0 a).bind (fun q => if xin i q.1 = true then xR μ (pc + 1) ls st (hup σ a (.inl (0, q.1, .inl (upd q.2 i.toNatClampNeg x)))) else none) := (y0 he hd).trans (yk_b.trans (by congr 1; funext q; exact yk_if))
theorem y_aast {a v : Nat} {i : Int32} (he : xM[μ]? = some en) (hd : decode en.2.1 pc = .ok (.aastore, 1))  : xR μ pc ls (.ref v :: .int i :: .ref a :: st) σ = (href σ a).bind (fun q => if xin i q.2.1 = true ∧ (hcls σ v).bind xelt = some q.1 then xR μ (pc + 1) ls st (hup σ a (.inl (q.1, q.2.1, .inr (.inr (.inr (.inr (va_up q.2.2 i.toNatClampNeg (some v)))))))) else none) := (y0 he hd).trans (yk_b.trans (by congr 1; funext q; exact yk_if))
theorem y_newaI {n : Int32} (he : xM[μ]? = some en) (hd : decode en.2.1 pc = .ok (.newarray .int, 2))  : xR μ pc ls (.int n :: st) σ = if ¬ n < 0 ∧ n.toNatClampNeg ≤ 10000 ∧ σ.2.2.1 = 0 ∧ σ.2.1 < 999 then xR μ (pc + 2) ls (.ref σ.2.1 :: st) (hnew σ (.inl (0, n.toNatClampNeg, .inl (fun _ => 0))) n.toNatClampNeg) else none := (y0 he hd).trans yk_if
theorem y_anew {n : Int32} {k ci pl t : Nat} (he : xM[μ]? = some en) (hd : decode en.2.1 pc = .ok (.anewarray k, 3)) (hq : xfind xNL en.2.2.2.2.1 k = some (ci, pl)) (ht : xelt ci = some t) : xR μ pc ls (.int n :: st) σ = if ¬ n < 0 ∧ n.toNatClampNeg ≤ 10000 ∧ σ.2.2.1 = 0 ∧ σ.2.1 < 999 then xR μ (pc + 3) ls (.ref σ.2.1 :: st) (hnew σ (.inl (t, n.toNatClampNeg, .inr (.inr (.inr (.inr (fun _ => none)))))) n.toNatClampNeg) else none := by
  rw [y0 he hd]
  show xK μ pc ((xfind xNL en.2.2.2.2.1 k).bind _) = _
  rw [hq]
  show xK μ pc ((xelt ci).bind _) = _
  rw [ht]
  exact yk_if
theorem y_new {k ci pl : Nat} (he : xM[μ]? = some en) (hd : decode en.2.1 pc = .ok (.new k, 3)) (hq : xfind xNL en.2.2.2.2.1 k = some (ci, pl)) : xR μ pc ls (st) σ = if σ.2.2.1 = 0 ∧ σ.2.1 < 999 then xR μ (pc + 3) ls (.ref σ.2.1 :: st) (hnew σ (.inr (ci, xblk ci)) (xblk ci).length) else none := by
  rw [y0 he hd]
  show xK μ pc (match xfind xNL en.2.2.2.2.1 k with
    | some q => if σ.2.2.1 = 0 ∧ σ.2.1 < 999 then xnx (pc + 3) ls (.ref σ.2.1 :: st) (hnew σ (.inr (q.1, xblk q.1)) (xblk q.1).length) else none
    | none => _) = _
  rw [hq]
  exact yk_if
theorem y_throw {k x pl : Nat} (he : xM[μ]? = some en) (hd : decode en.2.1 pc = .ok (.new k, 3)) (hn : xfind xNL en.2.2.2.2.1 k = none) (hq : xfind xXL en.2.2.2.2.1 k = some (x, pl)) (hth : xths en pc k x = true) : xR μ pc ls ([]) σ = some (.inr x, (σ.1, (σ.2.1, σ.2.2.1 + 1, σ.2.2.2 + 6))) := by
  rw [y0 he hd]
  show xK μ pc (match xfind xNL en.2.2.2.2.1 k with
    | some q => _
    | none => (xfind xXL en.2.2.2.2.1 k).bind fun q => if xths en pc k q.1 = true ∧ xwid [] ≤ 8 then some (.inr (.inr (.inr (q.1, (σ.1, (σ.2.1, σ.2.2.1 + 1, σ.2.2.2 + 6)))))) else none) = _
  rw [hn, hq]
  show xK μ pc (if xths en pc k x = true ∧ xwid [] ≤ 8 then _ else none) = _
  rw [if_pos ⟨hth, Nat.zero_le _⟩]
  rfl
theorem y_max {k ν n p1 p2 p3 p4 : Nat} {x y : Int32} (he : xM[μ]? = some en) (hd : decode en.2.1 pc = .ok (.invokestatic k, 3)) (hq : xfind xCL en.2.2.2.2.1 k = some (8, ν, n, p1, p2, p3, p4)) (hr : 1 ≤ en.2.2.2.2.2.1 ∧ 30 ≤ en.2.2.2.2.2.2.1) : xR μ pc ls (.int y :: .int x :: st) σ = if xwid st ≤ 8 then xR μ (pc + 3) ls (.int (if x < y then y else x) :: st) σ else none := by
  rw [y0 he hd]
  show xK μ pc ((xfind xCL en.2.2.2.2.1 k).bind _) = _
  rw [hq]
  show xK μ pc (if xwid st ≤ 8 ∧ 1 ≤ en.2.2.2.2.2.1 ∧ 30 ≤ en.2.2.2.2.2.2.1 then xnx (pc + 3) ls (.int (if x < y then y else x) :: st) σ else none) = _
  by_cases h : xwid st ≤ 8
  · rw [if_pos ⟨h, hr⟩, if_pos h]; rfl
  · rw [if_neg (fun q => h q.1), if_neg h]; rfl
theorem y_min {k ν n p1 p2 p3 p4 : Nat} {x y : Int32} (he : xM[μ]? = some en) (hd : decode en.2.1 pc = .ok (.invokestatic k, 3)) (hq : xfind xCL en.2.2.2.2.1 k = some (9, ν, n, p1, p2, p3, p4)) (hr : 1 ≤ en.2.2.2.2.2.1 ∧ 30 ≤ en.2.2.2.2.2.2.1) : xR μ pc ls (.int y :: .int x :: st) σ = if xwid st ≤ 8 then xR μ (pc + 3) ls (.int (if y < x then y else x) :: st) σ else none := by
  rw [y0 he hd]
  show xK μ pc ((xfind xCL en.2.2.2.2.1 k).bind _) = _
  rw [hq]
  show xK μ pc (if xwid st ≤ 8 ∧ 1 ≤ en.2.2.2.2.2.1 ∧ 30 ≤ en.2.2.2.2.2.2.1 then xnx (pc + 3) ls (.int (if y < x then y else x) :: st) σ else none) = _
  by_cases h : xwid st ≤ 8
  · rw [if_pos ⟨h, hr⟩, if_pos h]; rfl
  · rw [if_neg (fun q => h q.1), if_neg h]; rfl
theorem y_d2r {k ν n p1 p2 p3 p4 : Nat} {x : UInt64} (he : xM[μ]? = some en) (hd : decode en.2.1 pc = .ok (.invokestatic k, 3)) (hq : xfind xCL en.2.2.2.2.1 k = some (6, ν, n, p1, p2, p3, p4)) (hr : 1 ≤ en.2.2.2.2.2.1 ∧ 30 ≤ en.2.2.2.2.2.2.1) : xR μ pc ls (.double x :: st) σ = if xwid st ≤ 8 then xR μ (pc + 3) ls (.long x.toInt64 :: st) σ else none := by
  rw [y0 he hd]
  show xK μ pc ((xfind xCL en.2.2.2.2.1 k).bind _) = _
  rw [hq]
  show xK μ pc (if xwid st ≤ 8 ∧ 1 ≤ en.2.2.2.2.2.1 ∧ 30 ≤ en.2.2.2.2.2.2.1 then xnx (pc + 3) ls (.long x.toInt64 :: st) σ else none) = _
  by_cases h : xwid st ≤ 8
  · rw [if_pos ⟨h, hr⟩, if_pos h]; rfl
  · rw [if_neg (fun q => h q.1), if_neg h]; rfl
theorem y_f2r {k ν n p1 p2 p3 p4 : Nat} {x : UInt32} (he : xM[μ]? = some en) (hd : decode en.2.1 pc = .ok (.invokestatic k, 3)) (hq : xfind xCL en.2.2.2.2.1 k = some (7, ν, n, p1, p2, p3, p4)) (hr : 1 ≤ en.2.2.2.2.2.1 ∧ 30 ≤ en.2.2.2.2.2.2.1) : xR μ pc ls (.float x :: st) σ = if xwid st ≤ 8 then xR μ (pc + 3) ls (.int x.toInt32 :: st) σ else none := by
  rw [y0 he hd]
  show xK μ pc ((xfind xCL en.2.2.2.2.1 k).bind _) = _
  rw [hq]
  show xK μ pc (if xwid st ≤ 8 ∧ 1 ≤ en.2.2.2.2.2.1 ∧ 30 ≤ en.2.2.2.2.2.2.1 then xnx (pc + 3) ls (.int x.toInt32 :: st) σ else none) = _
  by_cases h : xwid st ≤ 8
  · rw [if_pos ⟨h, hr⟩, if_pos h]; rfl
  · rw [if_neg (fun q => h q.1), if_neg h]; rfl
theorem y_oinit {k ν n p1 p2 p3 p4 a : Nat} (he : xM[μ]? = some en) (hd : decode en.2.1 pc = .ok (.invokespecial k, 3)) (hq : xfind xCL en.2.2.2.2.1 k = some (4, ν, n, p1, p2, p3, p4)) (hr : 1 ≤ en.2.2.2.2.2.1 ∧ 20 ≤ en.2.2.2.2.2.2.1) : xR μ pc ls (.ref a :: st) σ = if xwid st ≤ 8 then xR μ (pc + 3) ls st σ else none := by
  rw [y0 he hd]
  show xK μ pc ((xfind xCL en.2.2.2.2.1 k).bind _) = _
  rw [hq]
  show xK μ pc (if xwid st ≤ 8 ∧ 1 ≤ en.2.2.2.2.2.1 ∧ 20 ≤ en.2.2.2.2.2.2.1 then xnx (pc + 3) ls st σ else none) = _
  by_cases h : xwid st ≤ 8
  · rw [if_pos ⟨h, hr⟩, if_pos h]; rfl
  · rw [if_neg (fun q => h q.1), if_neg h]; rfl
theorem y_copy {k ν n p1 p2 p3 p4 a a0 : Nat} {len sp dp : Int32} {N : Nat} {f g : Nat → Int32} (he : xM[μ]? = some en) (hd : decode en.2.1 pc = .ok (.invokestatic k, 3)) (hq : xfind xCL en.2.2.2.2.1 k = some (5, ν, n, p1, p2, p3, p4)) (hr : 1 ≤ en.2.2.2.2.2.1 ∧ 30 ≤ en.2.2.2.2.2.2.1) (hsd : sp = 0 ∧ dp = 0) (hn : ¬ len < 0 ∧ len.toNatClampNeg = N) (h0 : hint σ 0 a0 = some (N, f)) (h1 : hint σ 0 a = some (N, g)) (hw : xwid st ≤ 8) : xR μ pc ls (.int len :: .int dp :: .ref a :: .int sp :: .ref a0 :: st) σ = xR μ (pc + 3) ls st (hup σ a (.inl (0, N, .inl f))) := by
  obtain ⟨rfl, rfl⟩ := hsd
  rw [y0 he hd]
  show xK μ pc ((xfind xCL en.2.2.2.2.1 k).bind _) = _
  rw [hq]
  show xK μ pc ((hint σ 0 a0).bind fun q0 => (hint σ 0 a).bind fun q1 => if (0 : Int32) = 0 ∧ (0 : Int32) = 0 ∧ ¬ len < 0 ∧ len.toNatClampNeg = q0.1 ∧ q1.1 = q0.1 ∧ xwid st ≤ 8 ∧ 1 ≤ en.2.2.2.2.2.1 ∧ 30 ≤ en.2.2.2.2.2.2.1 then xnx (pc + 3) ls st (hup σ a (.inl (0, q0.1, .inl q0.2))) else none) = _
  rw [h0, h1]
  show xK μ pc (if _ then _ else none) = _
  rw [if_pos ⟨rfl, rfl, hn.1, hn.2, rfl, hw, hr⟩]
  rfl
theorem y_cS {k ν n p1 p2 p3 p4 : Nat} {f : xMe} {as st0 : List Value}  (he : xM[μ]? = some en) (hd : decode en.2.1 pc = .ok (.invokestatic k, 3)) (hq : xfind xCL en.2.2.2.2.1 k = some (0, ν, n, p1, p2, p3, p4)) (hp : xpop n st0 = some (as, st)) (hf : xM[ν]? = some f) (hrm : (f.2.2.2.2.2.1 + 1 ≤ en.2.2.2.2.2.1 ∧ 8 + (f.2.2.1 + 11) + f.2.2.2.2.2.2.1 ≤ en.2.2.2.2.2.2.1)) (hs : (xspr as).length ≤ f.2.2.1) (hk : en.2.2.2.2.2.2.2 ≠ 2) : xR μ pc ls st0 σ = yC (xwid st) (xC1 ν as σ) (fun v τ => xR μ (pc + 3) ls (v.toList ++ st) τ) := by
  rw [y0 he hd]
  show xK μ pc ((xfind xCL en.2.2.2.2.1 k).bind _) = _
  rw [hq]
  show xK μ pc ((xpop n st0).bind _) = _
  rw [hp]
  exact yk_cal hf hrm hs he hk
theorem y_cN {k ν n p1 p2 p3 p4 : Nat} {f : xMe} {as st0 : List Value}  (he : xM[μ]? = some en) (hd : decode en.2.1 pc = .ok (.invokestatic k, 3)) (hq : xfind xCL en.2.2.2.2.1 k = some (3, ν, n, p1, p2, p3, p4)) (hp : xpop n st0 = some (as, st)) (hf : xM[ν]? = some f) (hrm : (f.2.2.2.2.2.1 + 1 ≤ en.2.2.2.2.2.1 ∧ 8 + (f.2.2.1 + 11) + f.2.2.2.2.2.2.1 ≤ en.2.2.2.2.2.2.1)) (hs : (xspr as).length ≤ f.2.2.1) (hk : en.2.2.2.2.2.2.2 ≠ 2) : xR μ pc ls st0 σ = yC (xwid st) (xC1 ν as σ) (fun v τ => xR μ (pc + 3) ls (v.toList ++ st) τ) := by
  rw [y0 he hd]
  show xK μ pc ((xfind xCL en.2.2.2.2.1 k).bind _) = _
  rw [hq]
  show xK μ pc ((xpop n st0).bind _) = _
  rw [hp]
  exact yk_cal hf hrm hs he hk
theorem y_cV {k ν n p1 p2 p3 p4 : Nat} {f : xMe} {as st0 : List Value} {a ci : Nat} {as2 : List Value} {r : vw_C} (he : xM[μ]? = some en) (hd : decode en.2.1 pc = .ok (.invokevirtual k, 3)) (hq : xfind xCL en.2.2.2.2.1 k = some (1, ν, n, p1, p2, p3, p4)) (ha : as = .ref a :: as2) (hp : xpop n st0 = some (as2, .ref a :: st)) (hr : vwCl[ci]? = some r) (hn : r.1 = f.1.cls) (hf : xM[ν]? = some f) (hrm : (f.2.2.2.2.2.1 + 1 ≤ en.2.2.2.2.2.1 ∧ 8 + (f.2.2.1 + 11) + f.2.2.2.2.2.2.1 ≤ en.2.2.2.2.2.2.1)) (hs : (xspr as).length ≤ f.2.2.1) (hk : en.2.2.2.2.2.2.2 ≠ 2) : xR μ pc ls st0 σ = yV (hcls σ a) ci (xwid st) (xC1 ν as σ) (fun v τ => xR μ (pc + 3) ls (v.toList ++ st) τ) := by
  subst ha
  rw [y0 he hd]
  show xK μ pc ((xfind xCL en.2.2.2.2.1 k).bind _) = _
  rw [hq]
  show xK μ pc ((xpop n st0).bind _) = _
  rw [hp]
  exact yk_calv hr hn hf hrm hs he hk
theorem y_cI {k ν n p1 p2 p3 p4 : Nat} {f : xMe} {as st0 : List Value} {a : Nat} {as2 : List Value} (he : xM[μ]? = some en) (hd : decode en.2.1 pc = .ok (.invokespecial k, 3)) (hq : xfind xCL en.2.2.2.2.1 k = some (2, ν, n, p1, p2, p3, p4)) (ha : as = .ref a :: as2) (hp : xpop n st0 = some (as2, .ref a :: st)) (hf : xM[ν]? = some f) (hrm : (f.2.2.2.2.2.1 + 1 ≤ en.2.2.2.2.2.1 ∧ 8 + (f.2.2.1 + 11) + f.2.2.2.2.2.2.1 ≤ en.2.2.2.2.2.2.1)) (hs : (xspr as).length ≤ f.2.2.1) (hk : en.2.2.2.2.2.2.2 ≠ 2) : xR μ pc ls st0 σ = yC (xwid st) (xC1 ν as σ) (fun v τ => xR μ (pc + 3) ls (v.toList ++ st) τ) := by
  subst ha
  rw [y0 he hd]
  show xK μ pc ((xfind xCL en.2.2.2.2.1 k).bind _) = _
  rw [hq]
  show xK μ pc ((xpop n st0).bind _) = _
  rw [hp]
  exact yk_cal hf hrm hs he hk
theorem y_iret {x : Int32} (he : xM[μ]? = some en) (hd : decode en.2.1 pc = .ok (.ireturn, 1)) (hr : en.2.2.2.1 = some .int) : xR μ pc ls ([.int x]) σ = some (.inl (some (.int x)), σ) := by
  rw [y0 he hd]
  show xK μ pc (match en.2.2.2.1 with
    | some .int => xret (some (.int x)) σ
    | some .boolean => if x = 0 ∨ x = 1 then xret (some (.int x)) σ else none
    | _ => none) = _
  rw [hr]
  rfl
theorem y_zret {x : Int32} (he : xM[μ]? = some en) (hd : decode en.2.1 pc = .ok (.ireturn, 1)) (hr : en.2.2.2.1 = some .boolean) : xR μ pc ls ([.int x]) σ = if x = 0 ∨ x = 1 then some (.inl (some (.int x)), σ) else none := by
  rw [y0 he hd]
  show xK μ pc (match en.2.2.2.1 with
    | some .int => xret (some (.int x)) σ
    | some .boolean => if x = 0 ∨ x = 1 then xret (some (.int x)) σ else none
    | _ => none) = _
  rw [hr]
  exact yk_if
theorem y_lret {x : Int64} (he : xM[μ]? = some en) (hd : decode en.2.1 pc = .ok (.lreturn, 1)) (hr : en.2.2.2.1 = some .long) : xR μ pc ls ([.long x]) σ = some (.inl (some (.long x)), σ) := by
  rw [y0 he hd]
  show xK μ pc (match en.2.2.2.1 with
    | some .long => xret (some (.long x)) σ
    | _ => none) = _
  rw [hr]
  rfl
theorem y_fret {x : UInt32} (he : xM[μ]? = some en) (hd : decode en.2.1 pc = .ok (.freturn, 1)) (hr : en.2.2.2.1 = some .float) : xR μ pc ls ([.float x]) σ = some (.inl (some (.float x)), σ) := by
  rw [y0 he hd]
  show xK μ pc (match en.2.2.2.1 with
    | some .float => xret (some (.float x)) σ
    | _ => none) = _
  rw [hr]
  rfl
theorem y_dret {x : UInt64} (he : xM[μ]? = some en) (hd : decode en.2.1 pc = .ok (.dreturn, 1)) (hr : en.2.2.2.1 = some .double) : xR μ pc ls ([.double x]) σ = some (.inl (some (.double x)), σ) := by
  rw [y0 he hd]
  show xK μ pc (match en.2.2.2.1 with
    | some .double => xret (some (.double x)) σ
    | _ => none) = _
  rw [hr]
  rfl
theorem y_vret  (he : xM[μ]? = some en) (hd : decode en.2.1 pc = .ok (.return_, 1)) (hr : en.2.2.2.1 = none) : xR μ pc ls ([]) σ = some (.inl none, σ) := by
  rw [y0 he hd]
  show xK μ pc (match en.2.2.2.1 with
    | none => xret none σ
    | _ => none) = _
  rw [hr]
  rfl
end YO
