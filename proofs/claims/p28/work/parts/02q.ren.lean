/-! ===== the interpreter doesn't care which places are which: places renamed ===== -/
/-- the places of the two objects of the law, exchanged -/
def zsw (k : Nat) : Nat := if k < 70 then k + 70 else if k < 140 then k - 70 else k
theorem zsw_sw (k : Nat) : zsw (zsw k) = k := by
  unfold zsw
  by_cases h : k < 70
  · rw [if_pos h, if_neg (by omega), if_pos (by omega)]; omega
  · rw [if_neg h]
    by_cases h2 : k < 140
    · rw [if_pos h2, if_pos (by omega)]; omega
    · rw [if_neg h2, if_neg h, if_neg h2]
theorem zsw_iff {a k : Nat} : (k = zsw a) = (zsw k = a) := by
  refine propext ⟨fun h => ?_, fun h => ?_⟩
  · rw [h, zsw_sw]
  · rw [← h, zsw_sw]
theorem zsw_big {k : Nat} (h : 140 ≤ k) : zsw k = k := by
  unfold zsw; rw [if_neg (by omega), if_neg (by omega)]
def rnV : Value → Value
  | .ref k => .ref (zsw k)
  | v => v
def rnL (ls : xL) : xL := ls.map (fun o => o.map rnV)
def rnT (st : List Value) : List Value := st.map rnV
def rnA : Nat × vp_A → Nat × vp_A
  | (t, n, .inr (.inr (.inr (.inr f)))) => (t, n, .inr (.inr (.inr (.inr (fun j => (f j).map zsw)))))
  | a => a
def rnC : xC → xC
  | .inl a => .inl (rnA a)
  | .inr o => .inr (o.1, rnT o.2)
def rnS (σ : xS) : xS := (fun k => (σ.1 (zsw k)).map rnC, σ.2)
def rnX : xA → xA
  | .inl (pc, ls, st, σ) => .inl (pc, rnL ls, rnT st, rnS σ)
  | .inr (.inl (v, σ)) => .inr (.inl (v.map rnV, rnS σ))
  | .inr (.inr (.inl (ν, as, pc, ls, st, σ))) => .inr (.inr (.inl (ν, rnT as, pc, rnL ls, rnT st, rnS σ)))
  | .inr (.inr (.inr (x, σ))) => .inr (.inr (.inr (x, rnS σ)))
def rnO : xO → xO
  | (.inl v, σ) => (.inl (v.map rnV), rnS σ)
  | (.inr x, σ) => (.inr x, rnS σ)
section RN
variable {α β γ : Type} {F : α → β}
theorem pV_r {st : List Value} {k' : Value → List Value → Option β} {k : Value → List Value → Option α} (h : ∀ v r, k' (rnV v) (rnT r) = (k v r).map F) : pV (rnT st) k' = (pV st k).map F := by
  cases st with
  | nil => rfl
  | cons v r => exact h v r
theorem pI_r {st : List Value} {k' : Int32 → List Value → Option β} {k : Int32 → List Value → Option α} (h : ∀ v r, k' v (rnT r) = (k v r).map F) : pI (rnT st) k' = (pI st k).map F := by
  cases st with
  | nil => rfl
  | cons v r => cases v <;> first | exact h _ r | rfl
theorem pL_r {st : List Value} {k' : Int64 → List Value → Option β} {k : Int64 → List Value → Option α} (h : ∀ v r, k' v (rnT r) = (k v r).map F) : pL (rnT st) k' = (pL st k).map F := by
  cases st with
  | nil => rfl
  | cons v r => cases v <;> first | exact h _ r | rfl
theorem pF_r {st : List Value} {k' : UInt32 → List Value → Option β} {k : UInt32 → List Value → Option α} (h : ∀ v r, k' v (rnT r) = (k v r).map F) : pF (rnT st) k' = (pF st k).map F := by
  cases st with
  | nil => rfl
  | cons v r => cases v <;> first | exact h _ r | rfl
theorem pD_r {st : List Value} {k' : UInt64 → List Value → Option β} {k : UInt64 → List Value → Option α} (h : ∀ v r, k' v (rnT r) = (k v r).map F) : pD (rnT st) k' = (pD st k).map F := by
  cases st with
  | nil => rfl
  | cons v r => cases v <;> first | exact h _ r | rfl
theorem pA_r {st : List Value} {k' : Nat → List Value → Option β} {k : Nat → List Value → Option α} (h : ∀ v r, k' (zsw v) (rnT r) = (k v r).map F) : pA (rnT st) k' = (pA st k).map F := by
  cases st with
  | nil => rfl
  | cons v r => cases v <;> first | exact h _ r | rfl
theorem pZ_r {st : List Value} {k' : Option β} {k : Option α} (h : k' = k.map F) : pZ (rnT st) k' = (pZ st k).map F := by
  cases st with
  | nil => exact h
  | cons v r => rfl
theorem gI_r {v : Option Value} {k' : Int32 → Option β} {k : Int32 → Option α} (h : ∀ x, k' x = (k x).map F) : gI (v.map rnV) k' = (gI v k).map F := by
  cases v with
  | none => rfl
  | some v => cases v <;> first | exact h _ | rfl
theorem gL_r {v : Option Value} {k' : Int64 → Option β} {k : Int64 → Option α} (h : ∀ x, k' x = (k x).map F) : gL (v.map rnV) k' = (gL v k).map F := by
  cases v with
  | none => rfl
  | some v => cases v <;> first | exact h _ | rfl
theorem gF_r {v : Option Value} {k' : UInt32 → Option β} {k : UInt32 → Option α} (h : ∀ x, k' x = (k x).map F) : gF (v.map rnV) k' = (gF v k).map F := by
  cases v with
  | none => rfl
  | some v => cases v <;> first | exact h _ | rfl
theorem gD_r {v : Option Value} {k' : UInt64 → Option β} {k : UInt64 → Option α} (h : ∀ x, k' x = (k x).map F) : gD (v.map rnV) k' = (gD v k).map F := by
  cases v with
  | none => rfl
  | some v => cases v <;> first | exact h _ | rfl
theorem gA_r {v : Option Value} {k' : Nat → Option β} {k : Nat → Option α} (h : ∀ x, k' (zsw x) = (k x).map F) : gA (v.map rnV) k' = (gA v k).map F := by
  cases v with
  | none => rfl
  | some v => cases v <;> first | exact h _ | rfl
theorem bd_r {δ : Type} {G : γ → δ} {o : Option γ} {k' : δ → Option β} {k : γ → Option α} (h : ∀ x, k' (G x) = (k x).map F) : (o.map G).bind k' = (o.bind k).map F := by
  cases o with
  | none => rfl
  | some x => exact h x
theorem bd_i {o : Option γ} {k' : γ → Option β} {k : γ → Option α} (h : ∀ x, k' x = (k x).map F) : o.bind k' = (o.bind k).map F := by
  cases o with
  | none => rfl
  | some x => exact h x
theorem if_r {c : Prop} [Decidable c] {x' : Option β} {x : Option α} (h : x' = x.map F) : (if c then x' else none) = (if c then x else none).map F := by
  split
  · exact h
  · rfl
theorem if2_r {c : Prop} [Decidable c] {x' y' : Option β} {x y : Option α} (h : x' = x.map F) (h2 : y' = y.map F) : (if c then x' else y') = (if c then x else y).map F := by
  split
  · exact h
  · exact h2
end RN
theorem rnV_cat (v : Value) : (rnV v).category = v.category := by cases v <;> rfl
theorem rnV_lkl (o : Option Value) : lkl (o.map rnV) = (lkl o).map rnV := by
  cases o with
  | none => rfl
  | some v => cases v <;> rfl
theorem lget_r : ∀ (ls : xL) (k : Nat), lget (rnL ls) k = (lget ls k).map rnV
  | [], _ => rfl
  | a :: l, 0 => rfl
  | a :: l, k + 1 => lget_r l k
theorem lst1_r : ∀ (ls : xL) (k : Nat) (v : Option Value), lst1 (rnL ls) k (v.map rnV) = (lst1 ls k v).map rnL
  | [], _, _ => rfl
  | _ :: l, 0, v => rfl
  | a :: l, 1, v => by
    have := lst1_r l 0 v
    show (lst1 (rnL l) 0 (v.map rnV)).map (fun l' => lkl (a.map rnV) :: l') = ((lst1 l 0 v).map (fun l' => lkl a :: l')).map rnL
    rw [this, rnV_lkl]
    cases lst1 l 0 v <;> rfl
  | a :: l, k + 2, v => by
    have := lst1_r l (k + 1) v
    show (lst1 (rnL l) (k + 1) (v.map rnV)).map (fun l' => a.map rnV :: l') = ((lst1 l (k + 1) v).map (fun l' => a :: l')).map rnL
    rw [this]
    cases lst1 l (k + 1) v <;> rfl
theorem lst2_r : ∀ (ls : xL) (k : Nat) (v : Value), lst2 (rnL ls) k (rnV v) = (lst2 ls k v).map rnL
  | [], _, _ => rfl
  | _ :: l, 0, v => by cases l <;> rfl
  | a :: l, 1, v => by
    have := lst2_r l 0 v
    show (lst2 (rnL l) 0 (rnV v)).map (fun l' => lkl (a.map rnV) :: l') = ((lst2 l 0 v).map (fun l' => lkl a :: l')).map rnL
    rw [this, rnV_lkl]
    cases lst2 l 0 v <;> rfl
  | a :: l, k + 2, v => by
    have := lst2_r l (k + 1) v
    show (lst2 (rnL l) (k + 1) (rnV v)).map (fun l' => a.map rnV :: l') = ((lst2 l (k + 1) v).map (fun l' => a :: l')).map rnL
    rw [this]
    cases lst2 l (k + 1) v <;> rfl
theorem xwid_r (st : List Value) : xwid (rnT st) = xwid st := by
  induction st with
  | nil => rfl
  | cons v st ih =>
    show (rnV v).category + xwid (rnT st) = _
    rw [rnV_cat, ih]; rfl
theorem xpop_r : ∀ (n : Nat) (st : List Value), xpop n (rnT st) = (xpop n st).map (fun w => (rnT w.1, rnT w.2))
  | 0, st => rfl
  | n + 1, [] => rfl
  | n + 1, v :: st => by
    have := xpop_r n st
    show (xpop n (rnT st)).map (fun q => (q.1 ++ [rnV v], q.2)) = _
    rw [this]
    show _ = ((xpop n st).map (fun q => (q.1 ++ [v], q.2))).map _
    cases xpop n st with
    | none => rfl
    | some w =>
      show some (rnT w.1 ++ [rnV v], rnT w.2) = some (rnT (w.1 ++ [v]), rnT w.2)
      unfold rnT
      rw [List.map_append]; rfl
theorem xspr_r (as : List Value) : xspr (rnT as) = rnL (xspr as) := by
  induction as with
  | nil => rfl
  | cons v as ih =>
    cases v <;> (show _ :: _ = _; first | (rw [show (List.map rnV as) = rnT as from rfl, ih]; rfl) | skip)
theorem xini_r (n : Nat) (as : List Value) : xini n (rnT as) = rnL (xini n as) := by
  unfold xini
  rw [xspr_r]
  unfold rnL
  rw [List.map_append, List.length_map, List.map_replicate]
  rfl
-- the heap
theorem rnS_1 (σ : xS) (a : Nat) : (rnS σ).1 (zsw a) = (σ.1 a).map rnC := by
  show (σ.1 (zsw (zsw a))).map rnC = _
  rw [zsw_sw]
theorem hobj_r (σ : xS) (a : Nat) : hobj (rnS σ) (zsw a) = (hobj σ a).map (fun o => (o.1, rnT o.2)) := by
  unfold hobj
  rw [rnS_1]
  cases σ.1 a with
  | none => rfl
  | some c => cases c <;> rfl
theorem hcls_r (σ : xS) (a : Nat) : hcls (rnS σ) (zsw a) = hcls σ a := by
  unfold hcls
  rw [hobj_r]
  cases hobj σ a <;> rfl
theorem rnT_get (l : List Value) (k : Nat) : (rnT l)[k]? = (l[k]?).map rnV := List.getElem?_map
theorem hfld_r (σ : xS) (a ci k : Nat) : hfld (rnS σ) (zsw a) ci k = (hfld σ a ci k).map rnV := by
  unfold hfld
  rw [hobj_r]
  refine bd_r (fun o => ?_)
  dsimp only
  split
  · exact rnT_get o.2 k
  · rfl
theorem hup_r (σ : xS) (a : Nat) (c : xC) : hup (rnS σ) (zsw a) (rnC c) = rnS (hup σ a c) := by
  refine Prod.ext (funext fun k => ?_) rfl
  show (if k = zsw a then some (rnC c) else (σ.1 (zsw k)).map rnC) = ((if zsw k = a then some c else σ.1 (zsw k))).map rnC
  by_cases h : zsw k = a
  · rw [if_pos h, if_pos (by rw [zsw_iff]; exact h)]; rfl
  · rw [if_neg h, if_neg (by rw [zsw_iff]; exact h)]
theorem hfst_r (σ : xS) (a ci k : Nat) (v : Value) : hfst (rnS σ) (zsw a) ci k (rnV v) = (hfst σ a ci k v).map rnS := by
  unfold hfst
  rw [hobj_r]
  refine bd_r (fun o => ?_)
  dsimp only
  rw [show (rnT o.2).length = o.2.length from List.length_map ..]
  refine if_r ?_
  show some _ = some _
  congr 1
  refine Eq.trans ?_ (hup_r σ a (.inr (ci, o.2.set k v)))
  congr 1
  show (Sum.inr (ci, (rnT o.2).set k (rnV v)) : xC) = Sum.inr (ci, rnT (o.2.set k v))
  unfold rnT
  rw [List.map_set]
theorem hint_r (σ : xS) (t a : Nat) : hint (rnS σ) t (zsw a) = hint σ t a := by
  unfold hint
  rw [rnS_1]
  cases σ.1 a with
  | none => rfl
  | some c =>
    cases c with
    | inr o => rfl
    | inl q => obtain ⟨t', n, f | f | f | f | f⟩ := q <;> rfl
theorem hlng_r (σ : xS) (t a : Nat) : hlng (rnS σ) t (zsw a) = hlng σ t a := by
  unfold hlng
  rw [rnS_1]
  cases σ.1 a with
  | none => rfl
  | some c =>
    cases c with
    | inr o => rfl
    | inl q => obtain ⟨t', n, f | f | f | f | f⟩ := q <;> rfl
theorem href_r (σ : xS) (a : Nat) : href (rnS σ) (zsw a) = (href σ a).map (fun q => (q.1, q.2.1, fun j => (q.2.2 j).map zsw)) := by
  unfold href
  rw [rnS_1]
  cases σ.1 a with
  | none => rfl
  | some c =>
    cases c with
    | inr o => rfl
    | inl q => obtain ⟨t', n, f | f | f | f | f⟩ := q <;> rfl
theorem hnew_r (σ : xS) (c : xC) (sl : Nat) (h : 140 ≤ σ.2.1) : hnew (rnS σ) (rnC c) sl = rnS (hnew σ c sl) := by
  refine Prod.ext (funext fun k => ?_) rfl
  show (if k = σ.2.1 then some (rnC c) else (σ.1 (zsw k)).map rnC) = ((if zsw k = σ.2.1 then some c else σ.1 (zsw k))).map rnC
  have e : (k = σ.2.1) = (zsw k = σ.2.1) := by
    have := zsw_iff (a := σ.2.1) (k := k)
    rwa [zsw_big h] at this
  by_cases hk : zsw k = σ.2.1
  · rw [if_pos hk, if_pos (by rw [e]; exact hk)]; rfl
  · rw [if_neg hk, if_neg (by rw [e]; exact hk)]
theorem xblk_r (ci : Nat) : rnC (.inr (ci, xblk ci)) = .inr (ci, xblk ci) := by
  match ci with
  | 0 => rfl
  | 1 => rfl
  | 2 => rfl
  | 3 => rfl
  | 4 => rfl
  | 5 => rfl
  | 6 => rfl
  | n + 7 => rfl
theorem varf_r (o : Option Nat) : va_rf (o.map zsw) = rnV (va_rf o) := by cases o <;> rfl
theorem vaup_r (f : Nat → Option Nat) (i v : Nat) : (fun j => (va_up f i (some v) j).map zsw) = va_up (fun j => (f j).map zsw) i (some (zsw v)) := by
  funext j
  unfold va_up
  split <;> rfl
theorem xfit_r (ty : FieldType) (v : Value) : xfit ty (rnV v) = xfit ty v := by cases ty <;> cases v <;> rfl
-- actions
theorem xnx_r (pc : Nat) (ls : xL) (st : List Value) (σ : xS) : xnx pc (rnL ls) (rnT st) (rnS σ) = (xnx pc ls st σ).map rnX := rfl
theorem xgo_r (pc : Nat) (off : Int) (ls : xL) (st : List Value) (σ : xS) : xgo pc off (rnL ls) (rnT st) (rnS σ) = (xgo pc off ls st σ).map rnX := if_r rfl
theorem xIf_r (c : Prop) [Decidable c] (pc : Nat) (off : Int) (ls : xL) (st : List Value) (σ : xS) : xIf c pc off (rnL ls) (rnT st) (rnS σ) = (xIf c pc off ls st σ).map rnX := if_r rfl
theorem xcal_r (e : xMe) (ν : Nat) (as : List Value) (pc : Nat) (ls : xL) (st : List Value) (σ : xS) : xcal e ν (rnT as) pc (rnL ls) (rnT st) (rnS σ) = (xcal e ν as pc ls st σ).map rnX := by
  unfold xcal
  refine bd_i (fun f => ?_)
  rw [xwid_r, xspr_r, show (rnL (xspr as)).length = (xspr as).length from List.length_map ..]
  exact if_r rfl
theorem xret_r (v : Option Value) (σ : xS) : xret (v.map rnV) (rnS σ) = (xret v σ).map rnX := rfl
theorem lst1_rI (ls : xL) (k : Nat) (x : Int32) : lst1 (rnL ls) k (some (.int x)) = (lst1 ls k (some (.int x))).map rnL := lst1_r ls k (some (.int x))
theorem lst1_rA (ls : xL) (k : Nat) (x : Nat) : lst1 (rnL ls) k (some (.ref (zsw x))) = (lst1 ls k (some (.ref x))).map rnL := lst1_r ls k (some (.ref x))
theorem lst2_rL (ls : xL) (k : Nat) (x : Int64) : lst2 (rnL ls) k (.long x) = (lst2 ls k (.long x)).map rnL := lst2_r ls k (.long x)
theorem lst2_rD (ls : xL) (k : Nat) (x : UInt64) : lst2 (rnL ls) k (.double x) = (lst2 ls k (.double x)).map rnL := lst2_r ls k (.double x)
theorem xup_r (pc : Nat) (ls : xL) (st : List Value) (σ : xS) (a : Nat) (c : xC) : xnx pc (rnL ls) (rnT st) (hup (rnS σ) (zsw a) (rnC c)) = (xnx pc ls st (hup σ a c)).map rnX := by
  rw [hup_r]; rfl
theorem xnw_r (pc : Nat) (ls : xL) (st : List Value) (σ : xS) (c : xC) (sl : Nat) (h : 140 ≤ σ.2.1) : xnx pc (rnL ls) (.ref σ.2.1 :: rnT st) (hnew (rnS σ) (rnC c) sl) = (xnx pc ls (.ref σ.2.1 :: st) (hnew σ c sl)).map rnX := by
  rw [hnew_r _ _ _ h]
  show some _ = some _
  congr 1
  show Sum.inl (pc, rnL ls, Value.ref σ.2.1 :: rnT st, rnS (hnew σ c sl)) = (Sum.inl (pc, rnL ls, Value.ref (zsw σ.2.1) :: rnT st, rnS (hnew σ c sl)) : xA)
  rw [zsw_big h]
set_option maxHeartbeats 4000000 in
set_option maxRecDepth 100000 in
theorem xDo_r {e : xMe} {pc len : Nat} {i : Instr} {ls : xL} {st : List Value} {σ : xS} {a : xA} (hn : 140 ≤ σ.2.1) (h : xDo e pc ls st σ i len = some a) : xDo e pc (rnL ls) (rnT st) (rnS σ) i len = some (rnX a) := by
  unfold xDo at h
  split at h
  all_goals first
    | (refine Eq.trans ?_ (congrArg (Option.map rnX) h); simp only [xDo]; first
        | rfl
        | exact if_r rfl
        | exact if2_r rfl (if_r rfl)
        | exact xgo_r _ _ _ _ _
        | (refine bd_i (fun q => ?_); obtain ⟨q1, q2⟩ := q; cases q1 <;> rfl)
        | (rw [lget_r]; first | exact gI_r (fun _ => rfl) | exact gL_r (fun _ => rfl) | exact gF_r (fun _ => rfl) | exact gD_r (fun _ => rfl) | exact gA_r (fun _ => rfl) | (refine gI_r (fun _ => ?_); rw [lst1_rI]; exact bd_r (fun _ => rfl)))
        | exact pI_r (fun _ _ => pI_r (fun _ _ => rfl))
        | exact pI_r (fun _ _ => pI_r (fun _ _ => if2_r rfl rfl))
        | exact pI_r (fun _ _ => pI_r (fun _ _ => xIf_r _ _ _ _ _ _))
        | exact pI_r (fun _ _ => pL_r (fun _ _ => rfl))
        | exact pI_r (fun _ _ => xIf_r _ _ _ _ _ _)
        | exact pI_r (fun _ _ => rfl)
        | exact pI_r (fun _ _ => if_r (xgo_r _ _ _ _ _))
        | exact pI_r (fun _ _ => if2_r (xgo_r _ _ _ _ _) (bd_i (fun _ => xgo_r _ _ _ _ _)))
        | exact pL_r (fun _ _ => pL_r (fun _ _ => rfl))
        | exact pL_r (fun _ _ => rfl)
        | exact pD_r (fun _ _ => rfl)
        | exact pF_r (fun _ _ => if_r rfl)
        | exact pF_r (fun _ _ => pF_r (fun _ _ => if_r rfl))
        | exact pF_r (fun _ _ => pF_r (fun _ _ => rfl))
        | exact pD_r (fun _ _ => pD_r (fun _ _ => if_r rfl))
        | exact pD_r (fun _ _ => pD_r (fun _ _ => rfl))
        | (refine pI_r (fun _ _ => ?_); rw [lst1_rI]; exact bd_r (fun _ => rfl))
        | (refine pA_r (fun _ _ => ?_); rw [lst1_rA]; exact bd_r (fun _ => rfl))
        | (refine pL_r (fun _ _ => ?_); rw [lst2_rL]; exact bd_r (fun _ => rfl))
        | (refine pD_r (fun _ _ => ?_); rw [lst2_rD]; exact bd_r (fun _ => rfl))
        | (refine pV_r (fun v _ => ?_); rw [rnV_cat]; exact if_r rfl)
        | (refine pV_r (fun v _ => ?_); rw [rnV_cat]; refine if2_r rfl (pV_r (fun w _ => ?_)); rw [rnV_cat]; exact if_r rfl)
        | (refine bd_i (fun q => pA_r (fun a r => ?_)); rw [hfld_r]; exact bd_r (fun _ => rfl))
        | (refine bd_i (fun q => pV_r (fun v r => pA_r (fun a r => bd_i (fun ty => ?_)))); rw [xfit_r]; refine if_r ?_; rw [hfst_r]; exact bd_r (fun _ => rfl))
        | (refine pI_r (fun i r => pA_r (fun a r => ?_)); rw [hint_r, hint_r]; cases hint σ 0 a with
            | none => exact bd_i (fun q => if_r rfl)
            | some q => exact if_r rfl)
        | (refine pI_r (fun i r => pA_r (fun a r => ?_)); rw [href_r]; refine bd_r (fun q => if_r ?_); dsimp only; rw [varf_r]; rfl)
        | (refine pI_r (fun x r => pI_r (fun i r => pA_r (fun a r => ?_))); rw [hint_r]; exact bd_i (fun q => if_r (xup_r _ _ _ _ _ (.inl (0, q.1, .inl (upd q.2 i.toNatClampNeg x))))))
        | (refine pA_r (fun v r => pI_r (fun i r => pA_r (fun a r => ?_))); rw [href_r]; refine bd_r (fun q => ?_); rw [hcls_r]; refine if_r ?_; dsimp only; rw [← vaup_r]; exact xup_r _ _ _ _ _ (.inl (q.1, q.2.1, .inr (.inr (.inr (.inr (va_up q.2.2 i.toNatClampNeg (some v))))))))
        | (refine pA_r (fun a r => ?_); rw [hint_r]; exact bd_i (fun q => if_r rfl))
        | (refine pI_r (fun n r => if_r ?_); exact xnw_r _ _ _ _ (.inl (0, n.toNatClampNeg, .inl (fun _ => 0))) _ hn)
        | (refine bd_i (fun q => bd_i (fun t => pI_r (fun n r => if_r ?_))); exact xnw_r _ _ _ _ (.inl (t, n.toNatClampNeg, .inr (.inr (.inr (.inr (fun _ => none)))))) _ hn)
        | (refine pI_r (fun x r => pZ_r ?_); generalize e.2.2.2.1 = rt; cases rt with
            | none => rfl
            | some t => cases t <;> first | rfl | exact if_r rfl)
        | (refine pL_r (fun x r => pZ_r ?_); generalize e.2.2.2.1 = rt; cases rt with
            | none => rfl
            | some t => cases t <;> rfl)
        | (refine pF_r (fun x r => pZ_r ?_); generalize e.2.2.2.1 = rt; cases rt with
            | none => rfl
            | some t => cases t <;> rfl)
        | (refine pD_r (fun x r => pZ_r ?_); generalize e.2.2.2.1 = rt; cases rt with
            | none => rfl
            | some t => cases t <;> rfl)
        | (refine pZ_r ?_; generalize e.2.2.2.1 = rt; cases rt <;> rfl)
        | (rename_i k; cases xfind xNL e.2.2.2.2.1 k with
            | none => refine bd_i (fun q => ?_); rw [xwid_r]; exact if_r rfl
            | some q =>
              have g := xnw_r (pc + 3) ls st σ (.inr (q.1, xblk q.1)) (xblk q.1).length hn
              rw [xblk_r] at g
              exact if_r g)
        | (refine bd_i (fun q => ?_); match q with
            | (0, q) => rw [xpop_r]; exact bd_r (fun w => xcal_r _ _ _ _ _ _ _)
            | (1, q) => rfl
            | (2, q) => rfl
            | (3, q) => rw [xpop_r]; exact bd_r (fun w => xcal_r _ _ _ _ _ _ _)
            | (4, q) => rfl
            | (5, q) =>
              refine pI_r (fun n r => pI_r (fun dp r => pA_r (fun a r => pI_r (fun sp r => pA_r (fun a0 r => ?_)))))
              rw [hint_r, hint_r, xwid_r]
              exact bd_i (fun q0 => bd_i (fun q1 => if_r (xup_r _ _ _ _ _ (.inl (0, q0.1, .inl q0.2)))))
            | (6, q) => refine pD_r (fun x r => ?_); rw [xwid_r]; exact if_r rfl
            | (7, q) => refine pF_r (fun x r => ?_); rw [xwid_r]; exact if_r rfl
            | (8, q) => refine pI_r (fun y r => pI_r (fun x r => ?_)); rw [xwid_r]; exact if_r rfl
            | (9, q) => refine pI_r (fun y r => pI_r (fun x r => ?_)); rw [xwid_r]; exact if_r rfl
            | (10, q) => rfl
            | (11, q) => rw [xpop_r]; exact bd_r (fun w => xcal_r _ _ _ _ _ _ _)
            | (12, q) => rw [xpop_r]; exact bd_r (fun w => if_r (xcal_r _ _ _ _ _ _ _))
            | (n + 13, q) => rfl)
        | (refine bd_i (fun q => ?_); match q with
            | (0, q) => rfl
            | (1, q) => rw [xpop_r]; refine bd_r (fun w => pA_r (fun a r => bd_i (fun f => ?_))); rw [hcls_r]; exact if_r (xcal_r _ _ (.ref a :: w.1) _ _ _ _)
            | (2, q) => rfl
            | (3, q) => rfl
            | (4, q) => rfl
            | (5, q) => rfl
            | (6, q) => rfl
            | (7, q) => rfl
            | (8, q) => rfl
            | (9, q) => rfl
            | (10, q) => rw [xpop_r]; refine bd_r (fun w => pA_r (fun a r => bd_i (fun f => ?_))); rw [hcls_r]; exact if_r (xcal_r _ _ (.ref a :: w.1) _ _ _ _)
            | (n + 11, q) => rfl)
        | (refine bd_i (fun q => ?_); match q with
            | (0, q) => rfl
            | (1, q) => rfl
            | (2, q) => rw [xpop_r]; exact bd_r (fun w => pA_r (fun a r => xcal_r _ _ (.ref a :: w.1) _ _ _ _))
            | (3, q) => rfl
            | (4, q) => refine pA_r (fun a r => ?_); rw [xwid_r]; exact if_r rfl
            | (n + 5, q) => rfl))
    | cases h
theorem xact_r {μ pc : Nat} {ls : xL} {st : List Value} {σ : xS} {a : xA} (hn : 140 ≤ σ.2.1) (h : xact μ pc ls st σ = some a) : xact μ pc (rnL ls) (rnT st) (rnS σ) = some (rnX a) := by
  unfold xact at h ⊢
  obtain ⟨e, h1, h2⟩ := bind_s h
  rw [h1, Option.bind_some]
  split at h2
  · next i len hd => exact xDo_r hn h2
  · cases h2
theorem xput_r (cc : ByteArray) (pc : Nat) (ls : xL) : xput cc pc (rnL ls) = (xput cc pc ls).map (fun q => (q.1, rnL q.2)) := by
  have key : ∀ k j, (lst1 (rnL ls) k none).map (fun l => (j, l)) = ((lst1 ls k none).map (fun l => ((j : Nat), l))).map (fun q => (q.1, rnL q.2)) := by
    intro k j
    have := lst1_r ls k none
    rw [show (none : Option Value).map rnV = none from rfl] at this
    rw [this]
    cases lst1 ls k none <;> rfl
  unfold xput
  split
  · exact key _ _
  · exact key _ _
  · rfl
theorem xcat_r (μ pc x : Nat) (ls : xL) : xcat μ pc x (rnL ls) = (xcat μ pc x ls).map (fun q => (q.1, rnL q.2)) := by
  unfold xcat
  exact bd_i (fun e => bd_i (fun h => xput_r _ _ _))
theorem xrun_r : ∀ (f μ pc : Nat) (ls : xL) (st : List Value) (σ : xS) (o : xO), xWF σ → 140 ≤ σ.2.1 → xrun f μ pc ls st σ = some o → xrun f μ pc (rnL ls) (rnT st) (rnS σ) = some (rnO o) := by
  intro f
  induction f with
  | zero => intro μ pc ls st σ o _ _ h; cases h
  | succ f ih =>
    intro μ pc ls st σ o hWF hn h
    have hen : ∀ a, xact μ pc ls st σ = some a → ∃ en, xM[μ]? = some en := by
      intro a ha
      unfold xact at ha
      obtain ⟨en, h1, -⟩ := bind_s ha
      exact ⟨en, h1⟩
    unfold xrun at h ⊢
    split at h
    · cases h
    · next pc' ls' st' σ' e =>
      rw [xact_r hn e]
      obtain ⟨en, h1⟩ := hen _ e
      obtain ⟨i, len, -, h2⟩ := xact_s e h1
      obtain ⟨⟨-, g1, -⟩, g2⟩ := xext hWF h2
      exact ih _ _ _ _ _ _ g2 (Nat.le_trans hn g1) h
    · next v σ' e =>
      rw [xact_r hn e]
      cases h
      rfl
    · next ν as pc' ls' st' σ' e =>
      rw [xact_r hn e]
      obtain ⟨en, h1⟩ := hen _ e
      obtain ⟨i, len, -, h2⟩ := xact_s e h1
      obtain ⟨f0, -, -, -, -, -, -, rfl, -⟩ := xcall_s h2
      split at h
      · cases h
      · next v σ2 e2 =>
        have g : xrun f ν 0 (rnL (xini (xnl ν) as)) [] (rnS σ') = _ := ih _ _ _ _ _ _ hWF hn e2
        obtain ⟨⟨-, g1, -⟩, g2⟩ := xrun_ext _ _ _ _ _ _ _ _ e2 hWF
        show (match xrun f ν 0 (xini (xnl ν) (rnT as)) [] (rnS σ') with
          | none => none
          | some (.inl v, σ2) => xrun f μ pc' (rnL ls') (v.toList ++ rnT st') σ2
          | some (.inr x, σ2) => (match xcat μ pc x (rnL ls') with
            | some (pc2, l2) => xrun f μ pc2 l2 [] σ2
            | none => none)) = _
        rw [xini_r, g]
        have g3 := ih _ _ _ _ _ _ g2 (Nat.le_trans hn g1) h
        have e4 : rnT (v.toList ++ st') = (v.map rnV).toList ++ rnT st' := by cases v <;> rfl
        rw [e4] at g3
        exact g3
      · next x σ2 e2 =>
        have g : xrun f ν 0 (rnL (xini (xnl ν) as)) [] (rnS σ') = _ := ih _ _ _ _ _ _ hWF hn e2
        obtain ⟨⟨-, g1, -⟩, g2⟩ := xrun_ext _ _ _ _ _ _ _ _ e2 hWF
        show (match xrun f ν 0 (xini (xnl ν) (rnT as)) [] (rnS σ') with
          | none => none
          | some (.inl v, σ2) => xrun f μ pc' (rnL ls') (v.toList ++ rnT st') σ2
          | some (.inr x, σ2) => (match xcat μ pc x (rnL ls') with
            | some (pc2, l2) => xrun f μ pc2 l2 [] σ2
            | none => none)) = _
        rw [xini_r, g]
        split at h
        · next pc2 l2 e3 =>
          show (match xcat μ pc x (rnL ls') with
            | some (pc2, l2) => xrun f μ pc2 l2 [] (rnS σ2)
            | none => none) = _
          rw [xcat_r, e3]
          exact ih _ _ _ _ _ _ g2 (Nat.le_trans hn g1) h
        · cases h
    · next x σ' e =>
      rw [xact_r hn e]
      cases h
      rfl
/-- a call, the places renamed -/
theorem xC1_r {ν : Nat} {as : List Value} {σ : xS} {o : xO} (hWF : xWF σ) (hn : 140 ≤ σ.2.1) (h : xC1 ν as σ = some o) : xC1 ν (rnT as) (rnS σ) = some (rnO o) := by
  obtain ⟨f, hf⟩ := xR_iff.mp h
  have h1 := xrun_r _ _ _ _ _ _ _ hWF hn hf
  unfold xC1
  rw [xini_r]
  exact xR_iff.mpr ⟨f, h1⟩
