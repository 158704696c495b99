/-! ===== the interpreter is sound: what it does the machine does ===== -/
def xad (B b k : Nat) : Nat := if k = 1000 then b else B + k
def xcv (B b : Nat) : Value → Value
  | .ref k => .ref (xad B b k)
  | v => v
def xca (B b : Nat) : ((Nat → Int32) ⊕ (Nat → Int64) ⊕ (Nat → UInt32) ⊕ (Nat → UInt64) ⊕ (Nat → Option Nat)) → ((Nat → Int32) ⊕ (Nat → Int64) ⊕ (Nat → UInt32) ⊕ (Nat → UInt64) ⊕ (Nat → Option Nat))
  | .inr (.inr (.inr (.inr f))) => .inr (.inr (.inr (.inr (fun j => (f j).map (xad B b)))))
  | a => a
def xcc (B b : Nat) (cA : Nat → ClassId) : xC → va_E
  | .inl (t, n, a) => .inl (cA t, n, xca B b a)
  | .inr (ci, fs) => .inr (ci, fs.map (xcv B b))
def xW (B b : Nat) (cA : Nat → ClassId) (σ : xS) : va_W := (List.range σ.2.1).map (fun i => (xad B b i, xcc B b cA ((σ.1 i).getD (.inr (0, [])))))
def xWF (σ : xS) : Prop := σ.2.1 ≤ 999 ∧ (∀ i, i < σ.2.1 → ∃ c, σ.1 i = some c ∧ ∀ x, c ≠ .inl (9, x)) ∧ ∀ i c, σ.2.1 ≤ i → σ.1 i = some c → i = 1000 ∧ ∃ n f, c = .inl (9, n, .inl f)
def xlp (B b : Nat) : Nat → xL → List (Nat × Value)
  | _, [] => []
  | i, some v :: l => (i, xcv B b v) :: xlp B b (i + 1) l
  | i, none :: l => xlp B b (i + 1) l
theorem xcv_cat (B b : Nat) (v : Value) : (xcv B b v).category = v.category := by cases v <;> rfl
theorem xlp_ge {B b : Nat} : ∀ (l : xL) (j : Nat) (q : Nat × Value), q ∈ xlp B b j l → j ≤ q.1
  | [], _, _, h => by simp [xlp] at h
  | none :: l, j, q, h => by
    have := xlp_ge l (j + 1) q (by simpa [xlp] using h)
    omega
  | some v :: l, j, q, h => by
    simp only [xlp, List.mem_cons] at h
    rcases h with rfl | h
    · exact Nat.le_refl _
    · have := xlp_ge l (j + 1) q h
      omega
theorem lget_mem {B b : Nat} : ∀ (l : xL) (k j : Nat) (v : Value), lget l k = some v → (j + k, xcv B b v) ∈ xlp B b j l
  | [], _, _, _, h => by simp [lget] at h
  | a :: l, 0, j, v, h => by
    simp only [lget] at h
    subst h
    simp [xlp]
  | none :: l, k + 1, j, v, h => by
    have := lget_mem (B := B) (b := b) l k (j + 1) v (by simpa [lget] using h)
    rw [show j + (k + 1) = j + 1 + k by omega]
    simpa [xlp] using this
  | some w :: l, k + 1, j, v, h => by
    have := lget_mem (B := B) (b := b) l k (j + 1) v (by simpa [lget] using h)
    rw [show j + (k + 1) = j + 1 + k by omega]
    simp only [xlp, List.mem_cons]
    exact Or.inr this
theorem lkl_s {a : Option Value} {w : Value} (h : lkl a = some w) : a = some w ∧ w.category = 1 := by
  unfold lkl at h
  split at h
  · cases h
  · cases h
  · next h1 h2 =>
    refine ⟨h, ?_⟩
    cases w <;> first | rfl | exact absurd h (h1 _) | exact absurd h (h2 _)
theorem lst1_s {B b : Nat} : ∀ (l : xL) (k j : Nat) (v : Option Value) (l' : xL), lst1 l k v = some l' → l'.length = l.length ∧ k < l.length ∧
    ∀ q ∈ xlp B b j l', (∃ w, v = some w ∧ q = (j + k, xcv B b w)) ∨ (q ∈ xlp B b j l ∧ q.1 ≠ j + k ∧ ¬ (q.1 + 1 = j + k ∧ q.2.category = 2))
  | [], _, _, _, _, h => by simp [lst1] at h
  | a :: l, 0, j, v, l', h => by
    simp only [lst1, Option.some.injEq] at h
    subst h
    refine ⟨rfl, by simp, fun q hq => ?_⟩
    have key : ∀ q ∈ xlp B b (j + 1) l, q ∈ xlp B b j (a :: l) ∧ q.1 ≠ j + 0 ∧ ¬ (q.1 + 1 = j + 0 ∧ q.2.category = 2) := by
      intro q hq
      have := xlp_ge _ _ _ hq
      refine ⟨?_, by omega, by omega⟩
      cases a <;> simp [xlp, hq]
    cases v with
    | none => exact Or.inr (key q (by simpa [xlp] using hq))
    | some w =>
      simp only [xlp, List.mem_cons] at hq
      rcases hq with rfl | hq
      · exact Or.inl ⟨w, rfl, by simp⟩
      · exact Or.inr (key q hq)
  | a :: l, 1, j, v, l', h => by
    simp only [lst1, Option.map_eq_some_iff] at h
    obtain ⟨l1, h1, rfl⟩ := h
    obtain ⟨g1, g2, g3⟩ := lst1_s (B := B) (b := b) l 0 (j + 1) v l1 h1
    refine ⟨by simp [g1], by simp; omega, fun q hq => ?_⟩
    have key : q ∈ xlp B b (j + 1) l1 → (∃ w, v = some w ∧ q = (j + 1, xcv B b w)) ∨ (q ∈ xlp B b j (a :: l) ∧ q.1 ≠ j + 1 ∧ ¬ (q.1 + 1 = j + 1 ∧ q.2.category = 2)) := by
      intro hq
      have hge := xlp_ge _ _ _ hq
      rcases g3 q hq with ⟨w, e1, e2⟩ | ⟨e1, e2, e3⟩
      · exact Or.inl ⟨w, e1, by simpa using e2⟩
      · refine Or.inr ⟨?_, by omega, by omega⟩
        cases a <;> simp [xlp, e1]
    cases hk : lkl a with
    | none => rw [hk] at hq; exact key (by simpa [xlp] using hq)
    | some w =>
      rw [hk] at hq
      obtain ⟨ea, ec⟩ := lkl_s hk
      subst ea
      simp only [xlp, List.mem_cons] at hq
      rcases hq with rfl | hq
      · refine Or.inr ⟨by simp [xlp], by simp, ?_⟩
        rintro ⟨-, h2⟩
        rw [xcv_cat, ec] at h2
        cases h2
      · exact key hq
  | a :: l, k + 2, j, v, l', h => by
    simp only [lst1, Option.map_eq_some_iff] at h
    obtain ⟨l1, h1, rfl⟩ := h
    obtain ⟨g1, g2, g3⟩ := lst1_s (B := B) (b := b) l (k + 1) (j + 1) v l1 h1
    refine ⟨by simp [g1], by simp; omega, fun q hq => ?_⟩
    have key : q ∈ xlp B b (j + 1) l1 → (∃ w, v = some w ∧ q = (j + (k + 2), xcv B b w)) ∨ (q ∈ xlp B b j (a :: l) ∧ q.1 ≠ j + (k + 2) ∧ ¬ (q.1 + 1 = j + (k + 2) ∧ q.2.category = 2)) := by
      intro hq
      rcases g3 q hq with ⟨w, e1, e2⟩ | ⟨e1, e2, e3⟩
      · exact Or.inl ⟨w, e1, by rw [e2]; congr 1; omega⟩
      · refine Or.inr ⟨?_, by omega, fun e => e3 ⟨by omega, e.2⟩⟩
        cases a <;> simp [xlp, e1]
    cases a with
    | none => exact key (by simpa [xlp] using hq)
    | some w =>
      simp only [xlp, List.mem_cons] at hq
      rcases hq with rfl | hq
      · exact Or.inr ⟨by simp [xlp], by simp <;> omega, by simp <;> omega⟩
      · exact key hq
theorem lst2_s {B b : Nat} : ∀ (l : xL) (k j : Nat) (v : Value) (l' : xL), lst2 l k v = some l' → l'.length = l.length ∧ k + 1 < l.length ∧
    ∀ q ∈ xlp B b j l', q = (j + k, xcv B b v) ∨ (q ∈ xlp B b j l ∧ q.1 ≠ j + k ∧ q.1 ≠ j + k + 1 ∧ ¬ (q.1 + 1 = j + k ∧ q.2.category = 2))
  | [], _, _, _, _, h => by simp [lst2] at h
  | a :: l, 0, j, v, l', h => by
    cases l with
    | nil => simp [lst2] at h
    | cons c l =>
      simp only [lst2, Option.some.injEq] at h
      subst h
      refine ⟨rfl, by simp, fun q hq => ?_⟩
      simp only [xlp, List.mem_cons] at hq
      rcases hq with rfl | hq
      · exact Or.inl (by simp)
      · have := xlp_ge _ _ _ hq
        refine Or.inr ⟨?_, by omega, by omega, by omega⟩
        cases a <;> cases c <;> simp [xlp, hq]
  | a :: l, 1, j, v, l', h => by
    simp only [lst2, Option.map_eq_some_iff] at h
    obtain ⟨l1, h1, rfl⟩ := h
    obtain ⟨g1, g2, g3⟩ := lst2_s (B := B) (b := b) l 0 (j + 1) v l1 h1
    refine ⟨by simp [g1], by simp; omega, fun q hq => ?_⟩
    have key : q ∈ xlp B b (j + 1) l1 → q = (j + 1, xcv B b v) ∨ (q ∈ xlp B b j (a :: l) ∧ q.1 ≠ j + 1 ∧ q.1 ≠ j + 1 + 1 ∧ ¬ (q.1 + 1 = j + 1 ∧ q.2.category = 2)) := by
      intro hq
      have hge := xlp_ge _ _ _ hq
      rcases g3 q hq with e2 | ⟨e1, e2, e3, e4⟩
      · exact Or.inl (by simpa using e2)
      · refine Or.inr ⟨?_, by omega, by omega, by omega⟩
        cases a <;> simp [xlp, e1]
    cases hk : lkl a with
    | none => rw [hk] at hq; exact key (by simpa [xlp] using hq)
    | some w =>
      rw [hk] at hq
      obtain ⟨ea, ec⟩ := lkl_s hk
      subst ea
      simp only [xlp, List.mem_cons] at hq
      rcases hq with rfl | hq
      · refine Or.inr ⟨by simp [xlp], by simp, by simp; omega, ?_⟩
        rintro ⟨-, h2⟩
        rw [xcv_cat, ec] at h2
        cases h2
      · exact key hq
  | a :: l, k + 2, j, v, l', h => by
    simp only [lst2, Option.map_eq_some_iff] at h
    obtain ⟨l1, h1, rfl⟩ := h
    obtain ⟨g1, g2, g3⟩ := lst2_s (B := B) (b := b) l (k + 1) (j + 1) v l1 h1
    refine ⟨by simp [g1], by simp; omega, fun q hq => ?_⟩
    have key : q ∈ xlp B b (j + 1) l1 → q = (j + (k + 2), xcv B b v) ∨ (q ∈ xlp B b j (a :: l) ∧ q.1 ≠ j + (k + 2) ∧ q.1 ≠ j + (k + 2) + 1 ∧ ¬ (q.1 + 1 = j + (k + 2) ∧ q.2.category = 2)) := by
      intro hq
      rcases g3 q hq with e2 | ⟨e1, e2, e3, e4⟩
      · exact Or.inl (by rw [e2]; congr 1; omega)
      · refine Or.inr ⟨?_, by omega, by omega, fun e => e4 ⟨by omega, e.2⟩⟩
        cases a <;> simp [xlp, e1]
    cases a with
    | none => exact key (by simpa [xlp] using hq)
    | some w =>
      simp only [xlp, List.mem_cons] at hq
      rcases hq with rfl | hq
      · exact Or.inr ⟨by simp [xlp], by simp <;> omega, by simp <;> omega, by simp <;> omega⟩
      · exact key hq
theorem lv_mem {ls : Array Slot} {nL : Nat} {l l' : List (Nat × Value)} (h : lv_has ls nL l) (hm : ∀ q ∈ l', q ∈ l) : lv_has ls nL l' := ⟨h.1, h.2.1, fun q hq => h.2.2 q (hm q hq)⟩
theorem lst1_f {B b : Nat} {l l' : xL} {k : Nat} {v : Option Value} (h : lst1 l k v = some l') : l'.length = l.length ∧ k < l.length ∧ ∀ (x : Value), (∀ w, v = some w → xcv B b w = x) → ∀ q ∈ xlp B b 0 l', q ∈ (k, x) :: (xlp B b 0 l).filter (fun q => !(q.1 == k) && !(q.1 + 1 == k && q.2.category == 2)) := by
  obtain ⟨h1, h2, h3⟩ := lst1_s (B := B) (b := b) l k 0 v l' h
  refine ⟨h1, h2, fun x hx q hq => ?_⟩
  rw [Nat.zero_add] at h3
  rcases h3 q hq with ⟨w, e1, e2⟩ | ⟨e1, e2, e3⟩
  · rw [e2, hx w e1]; exact List.mem_cons_self
  · refine List.mem_cons_of_mem _ (List.mem_filter.mpr ⟨e1, ?_⟩)
    simp only [Bool.and_eq_true, Bool.not_eq_true', beq_eq_false_iff_ne, Bool.and_eq_false_iff, ne_eq]
    refine ⟨e2, ?_⟩
    by_cases z : q.1 + 1 = k
    · exact Or.inr (fun z2 => e3 ⟨z, z2⟩)
    · exact Or.inl z
theorem lst2_f {B b : Nat} {l l' : xL} {k : Nat} {v : Value} (h : lst2 l k v = some l') : l'.length = l.length ∧ k + 1 < l.length ∧ ∀ q ∈ xlp B b 0 l', q ∈ (k, xcv B b v) :: (xlp B b 0 l).filter (fun q => !(q.1 == k) && (!(q.1 == k + 1) && !(q.1 + 1 == k && q.2.category == 2))) := by
  obtain ⟨h1, h2, h3⟩ := lst2_s (B := B) (b := b) l k 0 v l' h
  refine ⟨h1, h2, fun q hq => ?_⟩
  rw [Nat.zero_add] at h3
  rcases h3 q hq with e2 | ⟨e1, e2, e4, e3⟩
  · rw [e2]; exact List.mem_cons_self
  · refine List.mem_cons_of_mem _ (List.mem_filter.mpr ⟨e1, ?_⟩)
    simp only [Bool.and_eq_true, Bool.not_eq_true', beq_eq_false_iff_ne, Bool.and_eq_false_iff, ne_eq]
    refine ⟨e2, e4, ?_⟩
    by_cases z : q.1 + 1 = k
    · exact Or.inr (fun z2 => e3 ⟨z, z2⟩)
    · exact Or.inl z
-- the world
theorem xW_get {B b : Nat} {cA : Nat → ClassId} {σ : xS} {a : Nat} {c : xC} (hW : xWF σ) (h : σ.1 a = some c) (h9 : ∀ x, c ≠ .inl (9, x)) : a < σ.2.1 ∧ xad B b a = B + a ∧ (xW B b cA σ)[a]? = some (xad B b a, xcc B b cA c) := by
  have ha : a < σ.2.1 := by
    rcases Nat.lt_or_ge a σ.2.1 with q | q
    · exact q
    · obtain ⟨-, n, f, e⟩ := hW.2.2 a c q h
      exact absurd e (h9 _)
  have h1 : a ≠ 1000 := by have := hW.1; omega
  refine ⟨ha, by simp [xad, h1], ?_⟩
  simp [xW, List.getElem?_map, List.getElem?_range ha, h]
theorem xW_set {B b : Nat} {cA : Nat → ClassId} {σ : xS} {a : Nat} {c : xC} (ha : a < σ.2.1) : (xW B b cA σ).set a (xad B b a, xcc B b cA c) = xW B b cA (hup σ a c) := by
  apply List.ext_getElem?
  intro i
  rw [List.getElem?_set]
  by_cases h : a = i
  · subst h
    simp [xW, hup, List.getElem?_range ha, ha]
  · rw [if_neg h]
    simp only [xW, hup, List.getElem?_map]
    by_cases hi : i < σ.2.1
    · rw [List.getElem?_range hi]
      have h' : ¬ i = a := fun e => h e.symm
      simp [h']
    · rw [List.getElem?_eq_none (by simpa using hi)]
      rfl
theorem xW_D {B b : Nat} {cA : Nat → ClassId} {σ : xS} (hW : xWF σ) : va_D (fun q => B ≤ q) (xW B b cA σ) := by
  have key : ∀ (i : Nat) (p : Nat × va_E), (xW B b cA σ)[i]? = some p → p.1 = B + i := by
    intro i p h
    simp only [xW, List.getElem?_map, Option.map_eq_some_iff] at h
    obtain ⟨k, h1, h2⟩ := h
    obtain ⟨h3, h4⟩ := List.getElem?_eq_some_iff.mp h1
    rw [List.getElem_range] at h4
    subst h4
    have h5 : i ≠ 1000 := by
      have := hW.1
      rw [List.length_range] at h3
      omega
    rw [← h2]
    simp [xad, h5]
  refine ⟨fun i j p q hp hq e => ?_, fun k q hq => ?_⟩
  · rw [key i p hp, key j q hq] at e
    omega
  · rw [key k q hq]; exact Nat.le_add_right _ _
theorem xWF_up {σ : xS} {a : Nat} {c : xC} (hW : xWF σ) (ha : a < σ.2.1) (h9 : ∀ x, c ≠ .inl (9, x)) : xWF (hup σ a c) := by
  refine ⟨hW.1, fun i hi => ?_, fun i d hi hd => ?_⟩
  · by_cases h : i = a
    · exact ⟨c, by simp [hup, h], h9⟩
    · obtain ⟨d, h1, h2⟩ := hW.2.1 i hi
      exact ⟨d, by simp [hup, h, h1], h2⟩
  · have h : ¬ i = a := fun e => by subst e; exact absurd ha (by show ¬ _ < _; exact Nat.not_lt.mpr hi)
    exact hW.2.2 i d hi (by simpa [hup, h] using hd)
theorem xWF_new {σ : xS} {c : xC} {sl : Nat} (hW : xWF σ) (hn : σ.2.1 < 999) (h9 : ∀ x, c ≠ .inl (9, x)) : xWF (hnew σ c sl) := by
  refine ⟨hn, fun i hi => ?_, fun i d hi hd => ?_⟩
  · by_cases h : i = σ.2.1
    · exact ⟨c, by simp [hnew, h], h9⟩
    · have : i < σ.2.1 := by
        have : i < σ.2.1 + 1 := hi
        omega
      obtain ⟨d, h1, h2⟩ := hW.2.1 i this
      exact ⟨d, by simp [hnew, h, h1], h2⟩
  · have hi' : σ.2.1 + 1 ≤ i := hi
    have h : ¬ i = σ.2.1 := by omega
    exact hW.2.2 i d (by omega) (by simpa [hnew, h] using hd)
theorem xW_new {B b : Nat} {cA : Nat → ClassId} {σ : xS} {c : xC} {sl : Nat} : xW B b cA (hnew σ c sl) = xW B b cA σ ++ [(xad B b σ.2.1, xcc B b cA c)] := by
  simp only [xW, hnew, List.range_succ, List.map_append, List.map_cons, List.map_nil, if_true, Option.getD_some]
  congr 1
  apply List.map_congr_left
  intro i hi
  have : i < σ.2.1 := List.mem_range.mp hi
  simp [Nat.ne_of_lt this]
