/-! ===== fields, arrays, new cells: by program (wip/tools/gen_heap.py) ===== -/
theorem hobj_s {σ : xS} {a : Nat} {o : Nat × List Value} (h : hobj σ a = some o) : σ.1 a = some (.inr o) := by
  unfold hobj at h; split at h
  · next e => cases h; exact e
  · cases h
theorem hint_s {σ : xS} {t a : Nat} {q : Nat × (Nat → Int32)} (h : hint σ t a = some q) : σ.1 a = some (.inl (t, q.1, .inl q.2)) := by
  unfold hint at h; split at h
  · next e =>
    obtain ⟨rfl, h2⟩ := ite_s h
    cases h2; exact e
  · cases h
theorem hlng_s {σ : xS} {t a : Nat} {q : Nat × (Nat → Int64)} (h : hlng σ t a = some q) : σ.1 a = some (.inl (t, q.1, .inr (.inl q.2))) := by
  unfold hlng at h; split at h
  · next e =>
    obtain ⟨rfl, h2⟩ := ite_s h
    cases h2; exact e
  · cases h
theorem href_s {σ : xS} {a : Nat} {q : Nat × Nat × (Nat → Option Nat)} (h : href σ a = some q) : σ.1 a = some (.inl (q.1, q.2.1, .inr (.inr (.inr (.inr q.2.2))))) := by
  unfold href at h; split at h
  · next e => cases h; exact e
  · cases h
theorem hcls_s {σ : xS} {a ci : Nat} (h : hcls σ a = some ci) : ∃ fs, σ.1 a = some (.inr (ci, fs)) := by
  simp only [hcls, Option.map_eq_some_iff] at h
  obtain ⟨o, h1, rfl⟩ := h
  exact ⟨o.2, hobj_s h1⟩
theorem hfld_s {σ : xS} {a ci k : Nat} {v : Value} (h : hfld σ a ci k = some v) : ∃ fs, σ.1 a = some (.inr (ci, fs)) ∧ fs[k]? = some v := by
  unfold hfld at h
  obtain ⟨o, h1, h2⟩ := bind_s h
  obtain ⟨rfl, h3⟩ := ite_s h2
  exact ⟨o.2, hobj_s h1, h3⟩
theorem hfst_s {σ σ' : xS} {a ci k : Nat} {v : Value} (h : hfst σ a ci k v = some σ') : ∃ fs, σ.1 a = some (.inr (ci, fs)) ∧ k < fs.length ∧ σ' = hup σ a (.inr (ci, fs.set k v)) := by
  unfold hfst at h
  obtain ⟨o, h1, h2⟩ := bind_s h
  obtain ⟨⟨rfl, h3⟩, h4⟩ := ite_s h2
  cases h4
  exact ⟨o.2, hobj_s h1, h3, rfl⟩
theorem xfit_s {B b : Nat} {ty : FieldType} {v : Value} (h : xfit ty v = true) : narrow ty (xcv B b v) = xcv B b v ∧ fits ty (xcv B b v) = true := by
  unfold xfit at h
  split at h
  · exact ⟨rfl, rfl⟩
  · exact ⟨rfl, rfl⟩
  · next x =>
    simp only [Bool.or_eq_true, decide_eq_true_eq] at h
    rcases h with rfl | rfl
    · exact ⟨(by decide +kernel : narrow .boolean (.int 0) = .int 0), (by decide +kernel : fits .boolean (.int 0) = true)⟩
    · exact ⟨(by decide +kernel : narrow .boolean (.int 1) = .int 1), (by decide +kernel : fits .boolean (.int 1) = true)⟩
  · exact ⟨rfl, rfl⟩
  · exact ⟨rfl, rfl⟩
  · cases h
theorem xelt_s {ci t : Nat} (h : xelt ci = some t) : (ci = 1 ∧ t = 2) ∨ (ci = 4 ∧ t = 3) := by
  unfold xelt at h
  split at h
  · cases h; exact Or.inl ⟨rfl, rfl⟩
  · cases h; exact Or.inr ⟨rfl, rfl⟩
  · cases h
theorem xblk_cv {B b : Nat} (ci : Nat) : (xblk ci).map (xcv B b) = xblk ci := by
  unfold xblk
  split <;> rfl
section XH
variable {p : Program} {l : Launch} {e : Env} {R : Room} {s : State} {m : MethodId} {args : Array Value} {below : List Frame} {meth : Method} {c : Code} {Q : State → Prop} {D : va_G} {cA : Nat → ClassId} {B b k0 z0 : Nat} {en : xMe} {pc : Nat} {ls : xL} {r : List Value} {σ : xS}
theorem xOk_up {a : Nat} {d : xC} {lsJ : Array Slot} {H H1 : Heap} {locs locs1 : List Loc} {cells slots : Nat} (hO : xOk s D cA B b k0 z0 en (ls) (σ) lsJ H locs cells slots) (ha : a < σ.2.1) (h9 : ∀ x, d ≠ .inl (9, x)) (hP1 : va_P D vwCl ((xW B b cA σ).set a (xad B b a, xcc B b cA d)) H1) (hS1 : va_S (fun q => B ≤ q) s.heap H1 locs1) : xOk s D cA B b k0 z0 en (ls) (hup σ a d) lsJ H1 locs1 cells slots := by
  obtain ⟨hl, hn, hWF, hP, hS, hz, hc, hscr⟩ := hO
  refine ⟨hl, hn, xWF_up hWF ha h9, by rw [← xW_set ha]; exact hP1, hS1, hz, hc, fun h3 n f hf => hscr h3 n f ?_⟩
  have : ¬ (1000 = a) := by have := hWF.1; omega
  simpa [hup, this] using hf
theorem n_getf {k1 ci k2 pl a : Nat} {v : Value} (E : xEnv p l e R s m args below meth c D cA B b en) (hd : decode en.2.1 pc = .ok (.getfield k1, 3)) (hf : xfind xFL en.2.2.2.2.1 k1 = some (ci, k2, pl)) (hv : hfld σ a ci k2 = some v) (k : xT p l e R s m args below meth c Q D cA B b k0 z0 en (pc + 3) (ls) (v :: r) (σ)) : xT p l e R s m args below meth c Q D cA B b k0 z0 en (pc) (ls) (.ref a :: r) (σ) := by
  obtain ⟨hx, hb, -, hown, hts, hK, -⟩ := E
  intro lsJ H locs cells slots hO
  have hO2 := hO
  obtain ⟨hl, hn, hWF, hP, hS, hz, hc, hscr⟩ := hO2
  obtain ⟨q, hq, hk, hdec, hlink⟩ := xFL_ok hf
  obtain ⟨fs, h1, h2⟩ := hfld_s hv
  obtain ⟨ha, -, hw⟩ := xW_get (B := B) (b := b) (cA := cA) hWF h1 (fun x h => by cases h)
  exact va_get (D := D) (ci := ci) (C := q.1) (T := q.2.1) (N := q.2.2) (fs := fs.map (xcv B b)) (v := xcv B b v) hx hb hts (xU_ok hq) hown hK hP a hw hq k2 hk (hts _ hlink) (fun x h9 => by rw [← hdec]; exact h9) (by rw [List.getElem?_map, h2]; rfl) hd (k _ _ _ _ _ hO)
theorem n_putf {k1 ci k2 pl a : Nat} {v : Value} {σ2 : xS} {ty : FieldType} (E : xEnv p l e R s m args below meth c D cA B b en) (hd : decode en.2.1 pc = .ok (.putfield k1, 3)) (hf : xfind xFL en.2.2.2.2.1 k1 = some (ci, k2, pl)) (hty : xty ci k2 = some ty) (hfit : xfit ty v = true) (hfin : xfin ci k2 = false ∨ (en.1.name = "<init>" ∧ xdec ci k2 = xcn en.2.2.2.2.1)) (hv : hfst σ a ci k2 v = some σ2) (k : xT p l e R s m args below meth c Q D cA B b k0 z0 en (pc + 3) (ls) (r) (σ2)) : xT p l e R s m args below meth c Q D cA B b k0 z0 en (pc) (ls) (v :: .ref a :: r) (σ) := by
  obtain ⟨hx, hb, -, hown, hts, hK, -, hnm, -⟩ := E
  intro lsJ H locs cells slots hO
  have hO2 := hO
  obtain ⟨hl, hn, hWF, hP, hS, hz, hc, hscr⟩ := hO2
  obtain ⟨q, hq, hk, hdec, hlink⟩ := xFL_ok hf
  obtain ⟨fs, h1, h2, rfl⟩ := hfst_s hv
  have h9 : ∀ (fs : List Value) (x : vp_A), (Sum.inr (ci, fs) : xC) ≠ .inl (9, x) := fun fs x h => by cases h
  obtain ⟨ha, -, hw⟩ := xW_get (B := B) (b := b) (cA := cA) hWF h1 (h9 _)
  have e1 : xcc B b cA (.inr (ci, fs.set k2 v)) = .inr (ci, (fs.map (xcv B b)).set k2 (xcv B b v)) := by simp [xcc, List.map_set]
  obtain ⟨f1, f2⟩ := xfit_s (B := B) (b := b) hfit
  have hty2 : parseFieldDescriptor (q.2.1 k2).2.2.1 = some ty := by
    have := hty
    simp only [xty, hq, Option.bind_some] at this
    exact this
  have kk : ∀ (H1 : Heap) (locs1 : List Loc), va_P D vwCl ((xW B b cA σ).set a (xad B b a, .inr (ci, (fs.map (xcv B b)).set k2 (xcv B b v)))) H1 → va_D (fun q => B ≤ q) ((xW B b cA σ).set a (xad B b a, .inr (ci, (fs.map (xcv B b)).set k2 (xcv B b v)))) → va_S (fun q => B ≤ q) s.heap H1 locs1 → W p l e R s m args below meth c H1 locs1 cells slots Q (F0 m (pc + 3) lsJ (r.map (xcv B b))) :=
    fun H1 locs1 hP1 _ hS1 => k _ _ _ _ _ (xOk_up hO ha (h9 _) (by rw [e1]; exact hP1) hS1)
  by_cases hfn : xfin ci k2 = false
  · exact va_put (D := D) (ci := ci) (C := q.1) (T := q.2.1) (N := q.2.2) (fs := fs.map (xcv B b)) (v := xcv B b v) hx hb hts (xU_ok hq) (xtyN ci) (xC_ok hq).1 (xC_ok hq).2 hown hK hP (xW_D hWF) hS a hw hq k2 hk (hts _ hlink) (fun x h9 => by rw [← hdec]; exact h9) (by simpa [xfin, hq] using hfn) hty2 f1 f2 (by simpa using h2) hd kk
  · rcases hfin with hfin | ⟨hi, hde⟩
    · exact absurd hfin hfn
    · exact va_putF (D := D) (ci := ci) (C := q.1) (T := q.2.1) (N := q.2.2) (fs := fs.map (xcv B b)) (v := xcv B b v) hx hb hts (xU_ok hq) (xtyN ci) (xC_ok hq).1 (xC_ok hq).2 hown hK hP (xW_D hWF) hS a hw hq k2 hk (hts _ hlink) (fun x h9 => by rw [← hdec]; exact h9) (by simpa [xfin, hq] using hfn) (hnm hi) (by simpa [xdec, hq] using hde) hty2 f1 f2 (by simpa using h2) hd kk
theorem n_iald {a : Nat} {i : Int32} {q : Nat × (Nat → Int32)} (E : xEnv p l e R s m args below meth c D cA B b en) (hd : decode en.2.1 pc = .ok (.iaload, 1)) (hq : hint σ 0 a = some q) (hi : xin i q.1 = true) (k : xT p l e R s m args below meth c Q D cA B b k0 z0 en (pc + 1) (ls) (.int (q.2 i.toNatClampNeg) :: r) (σ)) : xT p l e R s m args below meth c Q D cA B b k0 z0 en (pc) (ls) (.int i :: .ref a :: r) (σ) := by
  obtain ⟨hx, hb, -, hown, hts, hK, -⟩ := E
  intro lsJ H locs cells slots hO
  have hO2 := hO
  obtain ⟨hl, hn, hWF, hP, hS, hz, hc, hscr⟩ := hO2
  have h1 := hint_s hq
  obtain ⟨ha, -, hw⟩ := xW_get (B := B) (b := b) (cA := cA) hWF h1 (fun x h => by simp at h)
  exact va_iald hx hb hK hP a 0 hw rfl (xin_s hi) hd (k _ _ _ _ _ hO)
theorem n_iast {a : Nat} {i : Int32} {x : Int32} {q : Nat × (Nat → Int32)} (E : xEnv p l e R s m args below meth c D cA B b en) (hd : decode en.2.1 pc = .ok (.iastore, 1)) (hq : hint σ 0 a = some q) (hi : xin i q.1 = true) (k : xT p l e R s m args below meth c Q D cA B b k0 z0 en (pc + 1) (ls) (r) (hup σ a (.inl (0, q.1, .inl (upd q.2 i.toNatClampNeg x))))) : xT p l e R s m args below meth c Q D cA B b k0 z0 en (pc) (ls) (.int x :: .int i :: .ref a :: r) (σ) := by
  obtain ⟨hx, hb, -, hown, hts, hK, -⟩ := E
  intro lsJ H locs cells slots hO
  have hO2 := hO
  obtain ⟨hl, hn, hWF, hP, hS, hz, hc, hscr⟩ := hO2
  have h1 := hint_s hq
  obtain ⟨ha, -, hw⟩ := xW_get (B := B) (b := b) (cA := cA) hWF h1 (fun x h => by simp at h)
  exact va_iast hx hb hK hP (xW_D hWF) hS a 0 hw rfl (xin_s hi) hd (fun H1 locs1 hP1 _ hS1 => k _ _ _ _ _ (xOk_up hO ha (fun x h => by simp at h) hP1 hS1))
theorem xcv_rf {B b : Nat} (o : Option Nat) : xcv B b (va_rf o) = va_rf (o.map (xad B b)) := by cases o <;> rfl
theorem n_aald {a : Nat} {i : Int32} {q : Nat × Nat × (Nat → Option Nat)} (E : xEnv p l e R s m args below meth c D cA B b en) (hd : decode en.2.1 pc = .ok (.aaload, 1)) (hq : href σ a = some q) (hi : xin i q.2.1 = true) (ht : q.1 = 2 ∨ q.1 = 3) (k : xT p l e R s m args below meth c Q D cA B b k0 z0 en (pc + 1) (ls) (va_rf (q.2.2 i.toNatClampNeg) :: r) (σ)) : xT p l e R s m args below meth c Q D cA B b k0 z0 en (pc) (ls) (.int i :: .ref a :: r) (σ) := by
  obtain ⟨hx, hb, -, hown, hts, hK, -⟩ := E
  intro lsJ H locs cells slots hO
  have k1 := k _ _ _ _ _ hO
  obtain ⟨hl, hn, hWF, hP, hS, hz, hc, hscr⟩ := hO
  have h1 := href_s hq
  obtain ⟨t, n, f⟩ := q
  dsimp only at ht h1 hi k1
  rw [List.map_cons, xcv_rf] at k1
  rcases ht with rfl | rfl
  · obtain ⟨ha, -, hw⟩ := xW_get (B := B) (b := b) (cA := cA) hWF h1 (fun x h => by simp at h)
    exact va_aldq (C := "CarvedRinks$Pond") (f := fun j => (f j).map (xad B b)) hx hb hK hP a 2 hw rfl (xin_s hi) hd k1
  · obtain ⟨ha, -, hw⟩ := xW_get (B := B) (b := b) (cA := cA) hWF h1 (fun x h => by simp at h)
    exact va_aldq (C := "CarvedRinks$Skater") (f := fun j => (f j).map (xad B b)) hx hb hK hP a 3 hw rfl (xin_s hi) hd k1
theorem n_aast {a v : Nat} {i : Int32} {q : Nat × Nat × (Nat → Option Nat)} (E : xEnv p l e R s m args below meth c D cA B b en) (hd : decode en.2.1 pc = .ok (.aastore, 1)) (hq : href σ a = some q) (hi : xin i q.2.1 = true) (hv : (hcls σ v).bind xelt = some q.1) (k : xT p l e R s m args below meth c Q D cA B b k0 z0 en (pc + 1) (ls) (r) (hup σ a (.inl (q.1, q.2.1, .inr (.inr (.inr (.inr (va_up q.2.2 i.toNatClampNeg (some v))))))))) : xT p l e R s m args below meth c Q D cA B b k0 z0 en (pc) (ls) (.ref v :: .int i :: .ref a :: r) (σ) := by
  obtain ⟨hx, hb, -, hown, hts, hK, -⟩ := E
  intro lsJ H locs cells slots hO
  have hO2 := hO
  obtain ⟨hl, hn, hWF, hP, hS, hz, hc, hscr⟩ := hO2
  have h1 := href_s hq
  obtain ⟨t, n, f⟩ := q
  dsimp only at hv h1 hi k
  obtain ⟨ci, hc1, hc2⟩ := bind_s hv
  obtain ⟨vs, hvs⟩ := hcls_s hc1
  obtain ⟨hav, -, hwv⟩ := xW_get (B := B) (b := b) (cA := cA) hWF hvs (fun x h => by cases h)
  have e1 : (fun j => (va_up f i.toNatClampNeg (some v) j).map (xad B b)) = va_up (fun j => (f j).map (xad B b)) i.toNatClampNeg (some (xad B b v)) := by
    funext j
    simp only [va_up]
    split <;> rfl
  rcases xelt_s hc2 with ⟨rfl, rfl⟩ | ⟨rfl, rfl⟩
  · obtain ⟨ha, -, hw⟩ := xW_get (B := B) (b := b) (cA := cA) hWF h1 (fun x h => by simp at h)
    exact va_astq (r := (RX2, TX2, 10)) (f := fun j => (f j).map (xad B b)) hx hb hK hP (xW_D hWF) hS a 2 v 1 hw rfl hwv rfl (xin_s hi) hd (fun H1 locs1 hP1 _ hS1 => k _ _ _ _ _ (xOk_up hO ha (fun x h => by simp at h) (by simp only [xcc, xca]; rw [e1]; exact hP1) hS1))
  · obtain ⟨ha, -, hw⟩ := xW_get (B := B) (b := b) (cA := cA) hWF h1 (fun x h => by simp at h)
    exact va_astq (r := (RX5, TX5, 7)) (f := fun j => (f j).map (xad B b)) hx hb hK hP (xW_D hWF) hS a 3 v 4 hw rfl hwv rfl (xin_s hi) hd (fun H1 locs1 hP1 _ hS1 => k _ _ _ _ _ (xOk_up hO ha (fun x h => by simp at h) (by simp only [xcc, xca]; rw [e1]; exact hP1) hS1))
/-- the script -/
theorem n_sld {a : Nat} {i : Int32} {q : Nat × (Nat → Int32)} (E : xEnv p l e R s m args below meth c D cA B b en) (hd : decode en.2.1 pc = .ok (.iaload, 1)) (hq : hint σ 9 a = some q) (h3 : 3 ≤ en.2.2.2.2.2.2.2) (hi : xin i q.1 = true) (k : xT p l e R s m args below meth c Q D cA B b k0 z0 en (pc + 1) (ls) (.int (q.2 i.toNatClampNeg) :: r) (σ)) : xT p l e R s m args below meth c Q D cA B b k0 z0 en (pc) (ls) (.int i :: .ref a :: r) (σ) := by
  obtain ⟨hx, hb, -⟩ := E
  intro lsJ H locs cells slots hO
  have k1 := k _ _ _ _ _ hO
  obtain ⟨hl, hn, hWF, hP, hS, hz, hc, hscr⟩ := hO
  have h1 := hint_s hq
  have ha : a = 1000 := by
    rcases Nat.lt_or_ge a σ.2.1 with z | z
    · obtain ⟨d, h4, h5⟩ := hWF.2.1 a z
      rw [h1] at h4
      cases h4
      exact absurd rfl (h5 _)
    · exact (hWF.2.2 a _ z h1).1
  subst ha
  obtain ⟨g1, g2, g3⟩ := hscr h3 _ _ h1
  exact va_sld hx hb (A := fun q => B ≤ q) g1 g2 (Nat.not_le.mpr g3) hS (xin_s hi) hd k1
theorem n_slen {a : Nat} {q : Nat × (Nat → Int32)} (E : xEnv p l e R s m args below meth c D cA B b en) (hd : decode en.2.1 pc = .ok (.arraylength, 1)) (hq : hint σ 9 a = some q) (h3 : 3 ≤ en.2.2.2.2.2.2.2) (k : xT p l e R s m args below meth c Q D cA B b k0 z0 en (pc + 1) (ls) (.int (nI q.1) :: r) (σ)) : xT p l e R s m args below meth c Q D cA B b k0 z0 en (pc) (ls) (.ref a :: r) (σ) := by
  obtain ⟨hx, hb, -⟩ := E
  intro lsJ H locs cells slots hO
  have k1 := k _ _ _ _ _ hO
  obtain ⟨hl, hn, hWF, hP, hS, hz, hc, hscr⟩ := hO
  have h1 := hint_s hq
  have ha : a = 1000 := by
    rcases Nat.lt_or_ge a σ.2.1 with z | z
    · obtain ⟨d, h4, h5⟩ := hWF.2.1 a z
      rw [h1] at h4
      cases h4
      exact absurd rfl (h5 _)
    · exact (hWF.2.2 a _ z h1).1
  subst ha
  obtain ⟨g1, g2, g3⟩ := hscr h3 _ _ h1
  exact va_slen hx hb (A := fun q => B ≤ q) g1 g2 (Nat.not_le.mpr g3) hS hd k1
/-- where the next cell goes -/
theorem xsize {lsJ : Array Slot} {H : Heap} {locs : List Loc} {cells slots : Nat} (hB : B ≤ s.heap.size) (hO : xOk s D cA B b k0 z0 en (ls) (σ) lsJ H locs cells slots) (hg : σ.2.2.1 = 0) (hs : H.size ≤ s.heap.size + cells) : H.size = xad B b σ.2.1 := by
  obtain ⟨hl, hn, hWF, hP, hS, hz, hc, hscr⟩ := hO
  have h1 := hz hg
  have h2 : xad B b σ.2.1 = B + σ.2.1 := by
    have := hWF.1
    have : ¬ σ.2.1 = 1000 := by omega
    simp [xad, this]
  rw [h2]
  have h3 : B + σ.2.1 ≤ H.size := by
    rcases Nat.eq_zero_or_pos σ.2.1 with z | z
    · rw [z]; exact Nat.le_trans hB hS.1
    · obtain ⟨d, h4, h5⟩ := hWF.2.1 (σ.2.1 - 1) (by omega)
      obtain ⟨g1, g2, g3⟩ := xW_get (B := B) (b := b) (cA := cA) hWF h4 h5
      have := (hP _ _ g3).lt
      dsimp only at this
      rw [g2] at this
      omega
  have := hc.1
  omega
theorem xOk_new {d : xC} {sl : Nat} {lsJ : Array Slot} {H H1 : Heap} {locs : List Loc} {cells slots : Nat} (hO : xOk s D cA B b k0 z0 en (ls) (σ) lsJ H locs cells slots) (hn9 : σ.2.1 < 999) (h9 : ∀ x, d ≠ .inl (9, x)) (hsz : H.size = xad B b σ.2.1) (z1 : H1.size = H.size + 1) (o1 : ∀ q, q < H.size → H1[q]? = H[q]?) (hd : va_at D vwCl (xad B b σ.2.1, xcc B b cA d) H1) : xOk s D cA B b k0 z0 en (ls) (hnew σ d sl) lsJ H1 locs (cells + 1) (slots + sl) := by
  obtain ⟨hl, hn, hWF, hP, hS, hz, hc, hscr⟩ := hO
  refine ⟨hl, hn, xWF_new hWF hn9 h9, ?_, ⟨by rw [z1]; exact Nat.le_trans hS.1 (Nat.le_succ _), fun q h1 h2 => (o1 q (Nat.lt_of_lt_of_le h1 hS.1)).trans (hS.2.1 q h1 h2), hS.2.2⟩, hz, ?_, fun h3 n f hf => hscr h3 n f ?_⟩
  · rw [xW_new]
    refine (hP.kept (fun k q hq => o1 q.1 ((hP k q hq).lt))).app (fun k q hq => ?_)
    have hk : k < 1 := (List.getElem?_eq_some_iff.mp hq).1
    rw [show k = 0 by omega] at hq
    cases hq
    exact hd
  · show cells + 1 + k0 = σ.2.1 + 1 + σ.2.2.1 ∧ slots + sl + z0 = σ.2.2.2 + sl
    omega
  · have : ¬ (1000 = σ.2.1) := by omega
    simpa [hnew, this] using hf
end XH
