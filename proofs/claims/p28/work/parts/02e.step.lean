/-! ===== the interpreter's steps are the machine's: by program (wip/tools/gen_sound.py), a row of the kit each ===== -/
def xtys (cA : Nat → ClassId) : List (ClassId × FieldType) := [(cA 0, .int), (cA 0, .int), (cA 2, .object "CarvedRinks$Pond"), (cA 3, .object "CarvedRinks$Skater")]
def xTab (s : State) : Prop := (∀ w ∈ xNest, va_Nw w s) ∧ va_AO "CarvedRinks$Pond" s ∧ va_AO "CarvedRinks$Skater" s
def xEnv (p : Program) (l : Launch) (e : Env) (R : Room) (s : State) (m : MethodId) (args : Array Value) (below : List Frame) (meth : Method) (c : Code) (D : va_G) (cA : Nat → ClassId) (B b : Nat) (en : xMe) : Prop :=
  p.tables.exec = Jvm.exec ∧ c.code = en.2.1 ∧ c.maxLocals = en.2.2.1 ∧ s.vm.findClass (xcn en.2.2.2.2.1) = some m.cls ∧ (∀ w ∈ xWS, w.before args s = true) ∧ va_K D vwCl (xtys cA) s ∧ xTab s ∧ (en.1.name = "<init>" → meth.name = "<init>") ∧ (en.2.2.2.2.2.1 ≤ R.frames ∧ en.2.2.2.2.2.2.1 ≤ R.locals) ∧ B ≤ s.heap.size
def xOk (s : State) (D : va_G) (cA : Nat → ClassId) (B b k0 z0 : Nat) (en : xMe) (ls : xL) (σ : xS) (lsJ : Array Slot) (H : Heap) (locs : List Loc) (cells slots : Nat) : Prop :=
  lv_has lsJ en.2.2.1 (xlp B b 0 ls) ∧ ls.length = en.2.2.1 ∧ xWF σ ∧ va_P D vwCl (xW B b cA σ) H ∧ va_S (fun q => B ≤ q) s.heap H locs ∧ (σ.2.2.1 = 0 → s.heap.size ≤ B + k0) ∧ (cells + k0 = σ.2.1 + σ.2.2.1 ∧ slots + z0 = σ.2.2.2) ∧ (3 ≤ en.2.2.2.2.2.2.2 → ∀ n f, σ.1 1000 = some (.inl (9, n, .inl f)) → va_X b n f s s.heap ∧ b < s.heap.size ∧ b < B)
/-- from this state of the interpreter on the machine comes to Q -/
def xT (p : Program) (l : Launch) (e : Env) (R : Room) (s : State) (m : MethodId) (args : Array Value) (below : List Frame) (meth : Method) (c : Code) (Q : State → Prop) (D : va_G) (cA : Nat → ClassId) (B b k0 z0 : Nat) (en : xMe) (pc : Nat) (ls : xL) (st : List Value) (σ : xS) : Prop :=
  ∀ (lsJ : Array Slot) (H : Heap) (locs : List Loc) (cells slots : Nat), xOk s D cA B b k0 z0 en ls σ lsJ H locs cells slots → W p l e R s m args below meth c H locs cells slots Q (F0 m pc lsJ (st.map (xcv B b)))
theorem xnx_s {pc pc' : Nat} {ls ls' : xL} {st st' : List Value} {σ σ' : xS} (h : xnx pc ls st σ = some (.inl (pc', ls', st', σ'))) : pc' = pc ∧ ls' = ls ∧ st' = st ∧ σ' = σ := by
  simp only [xnx, Option.some.injEq, Sum.inl.injEq, Prod.mk.injEq] at h
  exact ⟨h.1.symm, h.2.1.symm, h.2.2.1.symm, h.2.2.2.symm⟩
theorem xgo_s {pc pc' : Nat} {off : Int} {ls ls' : xL} {st st' : List Value} {σ σ' : xS} (h : xgo pc off ls st σ = some (.inl (pc', ls', st', σ'))) : (pc : Int) + off = (pc' : Int) ∧ ls' = ls ∧ st' = st ∧ σ' = σ := by
  unfold xgo at h
  obtain ⟨h1, h2⟩ := ite_s h
  obtain ⟨rfl, rfl, rfl, rfl⟩ := xnx_s h2
  exact ⟨by omega, rfl, rfl, rfl⟩
theorem xIf_s {c : Prop} [Decidable c] {pc pc' : Nat} {off : Int} {ls ls' : xL} {st st' : List Value} {σ σ' : xS} (h : xIf c pc off ls st σ = some (.inl (pc', ls', st', σ'))) : ls' = ls ∧ st' = st ∧ σ' = σ ∧ ∃ t : Nat, (pc : Int) + off = (t : Int) ∧ pc' = if c then t else pc + 3 := by
  unfold xIf at h
  obtain ⟨h1, h2⟩ := ite_s h
  obtain ⟨rfl, rfl, rfl, rfl⟩ := xnx_s h2
  exact ⟨rfl, rfl, rfl, _, by omega, rfl⟩
section XN
variable {p : Program} {l : Launch} {e : Env} {R : Room} {s : State} {m : MethodId} {args : Array Value} {below : List Frame} {meth : Method} {c : Code} {Q : State → Prop} {D : va_G} {cA : Nat → ClassId} {B b k0 z0 : Nat} {en : xMe} {pc : Nat} {ls : xL} {r : List Value} {σ : xS}
theorem n_iconst {n : Int} (E : xEnv p l e R s m args below meth c D cA B b en) (hd : decode en.2.1 pc = .ok (.iconst n, 1))  (k : xT p l e R s m args below meth c Q D cA B b k0 z0 en (pc + 1) (ls) (.int (Int32.ofInt n) :: r) (σ)) : xT p l e R s m args below meth c Q D cA B b k0 z0 en (pc) (ls) (r) (σ) := by
  obtain ⟨hx, hb, -⟩ := E
  intro lsJ H locs cells slots hO
  exact lv_iconst hx hb hd rfl (k _ _ _ _ _ hO)
theorem n_bipush {n : Int} (E : xEnv p l e R s m args below meth c D cA B b en) (hd : decode en.2.1 pc = .ok (.bipush n, 2))  (k : xT p l e R s m args below meth c Q D cA B b k0 z0 en (pc + 2) (ls) (.int (Int8.ofInt n).toInt32 :: r) (σ)) : xT p l e R s m args below meth c Q D cA B b k0 z0 en (pc) (ls) (r) (σ) := by
  obtain ⟨hx, hb, -⟩ := E
  intro lsJ H locs cells slots hO
  exact lv_bipush hx hb hd rfl (k _ _ _ _ _ hO)
theorem n_sipush {n : Int} (E : xEnv p l e R s m args below meth c D cA B b en) (hd : decode en.2.1 pc = .ok (.sipush n, 3))  (k : xT p l e R s m args below meth c Q D cA B b k0 z0 en (pc + 3) (ls) (.int (Int16.ofInt n).toInt32 :: r) (σ)) : xT p l e R s m args below meth c Q D cA B b k0 z0 en (pc) (ls) (r) (σ) := by
  obtain ⟨hx, hb, -⟩ := E
  intro lsJ H locs cells slots hO
  exact lv_sipush hx hb hd rfl (k _ _ _ _ _ hO)
theorem n_lconst {n : Fin 2} (E : xEnv p l e R s m args below meth c D cA B b en) (hd : decode en.2.1 pc = .ok (.lconst n, 1))  (k : xT p l e R s m args below meth c Q D cA B b k0 z0 en (pc + 1) (ls) (.long (Int64.ofNat (n : Nat)) :: r) (σ)) : xT p l e R s m args below meth c Q D cA B b k0 z0 en (pc) (ls) (r) (σ) := by
  obtain ⟨hx, hb, -⟩ := E
  intro lsJ H locs cells slots hO
  exact lv_lconst hx hb hd rfl (k _ _ _ _ _ hO)
theorem n_fconst0  (E : xEnv p l e R s m args below meth c D cA B b en) (hd : decode en.2.1 pc = .ok (.fconst 0, 1))  (k : xT p l e R s m args below meth c Q D cA B b k0 z0 en (pc + 1) (ls) (.float FP.fconst0 :: r) (σ)) : xT p l e R s m args below meth c Q D cA B b k0 z0 en (pc) (ls) (r) (σ) := by
  obtain ⟨hx, hb, -⟩ := E
  intro lsJ H locs cells slots hO
  exact lv_fconst0 hx hb hd (k _ _ _ _ _ hO)
theorem n_dconst0  (E : xEnv p l e R s m args below meth c D cA B b en) (hd : decode en.2.1 pc = .ok (.dconst 0, 1))  (k : xT p l e R s m args below meth c Q D cA B b k0 z0 en (pc + 1) (ls) (.double FP.dconst0 :: r) (σ)) : xT p l e R s m args below meth c Q D cA B b k0 z0 en (pc) (ls) (r) (σ) := by
  obtain ⟨hx, hb, -⟩ := E
  intro lsJ H locs cells slots hO
  exact lv_dconst0 hx hb hd (k _ _ _ _ _ hO)
theorem n_dconst1  (E : xEnv p l e R s m args below meth c D cA B b en) (hd : decode en.2.1 pc = .ok (.dconst 1, 1))  (k : xT p l e R s m args below meth c Q D cA B b k0 z0 en (pc + 1) (ls) (.double FP.dconst1 :: r) (σ)) : xT p l e R s m args below meth c Q D cA B b k0 z0 en (pc) (ls) (r) (σ) := by
  obtain ⟨hx, hb, -⟩ := E
  intro lsJ H locs cells slots hO
  exact lv_dconst1 hx hb hd (k _ _ _ _ _ hO)
theorem n_iload_n {k1 : Fin 4} {x : Int32} (E : xEnv p l e R s m args below meth c D cA B b en) (hd : decode en.2.1 pc = .ok (.iload_n k1, 1)) (hg : lget ls (k1.val) = some (.int x)) (k : xT p l e R s m args below meth c Q D cA B b k0 z0 en (pc + 1) (ls) (.int x :: r) (σ)) : xT p l e R s m args below meth c Q D cA B b k0 z0 en (pc) (ls) (r) (σ) := by
  obtain ⟨hx, hb, -⟩ := E
  intro lsJ H locs cells slots hO
  exact lv_iload_n hx hb hd rfl (hO.1.2.2 _ (by have := lget_mem (B := B) (b := b) ls (k1.val) 0 _ hg; rwa [Nat.zero_add] at this)) (k _ _ _ _ _ hO)
theorem n_iload {k1 : Nat} {x : Int32} (E : xEnv p l e R s m args below meth c D cA B b en) (hd : decode en.2.1 pc = .ok (.iload k1, 2)) (hg : lget ls (k1) = some (.int x)) (k : xT p l e R s m args below meth c Q D cA B b k0 z0 en (pc + 2) (ls) (.int x :: r) (σ)) : xT p l e R s m args below meth c Q D cA B b k0 z0 en (pc) (ls) (r) (σ) := by
  obtain ⟨hx, hb, -⟩ := E
  intro lsJ H locs cells slots hO
  exact lv_iload hx hb hd  (hO.1.2.2 _ (by have := lget_mem (B := B) (b := b) ls (k1) 0 _ hg; rwa [Nat.zero_add] at this)) (k _ _ _ _ _ hO)
theorem n_lload_n {k1 : Fin 4} {x : Int64} (E : xEnv p l e R s m args below meth c D cA B b en) (hd : decode en.2.1 pc = .ok (.lload_n k1, 1)) (hg : lget ls (k1.val) = some (.long x)) (k : xT p l e R s m args below meth c Q D cA B b k0 z0 en (pc + 1) (ls) (.long x :: r) (σ)) : xT p l e R s m args below meth c Q D cA B b k0 z0 en (pc) (ls) (r) (σ) := by
  obtain ⟨hx, hb, -⟩ := E
  intro lsJ H locs cells slots hO
  exact lv_lload_n hx hb hd rfl (hO.1.2.2 _ (by have := lget_mem (B := B) (b := b) ls (k1.val) 0 _ hg; rwa [Nat.zero_add] at this)) (k _ _ _ _ _ hO)
theorem n_lload {k1 : Nat} {x : Int64} (E : xEnv p l e R s m args below meth c D cA B b en) (hd : decode en.2.1 pc = .ok (.lload k1, 2)) (hg : lget ls (k1) = some (.long x)) (k : xT p l e R s m args below meth c Q D cA B b k0 z0 en (pc + 2) (ls) (.long x :: r) (σ)) : xT p l e R s m args below meth c Q D cA B b k0 z0 en (pc) (ls) (r) (σ) := by
  obtain ⟨hx, hb, -⟩ := E
  intro lsJ H locs cells slots hO
  exact lv_lload hx hb hd  (hO.1.2.2 _ (by have := lget_mem (B := B) (b := b) ls (k1) 0 _ hg; rwa [Nat.zero_add] at this)) (k _ _ _ _ _ hO)
theorem n_fload_n {k1 : Fin 4} {x : UInt32} (E : xEnv p l e R s m args below meth c D cA B b en) (hd : decode en.2.1 pc = .ok (.fload_n k1, 1)) (hg : lget ls (k1.val) = some (.float x)) (k : xT p l e R s m args below meth c Q D cA B b k0 z0 en (pc + 1) (ls) (.float x :: r) (σ)) : xT p l e R s m args below meth c Q D cA B b k0 z0 en (pc) (ls) (r) (σ) := by
  obtain ⟨hx, hb, -⟩ := E
  intro lsJ H locs cells slots hO
  exact lv_fload_n hx hb hd rfl (hO.1.2.2 _ (by have := lget_mem (B := B) (b := b) ls (k1.val) 0 _ hg; rwa [Nat.zero_add] at this)) (k _ _ _ _ _ hO)
theorem n_dload_n {k1 : Fin 4} {x : UInt64} (E : xEnv p l e R s m args below meth c D cA B b en) (hd : decode en.2.1 pc = .ok (.dload_n k1, 1)) (hg : lget ls (k1.val) = some (.double x)) (k : xT p l e R s m args below meth c Q D cA B b k0 z0 en (pc + 1) (ls) (.double x :: r) (σ)) : xT p l e R s m args below meth c Q D cA B b k0 z0 en (pc) (ls) (r) (σ) := by
  obtain ⟨hx, hb, -⟩ := E
  intro lsJ H locs cells slots hO
  exact lv_dload_n hx hb hd rfl (hO.1.2.2 _ (by have := lget_mem (B := B) (b := b) ls (k1.val) 0 _ hg; rwa [Nat.zero_add] at this)) (k _ _ _ _ _ hO)
theorem n_dload {k1 : Nat} {x : UInt64} (E : xEnv p l e R s m args below meth c D cA B b en) (hd : decode en.2.1 pc = .ok (.dload k1, 2)) (hg : lget ls (k1) = some (.double x)) (k : xT p l e R s m args below meth c Q D cA B b k0 z0 en (pc + 2) (ls) (.double x :: r) (σ)) : xT p l e R s m args below meth c Q D cA B b k0 z0 en (pc) (ls) (r) (σ) := by
  obtain ⟨hx, hb, -⟩ := E
  intro lsJ H locs cells slots hO
  exact lv_dload hx hb hd  (hO.1.2.2 _ (by have := lget_mem (B := B) (b := b) ls (k1) 0 _ hg; rwa [Nat.zero_add] at this)) (k _ _ _ _ _ hO)
theorem n_aload_n {k1 : Fin 4} {x : Nat} (E : xEnv p l e R s m args below meth c D cA B b en) (hd : decode en.2.1 pc = .ok (.aload_n k1, 1)) (hg : lget ls (k1.val) = some (.ref x)) (k : xT p l e R s m args below meth c Q D cA B b k0 z0 en (pc + 1) (ls) (.ref x :: r) (σ)) : xT p l e R s m args below meth c Q D cA B b k0 z0 en (pc) (ls) (r) (σ) := by
  obtain ⟨hx, hb, -⟩ := E
  intro lsJ H locs cells slots hO
  exact lv_aload_n hx hb hd rfl (hO.1.2.2 _ (by have := lget_mem (B := B) (b := b) ls (k1.val) 0 _ hg; rwa [Nat.zero_add] at this)) (k _ _ _ _ _ hO)
theorem n_aload {k1 : Nat} {x : Nat} (E : xEnv p l e R s m args below meth c D cA B b en) (hd : decode en.2.1 pc = .ok (.aload k1, 2)) (hg : lget ls (k1) = some (.ref x)) (k : xT p l e R s m args below meth c Q D cA B b k0 z0 en (pc + 2) (ls) (.ref x :: r) (σ)) : xT p l e R s m args below meth c Q D cA B b k0 z0 en (pc) (ls) (r) (σ) := by
  obtain ⟨hx, hb, -⟩ := E
  intro lsJ H locs cells slots hO
  exact lv_aload hx hb hd  (hO.1.2.2 _ (by have := lget_mem (B := B) (b := b) ls (k1) 0 _ hg; rwa [Nat.zero_add] at this)) (k _ _ _ _ _ hO)
theorem n_istore_n {k1 : Fin 4} {x : Int32} {w : Option Value} {ls2 : xL} (E : xEnv p l e R s m args below meth c D cA B b en) (hd : decode en.2.1 pc = .ok (.istore_n k1, 1)) (hg : lst1 ls (k1.val) w = some ls2) (hw : ∀ z, w = some z → z = .int x) (k : xT p l e R s m args below meth c Q D cA B b k0 z0 en (pc + 1) (ls2) (r) (σ)) : xT p l e R s m args below meth c Q D cA B b k0 z0 en (pc) (ls) (.int x :: r) (σ) := by
  obtain ⟨hx, hb, -⟩ := E
  intro lsJ H locs cells slots ⟨hl, hn, hO⟩
  obtain ⟨g1, g2, g3⟩ := lst1_f (B := B) (b := b) hg
  refine lv_istore_n hx hb hd rfl hl (by rw [← hn]; exact g2) rfl (fun lsJ2 hl2 => k lsJ2 H locs cells slots ⟨lv_mem hl2 (g3 (.int x) (fun z hz => by rw [hw z hz]; rfl)), g1.trans hn, hO⟩)
theorem n_istore {k1 : Nat} {x : Int32} {w : Option Value} {ls2 : xL} (E : xEnv p l e R s m args below meth c D cA B b en) (hd : decode en.2.1 pc = .ok (.istore k1, 2)) (hg : lst1 ls (k1) w = some ls2) (hw : ∀ z, w = some z → z = .int x) (k : xT p l e R s m args below meth c Q D cA B b k0 z0 en (pc + 2) (ls2) (r) (σ)) : xT p l e R s m args below meth c Q D cA B b k0 z0 en (pc) (ls) (.int x :: r) (σ) := by
  obtain ⟨hx, hb, -⟩ := E
  intro lsJ H locs cells slots ⟨hl, hn, hO⟩
  obtain ⟨g1, g2, g3⟩ := lst1_f (B := B) (b := b) hg
  refine lv_istore hx hb hd  hl (by rw [← hn]; exact g2) rfl (fun lsJ2 hl2 => k lsJ2 H locs cells slots ⟨lv_mem hl2 (g3 (.int x) (fun z hz => by rw [hw z hz]; rfl)), g1.trans hn, hO⟩)
theorem n_lstore_n {k1 : Fin 4} {x : Int64} {ls2 : xL} (E : xEnv p l e R s m args below meth c D cA B b en) (hd : decode en.2.1 pc = .ok (.lstore_n k1, 1)) (hg : lst2 ls (k1.val) (.long x) = some ls2) (k : xT p l e R s m args below meth c Q D cA B b k0 z0 en (pc + 1) (ls2) (r) (σ)) : xT p l e R s m args below meth c Q D cA B b k0 z0 en (pc) (ls) (.long x :: r) (σ) := by
  obtain ⟨hx, hb, -⟩ := E
  intro lsJ H locs cells slots ⟨hl, hn, hO⟩
  obtain ⟨g1, g2, g3⟩ := lst2_f (B := B) (b := b) hg
  refine lv_lstore_n hx hb hd rfl hl (by rw [← hn]; exact g2) rfl (fun lsJ2 hl2 => k lsJ2 H locs cells slots ⟨lv_mem hl2 g3, g1.trans hn, hO⟩)
theorem n_lstore {k1 : Nat} {x : Int64} {ls2 : xL} (E : xEnv p l e R s m args below meth c D cA B b en) (hd : decode en.2.1 pc = .ok (.lstore k1, 2)) (hg : lst2 ls (k1) (.long x) = some ls2) (k : xT p l e R s m args below meth c Q D cA B b k0 z0 en (pc + 2) (ls2) (r) (σ)) : xT p l e R s m args below meth c Q D cA B b k0 z0 en (pc) (ls) (.long x :: r) (σ) := by
  obtain ⟨hx, hb, -⟩ := E
  intro lsJ H locs cells slots ⟨hl, hn, hO⟩
  obtain ⟨g1, g2, g3⟩ := lst2_f (B := B) (b := b) hg
  refine lv_lstore hx hb hd  hl (by rw [← hn]; exact g2) rfl (fun lsJ2 hl2 => k lsJ2 H locs cells slots ⟨lv_mem hl2 g3, g1.trans hn, hO⟩)
theorem n_dstore {k1 : Nat} {x : UInt64} {ls2 : xL} (E : xEnv p l e R s m args below meth c D cA B b en) (hd : decode en.2.1 pc = .ok (.dstore k1, 2)) (hg : lst2 ls (k1) (.double x) = some ls2) (k : xT p l e R s m args below meth c Q D cA B b k0 z0 en (pc + 2) (ls2) (r) (σ)) : xT p l e R s m args below meth c Q D cA B b k0 z0 en (pc) (ls) (.double x :: r) (σ) := by
  obtain ⟨hx, hb, -⟩ := E
  intro lsJ H locs cells slots ⟨hl, hn, hO⟩
  obtain ⟨g1, g2, g3⟩ := lst2_f (B := B) (b := b) hg
  refine lv_dstore hx hb hd  hl (by rw [← hn]; exact g2) rfl (fun lsJ2 hl2 => k lsJ2 H locs cells slots ⟨lv_mem hl2 g3, g1.trans hn, hO⟩)
theorem n_astore_n {k1 : Fin 4} {x : Nat} {w : Option Value} {ls2 : xL} (E : xEnv p l e R s m args below meth c D cA B b en) (hd : decode en.2.1 pc = .ok (.astore_n k1, 1)) (hg : lst1 ls (k1.val) w = some ls2) (hw : ∀ z, w = some z → z = .ref x) (k : xT p l e R s m args below meth c Q D cA B b k0 z0 en (pc + 1) (ls2) (r) (σ)) : xT p l e R s m args below meth c Q D cA B b k0 z0 en (pc) (ls) (.ref x :: r) (σ) := by
  obtain ⟨hx, hb, -⟩ := E
  intro lsJ H locs cells slots ⟨hl, hn, hO⟩
  obtain ⟨g1, g2, g3⟩ := lst1_f (B := B) (b := b) hg
  refine lv_astore_n hx hb hd rfl hl (by rw [← hn]; exact g2) rfl (fun lsJ2 hl2 => k lsJ2 H locs cells slots ⟨lv_mem hl2 (g3 (.ref (xad B b x)) (fun z hz => by rw [hw z hz]; rfl)), g1.trans hn, hO⟩)
theorem n_astore {k1 : Nat} {x : Nat} {w : Option Value} {ls2 : xL} (E : xEnv p l e R s m args below meth c D cA B b en) (hd : decode en.2.1 pc = .ok (.astore k1, 2)) (hg : lst1 ls (k1) w = some ls2) (hw : ∀ z, w = some z → z = .ref x) (k : xT p l e R s m args below meth c Q D cA B b k0 z0 en (pc + 2) (ls2) (r) (σ)) : xT p l e R s m args below meth c Q D cA B b k0 z0 en (pc) (ls) (.ref x :: r) (σ) := by
  obtain ⟨hx, hb, -⟩ := E
  intro lsJ H locs cells slots ⟨hl, hn, hO⟩
  obtain ⟨g1, g2, g3⟩ := lst1_f (B := B) (b := b) hg
  refine lv_astore hx hb hd  hl (by rw [← hn]; exact g2) rfl (fun lsJ2 hl2 => k lsJ2 H locs cells slots ⟨lv_mem hl2 (g3 (.ref (xad B b x)) (fun z hz => by rw [hw z hz]; rfl)), g1.trans hn, hO⟩)
theorem n_iinc {k1 : Nat} {n : Int} {x : Int32} {ls2 : xL} (E : xEnv p l e R s m args below meth c D cA B b en) (hd : decode en.2.1 pc = .ok (.iinc k1 n, 3)) (h0 : lget ls k1 = some (.int x)) (hg : lst1 ls k1 (some (.int (x + Int32.ofInt n))) = some ls2) (k : xT p l e R s m args below meth c Q D cA B b k0 z0 en (pc + 3) (ls2) (r) (σ)) : xT p l e R s m args below meth c Q D cA B b k0 z0 en (pc) (ls) (r) (σ) := by
  obtain ⟨hx, hb, -⟩ := E
  intro lsJ H locs cells slots ⟨hl, hn, hO⟩
  obtain ⟨g1, g2, g3⟩ := lst1_f (B := B) (b := b) hg
  have hm : (k1, Value.int x) ∈ xlp B b 0 ls := by have := lget_mem (B := B) (b := b) ls k1 0 _ h0; rwa [Nat.zero_add] at this
  obtain ⟨j, hj⟩ := List.getElem?_of_mem hm
  refine lv_iinc hx hb hd hl hj rfl (by rw [← hn]; exact g2) rfl (fun lsJ2 hl2 => k lsJ2 H locs cells slots ⟨lv_mem hl2 (g3 _ (fun z hz => by cases hz; rfl)), g1.trans hn, hO⟩)
theorem n_iadd {x y : Int32} (E : xEnv p l e R s m args below meth c D cA B b en) (hd : decode en.2.1 pc = .ok (.iadd, 1))  (k : xT p l e R s m args below meth c Q D cA B b k0 z0 en (pc + 1) (ls) (.int (x + y) :: r) (σ)) : xT p l e R s m args below meth c Q D cA B b k0 z0 en (pc) (ls) (.int y :: .int x :: r) (σ) := by
  obtain ⟨hx, hb, -⟩ := E
  intro lsJ H locs cells slots hO
  exact lv_iadd hx hb hd  (k _ _ _ _ _ hO)
theorem n_isub {x y : Int32} (E : xEnv p l e R s m args below meth c D cA B b en) (hd : decode en.2.1 pc = .ok (.isub, 1))  (k : xT p l e R s m args below meth c Q D cA B b k0 z0 en (pc + 1) (ls) (.int (x - y) :: r) (σ)) : xT p l e R s m args below meth c Q D cA B b k0 z0 en (pc) (ls) (.int y :: .int x :: r) (σ) := by
  obtain ⟨hx, hb, -⟩ := E
  intro lsJ H locs cells slots hO
  exact lv_isub hx hb hd  (k _ _ _ _ _ hO)
theorem n_imul {x y : Int32} (E : xEnv p l e R s m args below meth c D cA B b en) (hd : decode en.2.1 pc = .ok (.imul, 1))  (k : xT p l e R s m args below meth c Q D cA B b k0 z0 en (pc + 1) (ls) (.int (x * y) :: r) (σ)) : xT p l e R s m args below meth c Q D cA B b k0 z0 en (pc) (ls) (.int y :: .int x :: r) (σ) := by
  obtain ⟨hx, hb, -⟩ := E
  intro lsJ H locs cells slots hO
  exact lv_imul hx hb hd  (k _ _ _ _ _ hO)
theorem n_idiv {x y : Int32} (E : xEnv p l e R s m args below meth c D cA B b en) (hd : decode en.2.1 pc = .ok (.idiv, 1)) (hy : ¬ y = 0) (k : xT p l e R s m args below meth c Q D cA B b k0 z0 en (pc + 1) (ls) (.int (x / y) :: r) (σ)) : xT p l e R s m args below meth c Q D cA B b k0 z0 en (pc) (ls) (.int y :: .int x :: r) (σ) := by
  obtain ⟨hx, hb, -⟩ := E
  intro lsJ H locs cells slots hO
  exact lv_idiv hx hb hd hy (k _ _ _ _ _ hO)
theorem n_irem {x y : Int32} (E : xEnv p l e R s m args below meth c D cA B b en) (hd : decode en.2.1 pc = .ok (.irem, 1)) (hy : ¬ y = 0) (k : xT p l e R s m args below meth c Q D cA B b k0 z0 en (pc + 1) (ls) (.int (x - x / y * y) :: r) (σ)) : xT p l e R s m args below meth c Q D cA B b k0 z0 en (pc) (ls) (.int y :: .int x :: r) (σ) := by
  obtain ⟨hx, hb, -⟩ := E
  intro lsJ H locs cells slots hO
  exact lv_irem hx hb hd hy (k _ _ _ _ _ hO)
theorem n_iand {x y : Int32} (E : xEnv p l e R s m args below meth c D cA B b en) (hd : decode en.2.1 pc = .ok (.iand, 1))  (k : xT p l e R s m args below meth c Q D cA B b k0 z0 en (pc + 1) (ls) (.int (x &&& y) :: r) (σ)) : xT p l e R s m args below meth c Q D cA B b k0 z0 en (pc) (ls) (.int y :: .int x :: r) (σ) := by
  obtain ⟨hx, hb, -⟩ := E
  intro lsJ H locs cells slots hO
  exact lv_iand hx hb hd  (k _ _ _ _ _ hO)
theorem n_ishr {x y : Int32} (E : xEnv p l e R s m args below meth c D cA B b en) (hd : decode en.2.1 pc = .ok (.ishr, 1))  (k : xT p l e R s m args below meth c Q D cA B b k0 z0 en (pc + 1) (ls) (.int (x >>> (y &&& 31)) :: r) (σ)) : xT p l e R s m args below meth c Q D cA B b k0 z0 en (pc) (ls) (.int y :: .int x :: r) (σ) := by
  obtain ⟨hx, hb, -⟩ := E
  intro lsJ H locs cells slots hO
  exact lv_ishr hx hb hd  (k _ _ _ _ _ hO)
theorem n_ladd {x y : Int64} (E : xEnv p l e R s m args below meth c D cA B b en) (hd : decode en.2.1 pc = .ok (.ladd, 1))  (k : xT p l e R s m args below meth c Q D cA B b k0 z0 en (pc + 1) (ls) (.long (x + y) :: r) (σ)) : xT p l e R s m args below meth c Q D cA B b k0 z0 en (pc) (ls) (.long y :: .long x :: r) (σ) := by
  obtain ⟨hx, hb, -⟩ := E
  intro lsJ H locs cells slots hO
  exact lv_ladd hx hb hd  (k _ _ _ _ _ hO)
theorem n_lsub {x y : Int64} (E : xEnv p l e R s m args below meth c D cA B b en) (hd : decode en.2.1 pc = .ok (.lsub, 1))  (k : xT p l e R s m args below meth c Q D cA B b k0 z0 en (pc + 1) (ls) (.long (x - y) :: r) (σ)) : xT p l e R s m args below meth c Q D cA B b k0 z0 en (pc) (ls) (.long y :: .long x :: r) (σ) := by
  obtain ⟨hx, hb, -⟩ := E
  intro lsJ H locs cells slots hO
  exact lv_lsub hx hb hd  (k _ _ _ _ _ hO)
theorem n_lmul {x y : Int64} (E : xEnv p l e R s m args below meth c D cA B b en) (hd : decode en.2.1 pc = .ok (.lmul, 1))  (k : xT p l e R s m args below meth c Q D cA B b k0 z0 en (pc + 1) (ls) (.long (x * y) :: r) (σ)) : xT p l e R s m args below meth c Q D cA B b k0 z0 en (pc) (ls) (.long y :: .long x :: r) (σ) := by
  obtain ⟨hx, hb, -⟩ := E
  intro lsJ H locs cells slots hO
  exact lv_lmul hx hb hd  (k _ _ _ _ _ hO)
theorem n_land {x y : Int64} (E : xEnv p l e R s m args below meth c D cA B b en) (hd : decode en.2.1 pc = .ok (.land, 1))  (k : xT p l e R s m args below meth c Q D cA B b k0 z0 en (pc + 1) (ls) (.long (x &&& y) :: r) (σ)) : xT p l e R s m args below meth c Q D cA B b k0 z0 en (pc) (ls) (.long y :: .long x :: r) (σ) := by
  obtain ⟨hx, hb, -⟩ := E
  intro lsJ H locs cells slots hO
  exact lv_land hx hb hd  (k _ _ _ _ _ hO)
theorem n_lor {x y : Int64} (E : xEnv p l e R s m args below meth c D cA B b en) (hd : decode en.2.1 pc = .ok (.lor, 1))  (k : xT p l e R s m args below meth c Q D cA B b k0 z0 en (pc + 1) (ls) (.long (x ||| y) :: r) (σ)) : xT p l e R s m args below meth c Q D cA B b k0 z0 en (pc) (ls) (.long y :: .long x :: r) (σ) := by
  obtain ⟨hx, hb, -⟩ := E
  intro lsJ H locs cells slots hO
  exact lv_lor hx hb hd  (k _ _ _ _ _ hO)
theorem n_lxor {x y : Int64} (E : xEnv p l e R s m args below meth c D cA B b en) (hd : decode en.2.1 pc = .ok (.lxor, 1))  (k : xT p l e R s m args below meth c Q D cA B b k0 z0 en (pc + 1) (ls) (.long (x ^^^ y) :: r) (σ)) : xT p l e R s m args below meth c Q D cA B b k0 z0 en (pc) (ls) (.long y :: .long x :: r) (σ) := by
  obtain ⟨hx, hb, -⟩ := E
  intro lsJ H locs cells slots hO
  exact lv_lxor hx hb hd  (k _ _ _ _ _ hO)
theorem n_lneg {x : Int64} (E : xEnv p l e R s m args below meth c D cA B b en) (hd : decode en.2.1 pc = .ok (.lneg, 1))  (k : xT p l e R s m args below meth c Q D cA B b k0 z0 en (pc + 1) (ls) (.long (-x) :: r) (σ)) : xT p l e R s m args below meth c Q D cA B b k0 z0 en (pc) (ls) (.long x :: r) (σ) := by
  obtain ⟨hx, hb, -⟩ := E
  intro lsJ H locs cells slots hO
  exact lv_lneg hx hb hd (k _ _ _ _ _ hO)
theorem n_lshl {x : Int64} {y : Int32} (E : xEnv p l e R s m args below meth c D cA B b en) (hd : decode en.2.1 pc = .ok (.lshl, 1))  (k : xT p l e R s m args below meth c Q D cA B b k0 z0 en (pc + 1) (ls) (.long (x <<< (y.toInt64 &&& 63)) :: r) (σ)) : xT p l e R s m args below meth c Q D cA B b k0 z0 en (pc) (ls) (.int y :: .long x :: r) (σ) := by
  obtain ⟨hx, hb, -⟩ := E
  intro lsJ H locs cells slots hO
  exact lv_lshl hx hb hd rfl (k _ _ _ _ _ hO)
theorem n_lushr {x : Int64} {y : Int32} (E : xEnv p l e R s m args below meth c D cA B b en) (hd : decode en.2.1 pc = .ok (.lushr, 1))  (k : xT p l e R s m args below meth c Q D cA B b k0 z0 en (pc + 1) (ls) (.long ((x.toUInt64 >>> (y.toInt64.toUInt64 &&& Int64.toUInt64 63)).toInt64) :: r) (σ)) : xT p l e R s m args below meth c Q D cA B b k0 z0 en (pc) (ls) (.int y :: .long x :: r) (σ) := by
  obtain ⟨hx, hb, -⟩ := E
  intro lsJ H locs cells slots hO
  exact lv_lushr hx hb hd rfl (k _ _ _ _ _ hO)
theorem n_lcmp {x y : Int64} (E : xEnv p l e R s m args below meth c D cA B b en) (hd : decode en.2.1 pc = .ok (.lcmp, 1))  (k : xT p l e R s m args below meth c Q D cA B b k0 z0 en (pc + 1) (ls) (.int (lg_cmp x y) :: r) (σ)) : xT p l e R s m args below meth c Q D cA B b k0 z0 en (pc) (ls) (.long y :: .long x :: r) (σ) := by
  obtain ⟨hx, hb, -⟩ := E
  intro lsJ H locs cells slots hO
  exact W.lcmp hx hb hd  (k _ _ _ _ _ hO)
theorem n_i2l {x : Int32} (E : xEnv p l e R s m args below meth c D cA B b en) (hd : decode en.2.1 pc = .ok (.i2l, 1))  (k : xT p l e R s m args below meth c Q D cA B b k0 z0 en (pc + 1) (ls) (.long x.toInt64 :: r) (σ)) : xT p l e R s m args below meth c Q D cA B b k0 z0 en (pc) (ls) (.int x :: r) (σ) := by
  obtain ⟨hx, hb, -⟩ := E
  intro lsJ H locs cells slots hO
  exact lv_i2l hx hb hd rfl (k _ _ _ _ _ hO)
theorem n_l2i {x : Int64} (E : xEnv p l e R s m args below meth c D cA B b en) (hd : decode en.2.1 pc = .ok (.l2i, 1))  (k : xT p l e R s m args below meth c Q D cA B b k0 z0 en (pc + 1) (ls) (.int x.toInt32 :: r) (σ)) : xT p l e R s m args below meth c Q D cA B b k0 z0 en (pc) (ls) (.long x :: r) (σ) := by
  obtain ⟨hx, hb, -⟩ := E
  intro lsJ H locs cells slots hO
  exact lv_l2i hx hb hd rfl (k _ _ _ _ _ hO)
theorem n_i2f {x : Int32} (E : xEnv p l e R s m args below meth c D cA B b en) (hd : decode en.2.1 pc = .ok (.i2f, 1))  (k : xT p l e R s m args below meth c Q D cA B b k0 z0 en (pc + 1) (ls) (.float (FP.i2f x) :: r) (σ)) : xT p l e R s m args below meth c Q D cA B b k0 z0 en (pc) (ls) (.int x :: r) (σ) := by
  obtain ⟨hx, hb, -⟩ := E
  intro lsJ H locs cells slots hO
  exact lv_i2f hx hb hd  (k _ _ _ _ _ hO)
theorem n_i2d {x : Int32} (E : xEnv p l e R s m args below meth c D cA B b en) (hd : decode en.2.1 pc = .ok (.i2d, 1))  (k : xT p l e R s m args below meth c Q D cA B b k0 z0 en (pc + 1) (ls) (.double (FP.i2d x) :: r) (σ)) : xT p l e R s m args below meth c Q D cA B b k0 z0 en (pc) (ls) (.int x :: r) (σ) := by
  obtain ⟨hx, hb, -⟩ := E
  intro lsJ H locs cells slots hO
  exact lv_i2d hx hb hd  (k _ _ _ _ _ hO)
theorem n_l2d {x : Int64} (E : xEnv p l e R s m args below meth c D cA B b en) (hd : decode en.2.1 pc = .ok (.l2d, 1))  (k : xT p l e R s m args below meth c Q D cA B b k0 z0 en (pc + 1) (ls) (.double (FP.l2d x) :: r) (σ)) : xT p l e R s m args below meth c Q D cA B b k0 z0 en (pc) (ls) (.long x :: r) (σ) := by
  obtain ⟨hx, hb, -⟩ := E
  intro lsJ H locs cells slots hO
  exact lv_l2d hx hb hd  (k _ _ _ _ _ hO)
theorem n_d2l {x : UInt64} (E : xEnv p l e R s m args below meth c D cA B b en) (hd : decode en.2.1 pc = .ok (.d2l, 1))  (k : xT p l e R s m args below meth c Q D cA B b k0 z0 en (pc + 1) (ls) (.long (FP.d2l x) :: r) (σ)) : xT p l e R s m args below meth c Q D cA B b k0 z0 en (pc) (ls) (.double x :: r) (σ) := by
  obtain ⟨hx, hb, -⟩ := E
  intro lsJ H locs cells slots hO
  exact lv_d2l hx hb hd  (k _ _ _ _ _ hO)
theorem n_f2d {x : UInt32} (E : xEnv p l e R s m args below meth c D cA B b en) (hd : decode en.2.1 pc = .ok (.f2d, 1)) (hn : FP.f2d x &&& 0x7fffffffffffffff ≤ 0x7ff0000000000000) (k : xT p l e R s m args below meth c Q D cA B b k0 z0 en (pc + 1) (ls) (.double (FP.f2d x) :: r) (σ)) : xT p l e R s m args below meth c Q D cA B b k0 z0 en (pc) (ls) (.float x :: r) (σ) := by
  obtain ⟨hx, hb, -⟩ := E
  intro lsJ H locs cells slots hO
  exact lv_f2d hx hb hd hn (k _ _ _ _ _ hO)
theorem n_fdiv {x y : UInt32} (E : xEnv p l e R s m args below meth c D cA B b en) (hd : decode en.2.1 pc = .ok (.fdiv, 1)) (hn : FP.fdiv x y &&& 0x7fffffff ≤ 0x7f800000) (k : xT p l e R s m args below meth c Q D cA B b k0 z0 en (pc + 1) (ls) (.float (FP.fdiv x y) :: r) (σ)) : xT p l e R s m args below meth c Q D cA B b k0 z0 en (pc) (ls) (.float y :: .float x :: r) (σ) := by
  obtain ⟨hx, hb, -⟩ := E
  intro lsJ H locs cells slots hO
  exact lv_fdiv hx hb hd hn (k _ _ _ _ _ hO)
theorem n_ddiv {x y : UInt64} (E : xEnv p l e R s m args below meth c D cA B b en) (hd : decode en.2.1 pc = .ok (.ddiv, 1)) (hn : FP.ddiv x y &&& 0x7fffffffffffffff ≤ 0x7ff0000000000000) (k : xT p l e R s m args below meth c Q D cA B b k0 z0 en (pc + 1) (ls) (.double (FP.ddiv x y) :: r) (σ)) : xT p l e R s m args below meth c Q D cA B b k0 z0 en (pc) (ls) (.double y :: .double x :: r) (σ) := by
  obtain ⟨hx, hb, -⟩ := E
  intro lsJ H locs cells slots hO
  exact lv_ddiv hx hb hd hn (k _ _ _ _ _ hO)
theorem n_dmul {x y : UInt64} (E : xEnv p l e R s m args below meth c D cA B b en) (hd : decode en.2.1 pc = .ok (.dmul, 1)) (hn : FP.dmul x y &&& 0x7fffffffffffffff ≤ 0x7ff0000000000000) (k : xT p l e R s m args below meth c Q D cA B b k0 z0 en (pc + 1) (ls) (.double (FP.dmul x y) :: r) (σ)) : xT p l e R s m args below meth c Q D cA B b k0 z0 en (pc) (ls) (.double y :: .double x :: r) (σ) := by
  obtain ⟨hx, hb, -⟩ := E
  intro lsJ H locs cells slots hO
  exact lv_dmul hx hb hd hn (k _ _ _ _ _ hO)
theorem n_dsub {x y : UInt64} (E : xEnv p l e R s m args below meth c D cA B b en) (hd : decode en.2.1 pc = .ok (.dsub, 1)) (hn : FP.dsub x y &&& 0x7fffffffffffffff ≤ 0x7ff0000000000000) (k : xT p l e R s m args below meth c Q D cA B b k0 z0 en (pc + 1) (ls) (.double (FP.dsub x y) :: r) (σ)) : xT p l e R s m args below meth c Q D cA B b k0 z0 en (pc) (ls) (.double y :: .double x :: r) (σ) := by
  obtain ⟨hx, hb, -⟩ := E
  intro lsJ H locs cells slots hO
  exact lv_dsub hx hb hd hn (k _ _ _ _ _ hO)
theorem n_fcmp {x y : UInt32} {op : CmpOp} (E : xEnv p l e R s m args below meth c D cA B b en) (hd : decode en.2.1 pc = .ok (.fcmp op, 1))  (k : xT p l e R s m args below meth c Q D cA B b k0 z0 en (pc + 1) (ls) (.int (Op.cmpValue (FP.fcmp x y) op) :: r) (σ)) : xT p l e R s m args below meth c Q D cA B b k0 z0 en (pc) (ls) (.float y :: .float x :: r) (σ) := by
  obtain ⟨hx, hb, -⟩ := E
  intro lsJ H locs cells slots hO
  exact lv_fcmp hx hb hd (k _ _ _ _ _ hO)
theorem n_dcmp {x y : UInt64} {op : CmpOp} (E : xEnv p l e R s m args below meth c D cA B b en) (hd : decode en.2.1 pc = .ok (.dcmp op, 1))  (k : xT p l e R s m args below meth c Q D cA B b k0 z0 en (pc + 1) (ls) (.int (Op.cmpValue (FP.dcmp x y) op) :: r) (σ)) : xT p l e R s m args below meth c Q D cA B b k0 z0 en (pc) (ls) (.double y :: .double x :: r) (σ) := by
  obtain ⟨hx, hb, -⟩ := E
  intro lsJ H locs cells slots hO
  exact lv_dcmp hx hb hd (k _ _ _ _ _ hO)
theorem n_dup {v : Value} (E : xEnv p l e R s m args below meth c D cA B b en) (hd : decode en.2.1 pc = .ok (.dup, 1)) (hv : v.category = 1) (k : xT p l e R s m args below meth c Q D cA B b k0 z0 en (pc + 1) (ls) (v :: v :: r) (σ)) : xT p l e R s m args below meth c Q D cA B b k0 z0 en (pc) (ls) (v :: r) (σ) := by
  obtain ⟨hx, hb, -⟩ := E
  intro lsJ H locs cells slots hO
  exact lv_dup hx hb hd (by rw [xcv_cat]; exact hv) (k _ _ _ _ _ hO)
theorem n_pop {v : Value} (E : xEnv p l e R s m args below meth c D cA B b en) (hd : decode en.2.1 pc = .ok (.pop, 1)) (hv : v.category = 1) (k : xT p l e R s m args below meth c Q D cA B b k0 z0 en (pc + 1) (ls) (r) (σ)) : xT p l e R s m args below meth c Q D cA B b k0 z0 en (pc) (ls) (v :: r) (σ) := by
  obtain ⟨hx, hb, -⟩ := E
  intro lsJ H locs cells slots hO
  exact lv_pop hx hb hd (by rw [xcv_cat]; exact hv) (k _ _ _ _ _ hO)
theorem n_dup2a {v : Value} (E : xEnv p l e R s m args below meth c D cA B b en) (hd : decode en.2.1 pc = .ok (.dup2, 1)) (hv : v.category = 2) (k : xT p l e R s m args below meth c Q D cA B b k0 z0 en (pc + 1) (ls) (v :: v :: r) (σ)) : xT p l e R s m args below meth c Q D cA B b k0 z0 en (pc) (ls) (v :: r) (σ) := by
  obtain ⟨hx, hb, -⟩ := E
  intro lsJ H locs cells slots hO
  exact lv_dup2_2 hx hb hd (by rw [xcv_cat]; exact hv) (k _ _ _ _ _ hO)
theorem n_dup2b {v w : Value} (E : xEnv p l e R s m args below meth c D cA B b en) (hd : decode en.2.1 pc = .ok (.dup2, 1)) (hv : v.category = 1) (hw : w.category = 1) (k : xT p l e R s m args below meth c Q D cA B b k0 z0 en (pc + 1) (ls) (v :: w :: v :: w :: r) (σ)) : xT p l e R s m args below meth c Q D cA B b k0 z0 en (pc) (ls) (v :: w :: r) (σ) := by
  obtain ⟨hx, hb, -⟩ := E
  intro lsJ H locs cells slots hO
  exact lv_dup2_11 hx hb hd (by rw [xcv_cat]; exact hv) (by rw [xcv_cat]; exact hw) (k _ _ _ _ _ hO)
theorem n_goto {off : Int} {t : Nat} (E : xEnv p l e R s m args below meth c D cA B b en) (hd : decode en.2.1 pc = .ok (.goto off, 3)) (ht : (pc : Int) + off = (t : Int)) (k : xT p l e R s m args below meth c Q D cA B b k0 z0 en (t) (ls) (r) (σ)) : xT p l e R s m args below meth c Q D cA B b k0 z0 en (pc) (ls) (r) (σ) := by
  obtain ⟨hx, hb, -⟩ := E
  intro lsJ H locs cells slots hO
  exact lv_goto hx hb hd ht (k _ _ _ _ _ hO)
theorem n_if_eq {off : Int} {t : Nat} {x : Int32} (E : xEnv p l e R s m args below meth c D cA B b en) (hd : decode en.2.1 pc = .ok (.ifCond .eq off, 3)) (ht : (pc : Int) + off = (t : Int)) (k : xT p l e R s m args below meth c Q D cA B b k0 z0 en (if x = 0 then t else pc + 3) (ls) (r) (σ)) : xT p l e R s m args below meth c Q D cA B b k0 z0 en (pc) (ls) (.int x :: r) (σ) := by
  obtain ⟨hx, hb, -⟩ := E
  intro lsJ H locs cells slots hO
  have k1 := k _ _ _ _ _ hO
  exact lv_if_eq hx hb hd ht (fun q => by rw [if_pos q] at k1; exact k1) (fun q => by rw [if_neg q] at k1; exact k1)
theorem n_if_ne {off : Int} {t : Nat} {x : Int32} (E : xEnv p l e R s m args below meth c D cA B b en) (hd : decode en.2.1 pc = .ok (.ifCond .ne off, 3)) (ht : (pc : Int) + off = (t : Int)) (k : xT p l e R s m args below meth c Q D cA B b k0 z0 en (if ¬ x = 0 then t else pc + 3) (ls) (r) (σ)) : xT p l e R s m args below meth c Q D cA B b k0 z0 en (pc) (ls) (.int x :: r) (σ) := by
  obtain ⟨hx, hb, -⟩ := E
  intro lsJ H locs cells slots hO
  have k1 := k _ _ _ _ _ hO
  exact lv_if_ne hx hb hd ht (fun q => by rw [if_pos q] at k1; exact k1) (fun q => by rw [if_neg (fun z => z q)] at k1; exact k1)
theorem n_if_lt {off : Int} {t : Nat} {x : Int32} (E : xEnv p l e R s m args below meth c D cA B b en) (hd : decode en.2.1 pc = .ok (.ifCond .lt off, 3)) (ht : (pc : Int) + off = (t : Int)) (k : xT p l e R s m args below meth c Q D cA B b k0 z0 en (if x < 0 then t else pc + 3) (ls) (r) (σ)) : xT p l e R s m args below meth c Q D cA B b k0 z0 en (pc) (ls) (.int x :: r) (σ) := by
  obtain ⟨hx, hb, -⟩ := E
  intro lsJ H locs cells slots hO
  have k1 := k _ _ _ _ _ hO
  exact lv_if_lt hx hb hd ht (fun q => by rw [if_pos q] at k1; exact k1) (fun q => by rw [if_neg q] at k1; exact k1)
theorem n_if_ge {off : Int} {t : Nat} {x : Int32} (E : xEnv p l e R s m args below meth c D cA B b en) (hd : decode en.2.1 pc = .ok (.ifCond .ge off, 3)) (ht : (pc : Int) + off = (t : Int)) (k : xT p l e R s m args below meth c Q D cA B b k0 z0 en (if 0 ≤ x then t else pc + 3) (ls) (r) (σ)) : xT p l e R s m args below meth c Q D cA B b k0 z0 en (pc) (ls) (.int x :: r) (σ) := by
  obtain ⟨hx, hb, -⟩ := E
  intro lsJ H locs cells slots hO
  have k1 := k _ _ _ _ _ hO
  exact lv_if_ge hx hb hd ht (fun q => by rw [if_pos q] at k1; exact k1) (fun q => by rw [if_neg q] at k1; exact k1)
theorem n_if_gt {off : Int} {t : Nat} {x : Int32} (E : xEnv p l e R s m args below meth c D cA B b en) (hd : decode en.2.1 pc = .ok (.ifCond .gt off, 3)) (ht : (pc : Int) + off = (t : Int)) (k : xT p l e R s m args below meth c Q D cA B b k0 z0 en (if 0 < x then t else pc + 3) (ls) (r) (σ)) : xT p l e R s m args below meth c Q D cA B b k0 z0 en (pc) (ls) (.int x :: r) (σ) := by
  obtain ⟨hx, hb, -⟩ := E
  intro lsJ H locs cells slots hO
  have k1 := k _ _ _ _ _ hO
  exact lv_if_gt hx hb hd ht (fun q => by rw [if_pos q] at k1; exact k1) (fun q => by rw [if_neg q] at k1; exact k1)
theorem n_if_le {off : Int} {t : Nat} {x : Int32} (E : xEnv p l e R s m args below meth c D cA B b en) (hd : decode en.2.1 pc = .ok (.ifCond .le off, 3)) (ht : (pc : Int) + off = (t : Int)) (k : xT p l e R s m args below meth c Q D cA B b k0 z0 en (if x ≤ 0 then t else pc + 3) (ls) (r) (σ)) : xT p l e R s m args below meth c Q D cA B b k0 z0 en (pc) (ls) (.int x :: r) (σ) := by
  obtain ⟨hx, hb, -⟩ := E
  intro lsJ H locs cells slots hO
  have k1 := k _ _ _ _ _ hO
  exact lv_if_le hx hb hd ht (fun q => by rw [if_pos q] at k1; exact k1) (fun q => by rw [if_neg q] at k1; exact k1)
theorem n_icmp_eq {off : Int} {t : Nat} {x y : Int32} (E : xEnv p l e R s m args below meth c D cA B b en) (hd : decode en.2.1 pc = .ok (.if_icmp .eq off, 3)) (ht : (pc : Int) + off = (t : Int)) (k : xT p l e R s m args below meth c Q D cA B b k0 z0 en (if x = y then t else pc + 3) (ls) (r) (σ)) : xT p l e R s m args below meth c Q D cA B b k0 z0 en (pc) (ls) (.int y :: .int x :: r) (σ) := by
  obtain ⟨hx, hb, -⟩ := E
  intro lsJ H locs cells slots hO
  have k1 := k _ _ _ _ _ hO
  exact lv_icmp_eq hx hb hd ht (fun q => by rw [if_pos q] at k1; exact k1) (fun q => by rw [if_neg q] at k1; exact k1)
theorem n_icmp_ne {off : Int} {t : Nat} {x y : Int32} (E : xEnv p l e R s m args below meth c D cA B b en) (hd : decode en.2.1 pc = .ok (.if_icmp .ne off, 3)) (ht : (pc : Int) + off = (t : Int)) (k : xT p l e R s m args below meth c Q D cA B b k0 z0 en (if ¬ x = y then t else pc + 3) (ls) (r) (σ)) : xT p l e R s m args below meth c Q D cA B b k0 z0 en (pc) (ls) (.int y :: .int x :: r) (σ) := by
  obtain ⟨hx, hb, -⟩ := E
  intro lsJ H locs cells slots hO
  have k1 := k _ _ _ _ _ hO
  exact lv_icmp_ne hx hb hd ht (fun q => by rw [if_pos q] at k1; exact k1) (fun q => by rw [if_neg (fun z => z q)] at k1; exact k1)
theorem n_icmp_lt {off : Int} {t : Nat} {x y : Int32} (E : xEnv p l e R s m args below meth c D cA B b en) (hd : decode en.2.1 pc = .ok (.if_icmp .lt off, 3)) (ht : (pc : Int) + off = (t : Int)) (k : xT p l e R s m args below meth c Q D cA B b k0 z0 en (if x < y then t else pc + 3) (ls) (r) (σ)) : xT p l e R s m args below meth c Q D cA B b k0 z0 en (pc) (ls) (.int y :: .int x :: r) (σ) := by
  obtain ⟨hx, hb, -⟩ := E
  intro lsJ H locs cells slots hO
  have k1 := k _ _ _ _ _ hO
  exact lv_icmp_lt hx hb hd ht (fun q => by rw [if_pos q] at k1; exact k1) (fun q => by rw [if_neg q] at k1; exact k1)
theorem n_icmp_ge {off : Int} {t : Nat} {x y : Int32} (E : xEnv p l e R s m args below meth c D cA B b en) (hd : decode en.2.1 pc = .ok (.if_icmp .ge off, 3)) (ht : (pc : Int) + off = (t : Int)) (k : xT p l e R s m args below meth c Q D cA B b k0 z0 en (if y ≤ x then t else pc + 3) (ls) (r) (σ)) : xT p l e R s m args below meth c Q D cA B b k0 z0 en (pc) (ls) (.int y :: .int x :: r) (σ) := by
  obtain ⟨hx, hb, -⟩ := E
  intro lsJ H locs cells slots hO
  have k1 := k _ _ _ _ _ hO
  exact lv_icmp_ge hx hb hd ht (fun q => by rw [if_pos q] at k1; exact k1) (fun q => by rw [if_neg q] at k1; exact k1)
theorem n_icmp_gt {off : Int} {t : Nat} {x y : Int32} (E : xEnv p l e R s m args below meth c D cA B b en) (hd : decode en.2.1 pc = .ok (.if_icmp .gt off, 3)) (ht : (pc : Int) + off = (t : Int)) (k : xT p l e R s m args below meth c Q D cA B b k0 z0 en (if y < x then t else pc + 3) (ls) (r) (σ)) : xT p l e R s m args below meth c Q D cA B b k0 z0 en (pc) (ls) (.int y :: .int x :: r) (σ) := by
  obtain ⟨hx, hb, -⟩ := E
  intro lsJ H locs cells slots hO
  have k1 := k _ _ _ _ _ hO
  exact lv_icmp_gt hx hb hd ht (fun q => by rw [if_pos q] at k1; exact k1) (fun q => by rw [if_neg q] at k1; exact k1)
theorem n_icmp_le {off : Int} {t : Nat} {x y : Int32} (E : xEnv p l e R s m args below meth c D cA B b en) (hd : decode en.2.1 pc = .ok (.if_icmp .le off, 3)) (ht : (pc : Int) + off = (t : Int)) (k : xT p l e R s m args below meth c Q D cA B b k0 z0 en (if x ≤ y then t else pc + 3) (ls) (r) (σ)) : xT p l e R s m args below meth c Q D cA B b k0 z0 en (pc) (ls) (.int y :: .int x :: r) (σ) := by
  obtain ⟨hx, hb, -⟩ := E
  intro lsJ H locs cells slots hO
  have k1 := k _ _ _ _ _ hO
  exact lv_icmp_le hx hb hd ht (fun q => by rw [if_pos q] at k1; exact k1) (fun q => by rw [if_neg q] at k1; exact k1)
theorem n_tsw {d lo hi : Int} {offs : Array Int} {len t : Nat} {x : Int32} (E : xEnv p l e R s m args below meth c D cA B b en) (hd : decode en.2.1 pc = .ok (.tableswitch d lo hi offs, len)) (ht : ((x.toInt < lo ∨ hi < x.toInt) ∧ (pc : Int) + d = (t : Int)) ∨ (¬ (x.toInt < lo ∨ hi < x.toInt) ∧ ∃ o, offs[(x.toInt - lo).toNat]? = some o ∧ (pc : Int) + o = (t : Int))) (k : xT p l e R s m args below meth c Q D cA B b k0 z0 en (t) (ls) (r) (σ)) : xT p l e R s m args below meth c Q D cA B b k0 z0 en (pc) (ls) (.int x :: r) (σ) := by
  obtain ⟨hx, hb, -⟩ := E
  intro lsJ H locs cells slots hO
  rcases ht with ⟨q, ht⟩ | ⟨q, o, ho, ht⟩
  · exact lv_tableOut hx hb hd q ht (k _ _ _ _ _ hO)
  · exact lv_tableIn hx hb hd (fun z => q (Or.inl z)) (fun z => q (Or.inr z)) ho ht (k _ _ _ _ _ hO)
theorem n_lsw {d : Int} {ps : Array (Int × Int)} {len t : Nat} {x : Int32} (E : xEnv p l e R s m args below meth c D cA B b en) (hd : decode en.2.1 pc = .ok (.lookupswitch d ps, len)) (hp : (ps.toList.zip (ps.toList.drop 1)).all (fun (a, next) => a.1 < next.1) = true) (ht : (pc : Int) + Op.lookupswitch.offset ps.toList d x.toInt = (t : Int)) (k : xT p l e R s m args below meth c Q D cA B b k0 z0 en (t) (ls) (r) (σ)) : xT p l e R s m args below meth c Q D cA B b k0 z0 en (pc) (ls) (.int x :: r) (σ) := by
  obtain ⟨hx, hb, -⟩ := E
  intro lsJ H locs cells slots hO
  exact lv_lookup hx hb hd hp rfl ht (k _ _ _ _ _ hO)
theorem n_ldc {x : Int32} {k1 pl : Nat} (E : xEnv p l e R s m args below meth c D cA B b en) (hd : decode en.2.1 pc = .ok (.ldc k1, 2)) (hf : xfind xKL en.2.2.2.2.1 k1 = some (.int x, pl)) (k : xT p l e R s m args below meth c Q D cA B b k0 z0 en (pc + 2) (ls) (.int x :: r) (σ)) : xT p l e R s m args below meth c Q D cA B b k0 z0 en (pc) (ls) (r) (σ) := by
  obtain ⟨hx, hb, -, hown, hts, -⟩ := E
  intro lsJ H locs cells slots hO
  have h1 := xall xKL_all (xfind_mem _ _ _ _ hf)
  exact lv_ldc hx hb hown (hts _ (xgood_s h1)) hd (k _ _ _ _ _ hO)
theorem n_ldc2l {x : Int64} {k1 pl : Nat} (E : xEnv p l e R s m args below meth c D cA B b en) (hd : decode en.2.1 pc = .ok (.ldc2_w k1, 3)) (hf : xfind xKL en.2.2.2.2.1 k1 = some (.long x, pl)) (k : xT p l e R s m args below meth c Q D cA B b k0 z0 en (pc + 3) (ls) (.long x :: r) (σ)) : xT p l e R s m args below meth c Q D cA B b k0 z0 en (pc) (ls) (r) (σ) := by
  obtain ⟨hx, hb, -, hown, hts, -⟩ := E
  intro lsJ H locs cells slots hO
  have h1 := xall xKL_all (xfind_mem _ _ _ _ hf)
  exact lv_ldc2 hx hb hown (hts _ (xgood_s h1)) hd (k _ _ _ _ _ hO)
theorem n_ldc2d {x : UInt64} {k1 pl : Nat} (E : xEnv p l e R s m args below meth c D cA B b en) (hd : decode en.2.1 pc = .ok (.ldc2_w k1, 3)) (hf : xfind xKL en.2.2.2.2.1 k1 = some (.double x, pl)) (k : xT p l e R s m args below meth c Q D cA B b k0 z0 en (pc + 3) (ls) (.double x :: r) (σ)) : xT p l e R s m args below meth c Q D cA B b k0 z0 en (pc) (ls) (r) (σ) := by
  obtain ⟨hx, hb, -, hown, hts, -⟩ := E
  intro lsJ H locs cells slots hO
  have h1 := xall xKL_all (xfind_mem _ _ _ _ hf)
  exact lv_ldc2d hx hb hown (hts _ (xgood_s h1)) hd (k _ _ _ _ _ hO)
end XN
