/-! ===== throwing and catching ===== -/
def xEN : List String := ["java/lang/RuntimeException", "java/lang/Exception"]
def xAT (x : Nat) : List Cond := vx_atS "CarvedRinks" (xXI x).2.2 (xXI x).1 xEN
def xDC : Cond → Bool
  | .declares _ => true
  | .castable _ _ => true
  | _ => false
def xATc (x : Nat) : Bool := (xAT x).all (fun w => decide (w ∈ lw_tbl) && (goodWord w || xDC w)) && (Cond.classLink "CarvedRinks" (xXI x).2.1 (xXI x).1 :: Cond.initialized (xXI x).1 :: xAT x).all (fun w => vx_ot w) && decide (Cond.classLink "CarvedRinks" (xXI x).2.1 (xXI x).1 ∈ lw_tbl) && decide (Cond.initialized (xXI x).1 ∈ lw_tbl) && Bundle.fit (xXI x).1 && xEN.all (fun n => Bundle.fit n) && goodWord (Cond.classLink "CarvedRinks" (xXI x).2.1 (xXI x).1) && goodWord (Cond.initialized (xXI x).1)
set_option maxRecDepth 100000 in
theorem xAT_all : [0, 1, 2].all xATc = true := by decide +kernel
/-- the words of throws that calls don't carry by themselves -/
def xNG : List Cond := ((xAT 0 ++ xAT 1) ++ xAT 2).filter (fun w => !goodWord w)
theorem xNG_dc : ∀ w ∈ xNG, xDC w = true := by
  intro w hw
  obtain ⟨h1, h2⟩ := List.mem_filter.mp hw
  have key : ∀ x, x ∈ [0, 1, 2] → w ∈ xAT x → xDC w = true := by
    intro x hx hwx
    have h3 := xall xAT_all hx
    simp only [xATc, Bool.and_eq_true] at h3
    have h4 := xall h3.1.1.1.1.1.1.1 hwx
    simp only [Bool.and_eq_true, Bool.or_eq_true] at h4
    rcases h4.2 with q | q
    · rw [q] at h2; cases h2
    · exact q
  rcases List.mem_append.mp h1 with h | h
  · rcases List.mem_append.mp h with h | h
    · exact key 0 (by simp) h
    · exact key 1 (by simp) h
  · exact key 2 (by simp) h
theorem xDC_warm {w : Cond} (h : xDC w = true) {s U : State} (hW : s.WarmedH U.vm) (hZ : va_Nw w s) : va_Nw w U := by
  unfold xDC at h
  split at h
  · exact va_Nw.warmD hW hZ
  · exact va_Nw.warmC hW hZ
  · cases h
theorem xDC_same {w : Cond} (h : xDC w = true) {u U : State} (hv : u.vm = U.vm) (hZ : va_Nw w u) : va_Nw w U := by
  unfold xDC at h
  split at h
  · exact va_Nw.same rfl hv hZ
  · exact va_Nw.same rfl hv hZ
  · cases h
/-- what a throw stands on: the words, the texts, Throwable's two statics -/
def xExc (B : Nat) (U : State) (H : Heap) : Prop := (∀ w ∈ xNG, va_Nw w U) ∧ (∀ q ∈ xSL, ∃ sa, vk_R "CarvedRinks" q.1 q.2 sa U) ∧ (∀ x y, x < 3 → y < 3 → x ≠ y → va_Nc (xXI x).1 (xXI y).1 U) ∧ vx_Zq Bundle.tN "UNASSIGNED_STACK" Bundle.steD (fun q => B ≤ q) U H ∧ vx_Zq Bundle.tN "SUPPRESSED_SENTINEL" Bundle.listD (fun q => B ≤ q) U H
theorem xExc.same {B : Nat} {u U : State} {H : Heap} (hv : u.vm = U.vm) (h : xExc B u H) : xExc B U H := by
  obtain ⟨h1, h2, h3, h4, h5⟩ := h
  have ha : u.vm.Alike U.vm := by rw [hv]; exact Vm.Alike.refl _
  exact ⟨fun w hw => xDC_same (xNG_dc w hw) hv (h1 w hw), fun q hq => by obtain ⟨sa, h⟩ := h2 q hq; exact ⟨sa, vk_R.same hv.symm h⟩, fun x y hx hy hn => va_Nc.moved ha (h3 x y hx hy hn), vx_Zq.moved ha h4, vx_Zq.moved ha h5⟩
theorem xExc.warm {B : Nat} {s U : State} {H : Heap} (hW : s.WarmedH U.vm) (h : xExc B s H) : xExc B U H := by
  obtain ⟨h1, h2, h3, h4, h5⟩ := h
  exact ⟨fun w hw => xDC_warm (xNG_dc w hw) hW (h1 w hw), fun q hq => by obtain ⟨sa, h⟩ := h2 q hq; exact ⟨sa, vk_R.warm hW h⟩, fun x y hx hy hn => va_Nc.moved hW.alike (h3 x y hx hy hn), vx_Zq.moved hW.alike h4, vx_Zq.moved hW.alike h5⟩
theorem xExc.kept {B : Nat} {s : State} {H H1 : Heap} (hq : ∀ a : Nat, a < H.size → ¬ B ≤ a → H1[a]? = H[a]?) (h : xExc B s H) : xExc B s H1 := by
  obtain ⟨h1, h2, h3, h4, h5⟩ := h
  exact ⟨h1, h2, h3, vx_Zq.kept h4 hq, vx_Zq.kept h5 hq⟩
def xQo (D : va_G) (cA : Nat → ClassId) (B b : Nat) (o : Option Value ⊕ Nat) (τ : xS) : Array Value → State → Outcome → State → Prop := match o with
  | .inl v => xQc D cA B b v τ
  | .inr _ => fun _ _ _ _ => False
def xXo (D : va_G) (cA : Nat → ClassId) (B b : Nat) (o : Option Value ⊕ Nat) (τ : xS) : String → State → State → Prop := match o with
  | .inl _ => fun _ _ _ => False
  | .inr x => fun E st t => E = (xXI x).1 ∧ xWF τ ∧ va_P D vwCl (xW B b cA τ) t.heap ∧ va_F (fun q => B ≤ q) st t
theorem xths_s {en : xMe} {pc k x : Nat} (h : xths en pc k x = true) : ∃ is ic text, decode en.2.1 (pc + 3) = .ok (.dup, 1) ∧ decode en.2.1 (pc + 4) = .ok (.ldc is, 2) ∧ decode en.2.1 (pc + 6) = .ok (.invokespecial ic, 3) ∧ decode en.2.1 (pc + 9) = .ok (.athrow, 1) ∧ en.2.2.2.2.1 = 6 ∧ x < 3 ∧ k = (xXI x).2.1 ∧ ic = (xXI x).2.2 ∧ (is, text) ∈ xSL ∧ 6 ≤ en.2.2.2.2.2.1 ∧ 100 ≤ en.2.2.2.2.2.2.1 ∧ en.2.2.2.2.2.2.2 = 1 := by
  unfold xths at h
  split at h
  · next is ic d3 d4 d6 d9 =>
    simp only [Bool.and_eq_true, decide_eq_true_eq, List.any_eq_true] at h
    obtain ⟨⟨⟨⟨⟨⟨⟨h1, h2⟩, h3⟩, h4⟩, ⟨t, h5, h6⟩⟩, h7⟩, h8⟩, h9⟩ := h
    exact ⟨is, ic, t.2, d3, d4, d6, d9, h1, h2, h3, h4, by rw [← h6]; exact h5, h7, h8, h9⟩
  · cases h
section XX
variable {p : Program} {l : Launch} {e : Env} {R : Room} {s : State} {m : MethodId} {args : Array Value} {below : List Frame} {meth : Method} {c : Code} {D : va_G} {cA : Nat → ClassId} {B b k0 z0 : Nat} {en : xMe} {pc : Nat} {ls : xL} {σ : xS}
/-- where a method throws -/
theorem n_throw {k1 x : Nat} {st : List Value} {τ : xS} (E : xEnv p l e R s m args below meth c D cA B b en) (hd : decode en.2.1 pc = .ok (.new k1, 3)) (hth : xths en pc k1 x = true) (he : τ = (σ.1, (σ.2.1, σ.2.2.1 + 1, σ.2.2.2 + 6))) (hl : l.stackTraces = false) (hX : xExc B s s.heap) (hw : xwid st ≤ 8) (hlocks : meth.locks = false) (hout : ∀ z ∈ c.exceptionTable.toList, False) (hroom : τ.2.1 + τ.2.2.1 ≤ k0 + R.cells ∧ τ.2.2.2 ≤ z0 + R.slots) : xT p l e R s m args below meth c (vx_MQ below (xQo D cA B b (.inr x) τ) (xXo D cA B b (.inr x) τ) args s ((τ.2.1 + τ.2.2.1) - k0) (τ.2.2.2 - z0) (fun q => B ≤ q)) D cA B b k0 z0 en pc ls st σ := by
  obtain ⟨is, ic, text, d3, d4, d6, d9, ho, hx3, hk, hic, htx, hfr6, hlo100, -⟩ := xths_s hth
  subst hic; subst hk
  obtain ⟨hx, hb, hml, hown, hts, hK, hTab, hnm, ⟨hfr, hlo⟩, hB⟩ := E
  intro lsJ H locs cells slots hO
  obtain ⟨hl1, hn, hWF, hP, hS, hz, hc, hscr⟩ := hO
  have h3 := xall xAT_all (show x ∈ [0, 1, 2] by
    rcases x with _ | _ | _ | x
    · simp
    · simp
    · simp
    · omega)
  simp only [xATc, Bool.and_eq_true] at h3
  obtain ⟨⟨⟨⟨⟨⟨⟨g1, g2⟩, g3⟩, g4⟩, g5⟩, g6⟩, g7⟩, g8⟩ := h3
  obtain ⟨h1, h2, h4, h5, h6⟩ := hX
  obtain ⟨sa, hsa⟩ := h2 _ htx
  rw [ho] at hown
  have hat : ∀ w ∈ vx_atS "CarvedRinks" (xXI x).2.2 (xXI x).1 xEN, w.before args s = true := by
    intro w hw
    have q := xall g1 hw
    simp only [Bool.and_eq_true, Bool.or_eq_true, decide_eq_true_eq] at q
    by_cases z : goodWord w = true
    · exact hts w (List.mem_filter.mpr ⟨q.1, z⟩)
    · have hin : w ∈ xNG := by
        refine List.mem_filter.mpr ⟨?_, by simpa using z⟩
        rcases x with _ | _ | _ | x
        · exact List.mem_append_left _ (List.mem_append_left _ hw)
        · exact List.mem_append_left _ (List.mem_append_right _ hw)
        · exact List.mem_append_right _ hw
        · omega
      have hdc := xNG_dc w hin
      have hnw := h1 w hin
      unfold xDC at hdc
      split at hdc
      · exact va_Nw.use rfl hnw
      · exact va_Nw.use rfl hnw
      · cases hdc
  have hw2 := xwid_cv (B := B) (b := b) st
  have e1 : τ.2.1 + τ.2.2.1 = σ.2.1 + σ.2.2.1 + 1 := by rw [he]; rfl
  have e2 : τ.2.2.2 = σ.2.2.2 + 6 := by rw [he]
  refine vx_throwS hx hb hl (own := "CarvedRinks") (cls := (xXI x).1) (text := text) (names := xEN) (A := fun q => B ≤ q) hown g5 (fun n hn => xall g6 hn) (hts _ (List.mem_filter.mpr ⟨by simpa using g3, g7⟩)) (hts _ (List.mem_filter.mpr ⟨by simpa using g4, g8⟩)) hsa hat (fun w hw => xall g2 hw) h5 h6 hS (hl1.1.trans hml.symm) hd d3 d4 d6 d9 (fun z hz => (hout z hz).elim) (by show 2 + 3 < _; omega) (by show _ + 82 ≤ _; omega) (by omega) (by omega) hlocks (fun t ha hsz hk => ?_) hS.2.2 (by omega) (by omega)
  refine ⟨rfl, by rw [he]; exact hWF, ?_, Nat.le_trans hS.1 hsz, fun q h7 h8 => (hk q (Nat.lt_of_lt_of_le h7 hS.1)).trans (hS.2.1 q h7 h8)⟩
  rw [he]
  exact va_P.kept (ws := xW B b cA σ) hP (fun k q hq => hk q.1 ((hP k q hq).lt))
end XX
