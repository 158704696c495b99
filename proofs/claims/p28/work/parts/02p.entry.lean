/-! ===== the law's entry: what the Statement gives is what the interpreter stands on ===== -/
def xσ0 (L : Nat) (xs : Nat → Int32) : xS := (fun i => if i = 1000 then some (.inl (9, L, .inl xs)) else none, (0, 0, 0))
theorem xσ0_WF (L : Nat) (xs : Nat → Int32) : xWF (xσ0 L xs) := by
  refine ⟨Nat.zero_le _, fun i hi => absurd hi (Nat.not_lt_zero _), fun i c _ hc => ?_⟩
  by_cases h : i = 1000
  · subst h
    simp only [xσ0, if_true, Option.some.injEq] at hc
    exact ⟨rfl, L, xs, hc.symm⟩
  · simp [xσ0, h] at hc
set_option maxRecDepth 100000 in
theorem xI_all : vwCl.all (fun r => decide (Cond.instantiable r.1 r.2.2 ∈ lw_tbl) && goodWord (.instantiable r.1 r.2.2)) = true := by decide +kernel
set_option maxRecDepth 100000 in
theorem xE_all : ([Cond.arrayClass .int, Cond.arrayOver (.object "CarvedRinks$Pond"), Cond.arrayOver (.object "CarvedRinks$Skater"), Cond.laysStatic Bundle.tN "UNASSIGNED_STACK" Bundle.steD, Cond.laysStatic Bundle.tN "SUPPRESSED_SENTINEL" Bundle.listD, Cond.initialized Bundle.tN] ++ xNest).all (fun w => decide (w ∈ lw_tbl)) = true := by decide +kernel
set_option maxRecDepth 100000 in
theorem xS_all : xSL.all (fun q => decide (Cond.stringRef "CarvedRinks" q.1 q.2 ∈ lw_tbl)) = true := by decide +kernel
def xNr : Cond := Jvm.Cond.and given_1 narrow_1
set_option maxRecDepth 100000 in
theorem xS2_all : xSL.all (fun q => decide (Cond.exactly (.string "CarvedRinks" q.1) "java/lang/String" ∈ flatC xNr)) = true := by decide +kernel
set_option maxRecDepth 100000 in
theorem xN_all : [(0, 1), (0, 2), (1, 0), (1, 2), (2, 0), (2, 1)].all (fun q => decide (Cond.not (.castable (xXI q.1).1 (xXI q.2).1) ∈ flatC xNr)) = true := by decide +kernel
set_option maxRecDepth 100000 in
theorem xR_all : [Cond.isRef (.static Bundle.tN "UNASSIGNED_STACK" Bundle.steD), Cond.isRef (.static Bundle.tN "SUPPRESSED_SENTINEL" Bundle.listD)].all (fun w => decide (w ∈ flatC xNr)) = true := by decide +kernel
theorem xflags {l : Launch} (h : l.flags = flags0) : l.stackTraces = false := by
  unfold Jvm.Launch.stackTraces
  rw [h]
  decide +kernel
theorem xarr1 {args : Array Value} {s : State} {ty : FieldType} (h : (Cond.arrayClass ty).before args s = true) (hk : ∀ C, ty ≠ .object C) : ∃ cB : ClassId, ArrOfT s cB ty ∧ va_RA s cB ty := by
  obtain ⟨cB, kA, comp, hfind, hkA, hkind⟩ := Cond.arrayClass_spec h
  refine ⟨cB, fun n z => ⟨fun k h => (by cases h), kA, hkA, comp, hkind⟩, ?_⟩
  cases ty with
  | object C => exact absurd rfl (hk C)
  | _ => exact hfind
theorem xarr2 {args : Array Value} {s : State} {C : String} (h : (Cond.arrayOver (.object C)).before args s = true) : ∃ cB : ClassId, ArrOfT s cB (.object C) ∧ va_RA s cB (.object C) := by
  obtain ⟨comp, c, k, h1, h2, h3, h4, h5⟩ := Cond.arrayOver_spec h
  exact ⟨c, fun n z => ⟨fun k h => (by cases h), k, h3, comp, h4⟩, k, comp, h3, h4, h1, h5⟩
theorem xenvK {args : Array Value} {s : State} (hts : ∀ w ∈ lw_tbl, w.before args s = true) : ∃ (D : va_G) (cA : Nat → ClassId), va_K D vwCl (xtys cA) s := by
  have hts' : ∀ w ∈ xWS, w.before args s = true := fun w hw => hts w (List.mem_filter.mp hw).1
  have hc : ∀ c : Nat, ∃ (d : ClassId × (Nat → Nat)), ∀ q, vwCl[c]? = some q → u_Kn s q.1 q.2.1 q.2.2 d.1 d.2 := by
    intro c
    cases hq : vwCl[c]? with
    | none => exact ⟨(0, fun _ => 0), fun q h => by cases h⟩
    | some q =>
      have h1 := xall xI_all (List.mem_of_getElem? hq)
      simp only [Bool.and_eq_true, decide_eq_true_eq] at h1
      obtain ⟨cC, iS, h2⟩ := u_known (C := q.1) (T := q.2.1) (N := q.2.2) hts' (xU_ok hq) (hts _ h1.1)
      exact ⟨(cC, iS), fun q' h => by cases h; exact h2⟩
  have hw : ∀ w ∈ ([Cond.arrayClass .int, Cond.arrayOver (.object "CarvedRinks$Pond"), Cond.arrayOver (.object "CarvedRinks$Skater"), Cond.laysStatic Bundle.tN "UNASSIGNED_STACK" Bundle.steD, Cond.laysStatic Bundle.tN "SUPPRESSED_SENTINEL" Bundle.listD, Cond.initialized Bundle.tN] ++ xNest), w.before args s = true := fun w h => hts w (by simpa using xall xE_all h)
  obtain ⟨a0, h0⟩ := xarr1 (hw (.arrayClass .int) (by simp)) (fun C h => by cases h)
  obtain ⟨a2, h2⟩ := xarr2 (hw (.arrayOver (.object "CarvedRinks$Pond")) (by simp))
  obtain ⟨a3, h3⟩ := xarr2 (hw (.arrayOver (.object "CarvedRinks$Skater")) (by simp))
  refine ⟨(fun c => (Classical.choose (hc c)).1, fun c => (Classical.choose (hc c)).2), fun t => match t with
    | 0 => a0
    | 2 => a2
    | _ => a3, fun c q hq => Classical.choose_spec (hc c) q hq, fun k q hq => ?_⟩
  match k, hq with
  | 0, hq => cases hq; exact h0
  | 1, hq => cases hq; exact h0
  | 2, hq => cases hq; exact h2
  | 3, hq => cases hq; exact h3
  | k + 4, hq => simp [xtys] at hq
theorem xenvT {args : Array Value} {s : State} (hts : ∀ w ∈ lw_tbl, w.before args s = true) : xTab s := by
  have hw : ∀ w ∈ ([Cond.arrayClass .int, Cond.arrayOver (.object "CarvedRinks$Pond"), Cond.arrayOver (.object "CarvedRinks$Skater"), Cond.laysStatic Bundle.tN "UNASSIGNED_STACK" Bundle.steD, Cond.laysStatic Bundle.tN "SUPPRESSED_SENTINEL" Bundle.listD, Cond.initialized Bundle.tN] ++ xNest), w.before args s = true := fun w h => hts w (by simpa using xall xE_all h)
  refine ⟨fun w h => ?_, va_AO.of (hw (.arrayOver (.object "CarvedRinks$Pond")) (by simp)), va_AO.of (hw (.arrayOver (.object "CarvedRinks$Skater")) (by simp))⟩
  have h1 := hw w (List.mem_append_right _ h)
  refine va_Nw.of ?_ h1
  simp only [xNest, List.mem_cons, List.mem_nil_iff, or_false] at h
  rcases h with rfl | rfl | rfl | rfl | rfl | rfl | rfl | rfl | rfl | rfl <;> rfl
theorem xenvX {args : Array Value} {s : State} (hts : ∀ w ∈ lw_tbl, w.before args s = true) (hgv : xNr.before args s = true) : xExc s.heap.size s s.heap := by
  have hw : ∀ w ∈ ([Cond.arrayClass .int, Cond.arrayOver (.object "CarvedRinks$Pond"), Cond.arrayOver (.object "CarvedRinks$Skater"), Cond.laysStatic Bundle.tN "UNASSIGNED_STACK" Bundle.steD, Cond.laysStatic Bundle.tN "SUPPRESSED_SENTINEL" Bundle.listD, Cond.initialized Bundle.tN] ++ xNest), w.before args s = true := fun w h => hts w (by simpa using xall xE_all h)
  have hfl := flat_of_before _ hgv
  refine ⟨fun w h => ?_, fun q hq => ?_, fun x y hx hy hn => ?_, ?_, ?_⟩
  · obtain ⟨h1, h2⟩ := List.mem_filter.mp h
    have hin : w ∈ lw_tbl := by
      have key : ∀ x, x ∈ [0, 1, 2] → w ∈ xAT x → w ∈ lw_tbl := by
        intro x hx hwx
        have h3 := xall xAT_all hx
        simp only [xATc, Bool.and_eq_true] at h3
        have h4 := xall h3.1.1.1.1.1.1.1 hwx
        simp only [Bool.and_eq_true, decide_eq_true_eq] at h4
        exact h4.1
      rcases List.mem_append.mp h1 with h | h
      · rcases List.mem_append.mp h with h | h
        · exact key 0 (by simp) h
        · exact key 1 (by simp) h
      · exact key 2 (by simp) h
    have hdc := xNG_dc w h
    have hb := hts w hin
    unfold xDC at hdc
    split at hdc
    · exact va_Nw.of rfl hb
    · exact va_Nw.of rfl hb
    · cases hdc
  · have h1 := hts _ (by simpa using xall xS_all hq)
    have h2 := hfl _ (by simpa using xall xS2_all hq)
    obtain ⟨a, -, -, -, h3, -⟩ := Cond.exactly_spec h2
    exact ⟨a, vk_R.of h1 h3⟩
  · have h1 : (x, y) ∈ [(0, 1), (0, 2), (1, 0), (1, 2), (2, 0), (2, 1)] := by
      simp only [List.mem_cons, List.mem_nil_iff, or_false, Prod.mk.injEq]
      omega
    exact va_Nc.of (hfl _ (by simpa using xall xN_all h1))
  · exact vx_Zqof (hw (.laysStatic Bundle.tN "UNASSIGNED_STACK" Bundle.steD) (by simp)) (hw (.initialized Bundle.tN) (by simp)) (hfl _ (by simpa using xall xR_all (List.mem_of_getElem? (i := 0) rfl))) (fun a h => Nat.not_le.mpr h)
  · exact vx_Zqof (hw (.laysStatic Bundle.tN "SUPPRESSED_SENTINEL" Bundle.listD) (by simp)) (hw (.initialized Bundle.tN) (by simp)) (hfl _ (by simpa using xall xR_all (List.mem_of_getElem? (i := 1) rfl))) (fun a h => Nat.not_le.mpr h)
set_option maxHeartbeats 4000000 in
set_option maxRecDepth 100000 in
/-- the law from its entry, out of a run -/
theorem xlaw {p : Program} {e : Env} {s : State} {m : MethodId} {below : List Frame} {meth : Method} {c : Code} (l : Launch) (hflags : l.flags = flags0) {b L : Nat} {xs : Nat → Int32} (C0 : lw_At p s m meth c b L xs) {τ : xS} (h : xR mL_law 0 (xini 7 [.ref 1000]) [] (xσ0 L xs) = some (.inl (some (.int 1)), τ)) (hτ : τ.2.1 + τ.2.2.1 ≤ 600104 ∧ τ.2.2.2 ≤ 7301314) : W p l e room_1 s m #[Value.ref b] below meth c s.heap [] 0 0 (lw_Z below #[Value.ref b] s) (entryFrame m ([Value.ref b] : List Value).toArray 7) := by
  obtain ⟨hx, hb, hr, hml, hown, hts, hX, hbl, hlocks, hgv⟩ := C0
  obtain ⟨f, hf⟩ := xR_iff.mp h
  obtain ⟨D, cA, hK⟩ := xenvK hts
  have hEx := xenvX hts hgv
  have hl := xflags hflags
  have hlv := lv_entry [Value.ref b] (n := 7) (show (lg_sl [Value.ref b]).length ≤ 7 from (by decide : 1 ≤ 7))
  rw [lg_entry_eq]
  generalize (lg_sl [Value.ref b] ++ List.replicate (7 - (lg_sl [Value.ref b]).length) Slot.unset).toArray = ls at hlv ⊢
  have E : xEnv p l e room_1 s m #[Value.ref b] below meth c D cA s.heap.size b (⟨"CarvedRinksLaw", "law", "([I)Z"⟩, cL_law, 7, some .boolean, 8, 9, 229, 3) := ⟨hx, hb, hml, hown, fun w hw => hts w (List.mem_filter.mp hw).1, hK, xenvT hts, fun h => absurd h (by decide), ⟨by decide, by decide⟩, Nat.le_refl _⟩
  refine xGd2_all l hl f mL_law 0 (xini 7 [.ref 1000]) [] (xσ0 L xs) (some (.int 1)) τ hf _ xe_L_law (Or.inr (Or.inl rfl)) p e room_1 s m #[Value.ref b] below meth c (lw_Z below #[Value.ref b] s) D cA s.heap.size b 0 0 E (fun h => by cases h) hEx (by show _ ≤ 0 + 600104 ∧ _ ≤ 0 + 7301314; omega) ?_ ls s.heap [] 0 0 ⟨?_, ?_, xσ0_WF L xs, ?_, va_S.rf, fun _ => Nat.le_refl _, ⟨rfl, rfl⟩, fun _ n g hg => ?_⟩
  · intro pc1 ls1 st1 σ1 i len hd hdo lsJ H locs cells slots hO
    obtain ⟨e3, h2⟩ := xret_s hdo
    rcases h2 with ⟨rfl, rfl, x, rfl, h3, -⟩ | ⟨-, -, x, -, h3, -⟩ | ⟨-, -, x, -, h3, -⟩ | ⟨-, -, x, -, h3, -⟩ | ⟨-, -, -, h3, -⟩
    · cases h3
      have hc := hO.2.2.2.2.2.2.1
      refine va_forget (fun q hq => hO.2.2.2.2.1.2.2 q hq) ?_
      refine W.widen (k := 600104) (n := 7301314) (by rw [← e3] at hc; omega) (by rw [← e3] at hc; omega) ?_
      exact lw_ret (d0 := s.drawn) (Drawn.sameBut.refl s.drawn lw_cs) hx hb hr hlocks hd
    all_goals cases h3
  · refine lv_mem hlv (fun q hq => ?_)
    have e9 : xlp s.heap.size b 0 (xini 7 [.ref 1000]) = [(0, Value.ref b)] := rfl
    rw [e9] at hq
    exact hq
  · rfl
  · intro k q hk
    simp [xW, xσ0] at hk
  · have h9 : (xσ0 L xs).1 1000 = some (.inl (9, L, .inl xs)) := rfl
    rw [h9] at hg
    cases hg
    exact ⟨hX, hbl, hbl⟩
