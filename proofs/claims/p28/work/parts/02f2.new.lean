section XH
variable {p : Program} {l : Launch} {e : Env} {R : Room} {s : State} {m : MethodId} {args : Array Value} {below : List Frame} {meth : Method} {c : Code} {Q : State → Prop} {D : va_G} {cA : Nat → ClassId} {B b k0 z0 : Nat} {en : xMe} {pc : Nat} {ls : xL} {r : List Value} {σ : xS}
set_option maxHeartbeats 200000 in
theorem n_new {k1 ci pl : Nat} (E : xEnv p l e R s m args below meth c D cA B b en) (hd : decode en.2.1 pc = .ok (.new k1, 3)) (hf : xfind xNL en.2.2.2.2.1 k1 = some (ci, pl)) (hg : σ.2.2.1 = 0) (hn9 : σ.2.1 < 999) (hroom : σ.2.1 + σ.2.2.1 + 1 ≤ k0 + R.cells ∧ σ.2.2.2 + (xblk ci).length ≤ z0 + R.slots) (k : xT p l e R s m args below meth c Q D cA B b k0 z0 en (pc + 3) (ls) (.ref σ.2.1 :: r) (hnew σ (.inr (ci, xblk ci)) (xblk ci).length)) : xT p l e R s m args below meth c Q D cA B b k0 z0 en (pc) (ls) (r) (σ) := by
  obtain ⟨hx, hb, -, hown, hts, hK, -, -, -, hB⟩ := E
  intro lsJ H locs cells slots hO T hT X
  obtain ⟨q, hq, hcl, hins, hini, hlen, hdef⟩ := xNL_ok hf
  have hsz := xsize hB hO hg (by rw [← hT]; exact X.heapSize)
  have hKn := hK.1 ci _ hq
  have hc := hO.2.2.2.2.2.2.1
  have hr1 : cells + 1 ≤ R.cells := by omega
  have hr2 : slots + q.2.2 ≤ R.slots := by rw [← hlen]; omega
  have e2 : (Value.ref σ.2.1 :: r).map (xcv B b) = .ref H.size :: r.map (xcv B b) := by rw [List.map_cons, hsz]; rfl
  have w0 : W p l e R s m args below meth c H locs cells slots Q (F0 m pc lsJ (r.map (xcv B b))) := by
    refine W.newcK hx hb hown (hts _ hcl) (hts _ hins) (hts _ hini) rfl hd hr1 hr2 hKn.2.1 (h := H.size) rfl (fun H1 kC hkC e1 z1 o1 => ?_)
    have g1 : t_OB H.size (D.1 ci) q.2.2 (D.2 ci) H1 (vp_V ((xblk ci).map (xcv B b))) := (u_born (xtyN ci) hts (xU_ok hq) hKn hkC e1 (xC_ok hq).1).to (fun j hj => by rw [hdef j hj, xblk_cv])
    have g2 : va_at D vwCl (xad B b σ.2.1, xcc B b cA (.inr (ci, xblk ci))) H1 := ⟨q, hq, by rw [← hsz]; exact g1⟩
    have h2 := k lsJ H1 locs (cells + 1) (slots + (xblk ci).length) (xOk_new hO hn9 (fun x h => by cases h) hsz z1 o1 g2)
    rw [hlen, e2] at h2
    exact h2
  exact w0 T hT X
set_option maxHeartbeats 200000 in
theorem n_newaI {n : Int32} (E : xEnv p l e R s m args below meth c D cA B b en) (hd : decode en.2.1 pc = .ok (.newarray .int, 2)) (h0 : ¬ n < 0) (hN : n.toNatClampNeg ≤ 10000) (hg : σ.2.2.1 = 0) (hn9 : σ.2.1 < 999) (hroom : σ.2.1 + σ.2.2.1 + 1 ≤ k0 + R.cells ∧ σ.2.2.2 + n.toNatClampNeg ≤ z0 + R.slots) (k : xT p l e R s m args below meth c Q D cA B b k0 z0 en (pc + 2) (ls) (.ref σ.2.1 :: r) (hnew σ (.inl (0, n.toNatClampNeg, .inl (fun _ => 0))) n.toNatClampNeg)) : xT p l e R s m args below meth c Q D cA B b k0 z0 en (pc) (ls) (.int n :: r) (σ) := by
  obtain ⟨hx, hb, -, hown, hts, hK, -, -, -, hB⟩ := E
  intro lsJ H locs cells slots hO T hT X
  have hsz := xsize hB hO hg (by rw [← hT]; exact X.heapSize)
  have hc := hO.2.2.2.2.2.2.1
  have hw : Cond.arrayClass .int ∈ xWS := by
    have h1 := xall xarr_all (List.mem_of_getElem? (i := 0) rfl)
    simp only [Bool.and_eq_true, decide_eq_true_eq] at h1
    exact List.mem_filter.mpr h1
  have hbytes : n.toNatClampNeg * componentBytes .int ≤ 536870912 := by
    have h8 : componentBytes .int ≤ 8 := by decide
    exact Nat.le_trans (Nat.mul_le_mul hN h8) (by decide)
  have hr1 : cells + 1 ≤ R.cells := by omega
  have hr2 : slots + n.toNatClampNeg ≤ R.slots := by omega
  have e2 : (Value.ref σ.2.1 :: r).map (xcv B b) = .ref H.size :: r.map (xcv B b) := by rw [List.map_cons, hsz]; rfl
  have w0 : W p l e R s m args below meth c H locs cells slots Q (F0 m pc lsJ (.int n :: r.map (xcv B b))) := by
    refine va_newaK (atype := .int) hx hb (hts _ hw) rfl hd rfl h0 rfl hbytes hr1 hr2 (h := H.size) rfl (fun H1 cB e1 z1 o1 hA hF => ?_)
    have hcA : cB = cA 0 := by
      have h2 := (hK.2 0 (cA 0, .int) rfl).2
      exact Option.some.inj (hF.symm.trans h2)
    subst hcA
    have h2 := k lsJ H1 locs (cells + 1) (slots + n.toNatClampNeg) (xOk_new hO hn9 (fun x h => by simp at h) hsz z1 o1 (by rw [← hsz]; exact e1))
    rw [e2] at h2
    exact h2
  exact w0 T hT X
set_option maxHeartbeats 200000 in
theorem n_anew {n : Int32} {k1 ci pl t : Nat} (E : xEnv p l e R s m args below meth c D cA B b en) (hd : decode en.2.1 pc = .ok (.anewarray k1, 3)) (hf : xfind xNL en.2.2.2.2.1 k1 = some (ci, pl)) (ht : xelt ci = some t) (h0 : ¬ n < 0) (hN : n.toNatClampNeg ≤ 10000) (hg : σ.2.2.1 = 0) (hn9 : σ.2.1 < 999) (hroom : σ.2.1 + σ.2.2.1 + 1 ≤ k0 + R.cells ∧ σ.2.2.2 + n.toNatClampNeg ≤ z0 + R.slots) (k : xT p l e R s m args below meth c Q D cA B b k0 z0 en (pc + 3) (ls) (.ref σ.2.1 :: r) (hnew σ (.inl (t, n.toNatClampNeg, .inr (.inr (.inr (.inr (fun _ => none)))))) n.toNatClampNeg)) : xT p l e R s m args below meth c Q D cA B b k0 z0 en (pc) (ls) (.int n :: r) (σ) := by
  obtain ⟨hx, hb, -, hown, hts, hK, hTab, -, -, hB⟩ := E
  intro lsJ H locs cells slots hO T hT X
  have hsz := xsize hB hO hg (by rw [← hT]; exact X.heapSize)
  have hc := hO.2.2.2.2.2.2.1
  obtain ⟨q, hq, hcl, -⟩ := xNL_ok hf
  have fin : ∀ (C : String) (cB : ClassId), t ≠ 9 → q.1 = C → va_AO C s → s.vm.findClass ("[" ++ (FieldType.object C).toString) = some cB → cB = cA t → W p l e R s m args below meth c H locs cells slots Q (F0 m pc lsJ ((Value.int n :: r).map (xcv B b))) := by
    intro C cB ht9 hC hAO hF0 hcB
    subst hC
    refine W.anew hx hb hown (hts _ hcl) (va_AO.use hAO) rfl hd rfl h0 (by omega) (by omega) (by omega) fun cD kA comp f1 f2 f3 f4 => ?_
    have : cD = cA t := (Option.some.inj (f1.symm.trans hF0)).trans hcB
    subst this
    generalize hH1 : H.push ({ cls := cA t, slots := Array.replicate n.toNatClampNeg .null, vm := .none } : Cell) = H1
    have z1 : H1.size = H.size + 1 := by rw [← hH1, Array.size_push]
    have e1 : H1[H.size]? = some (arrV (cA t) n.toNatClampNeg (fun _ => .null)) := by rw [← hH1, Array.getElem?_push_size, ← arrV_new]
    have o1 : ∀ q : Nat, q < H.size → H1[q]? = H[q]? := fun q hq => by rw [← hH1, Array.getElem?_push, if_neg (Nat.ne_of_lt hq)]
    have k2 := k lsJ H1 locs (cells + 1) (slots + n.toNatClampNeg) (xOk_new hO hn9 (fun x h => by simp at h; exact ht9 h.1) hsz z1 o1 (by rw [← hsz]; exact e1))
    rw [List.map_cons] at k2
    have e2 : xcv B b (.ref σ.2.1) = .ref H.size := by rw [hsz]; rfl
    rw [e2] at k2
    exact k2
  rcases xelt_s ht with ⟨rfl, rfl⟩ | ⟨rfl, rfl⟩
  · obtain ⟨kA, comp, h1, h2, h3, h4⟩ := (hK.2 2 (cA 2, .object "CarvedRinks$Pond") rfl).2
    exact fin "CarvedRinks$Pond" (cA 2) (by decide) (by cases hq; rfl) hTab.2.1 h4 rfl T hT X
  · obtain ⟨kA, comp, h1, h2, h3, h4⟩ := (hK.2 3 (cA 3, .object "CarvedRinks$Skater") rfl).2
    exact fin "CarvedRinks$Skater" (cA 3) (by decide) (by cases hq; rfl) hTab.2.2 h4 rfl T hT X
end XH
