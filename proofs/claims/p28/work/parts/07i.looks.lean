/-! ===== the model's own methods: looks ===== -/
def vt_ce (x y w : Int32) : Nat := if zin x y = true then (if zrI w 0 5 = true then 0 else 2) else 1
def vt_li (x y d w : Int32) : Nat := if (zrI x 0 8 = true ∧ zrI y 0 8 = true) ∧ ¬ (d = nI 1 ∧ x = nI 8) ∧ ¬ (d = nI 2 ∧ y = nI 8) then (if zrI d 1 2 = true ∧ zrI w 0 2 = true then 0 else 2) else 1
def vt_sk (x w : Int32) : Nat := if zrI x 0 2 = true then (if zrI w 0 8 = true then 0 else 2) else 1
def vt_ri (r w : Int32) : Nat := if nI 0 ≤ r then (if zrI w 0 2 = true then 0 else 2) else 1
def vt_co (w : Int32) : Nat := if zrI w 0 11 = true then 0 else 1
def vt_st (x : Int32) : Nat := if zrI x 0 2 = true then 0 else 1
def vt_wh (x d : Int32) : Nat := if zrI x 0 2 = true then (if zrI d 0 3 = true then 0 else 2) else 1
def vt_if (x d t w : Int32) : Nat := if zrI x 0 2 = true then (if zrI d 0 3 = true ∧ zrI t 1 8 = true ∧ zrI w 0 3 = true then 0 else 2) else 1
def vt_be (x : Int32) : Nat := if zrI x 0 2 = true then 0 else 1
/-- nothing but aside things and the number of the throw has changed -/
def zJ (M M' : ZM) (t : Nat) : Prop := M' 0 = M 0 ∧ M' 2 = M 2 ∧ M' 3 = M 3 ∧ M' 4 = M 4 ∧ M' 8 = upd (M 8) 3 (nI t)
theorem zrk_le (p : Nat → Bool) (q : Nat) : zrk p q ≤ 64 := zfst_le _ _
theorem zrk_congr {p p' : Nat → Bool} {q : Nat} (h : ∀ i, i < 64 → p i = p' i) : zrk p q = zrk p' q :=
  zfst_congr (fun i hi => by rw [h i hi, cnt_congr (fun j hj => h j (by omega))])
section Z7I
variable {C : ZC} {M : ZM} {e : ZE} {σ : xS}
noncomputable def zML (M : ZM) : ZM := zms (zms M 5 (fun c => nI (zlo (M 0) c))) 8 (upd (M 8) 3 (nI 0))
theorem zML_L (M : ZM) : zLab (zML M) := by
  unfold zLab zML
  simp (disch := omega) only [zms_s, zms_n]
theorem zML_0 (M : ZM) : zML M 0 = M 0 := by unfold zML; simp (disch := omega) only [zms_s, zms_n]
theorem zML_8 (M : ZM) : zML M 8 0 = M 8 0 := by unfold zML; simp (disch := omega) only [zms_s, zms_n, upd_n]
theorem zML_J (M : ZM) : zJ M (zML M) 0 := by
  unfold zJ zML
  refine ⟨?_, ?_, ?_, ?_, ?_⟩ <;> simp (disch := omega) only [zms_s, zms_n]
theorem zT0_J (M : ZM) (t : Nat) : zJ M (zT0 M t) t := by
  unfold zJ zT0
  refine ⟨?_, ?_, ?_, ?_, ?_⟩ <;> simp (disch := omega) only [zms_s, zms_n]
noncomputable def zvG (s : Nat → Int32) (k d t w : Nat) : Int32 := match w with
  | 0 => nI (zgl k d t s).1
  | 1 => nI (zoc (zgl k d t s).2 k) - nI (zoc s k)
  | 2 => (zgl k d t s).2 (416 + 6 * k + 4) - s (416 + 6 * k + 4)
  | _ => nI (cnt (zrt (zgl k d t s).2) 64)
end Z7I
