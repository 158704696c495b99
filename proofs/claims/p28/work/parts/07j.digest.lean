/-! ===== the model's digest ===== -/
def zhs (h : Int64) (v : Int32) : Int64 := 31 * h + v.toInt64
def zh2 (f : Nat → Int64 → Int64) : Nat → Int64 → Int64
  | 0, h => h
  | n + 1, h => f n (zh2 f n h)
def zhf (f : Nat → Int32) (n : Nat) (h : Int64) : Int64 := zh2 (fun k h => zhs h (f k)) n h
noncomputable def zhC (s : Nat → Int32) (h : Int64) : Int64 := zh2 (fun c h => zhf (zvC s c) 6 h) 64 h
def zhp (s : Nat → Int32) (p d : Nat) (h : Int64) : Int64 := if zlf (p % 9) (p / 9) d < 144 then zhf (zvL s (zlf (p % 9) (p / 9) d)) 3 h else h
def zhL (s : Nat → Int32) (h : Int64) : Int64 := zh2 (fun p h => zhp s p 2 (zhp s p 1 h)) 81 h
noncomputable def zhk (s : Nat → Int32) (t : Nat) (h : Int64) : Int64 := zhs (zhf (fun d => nI (zba s t d)) 4 (zhf (zvS s t) 9 h)) (zbo t s 4).1
noncomputable def zhS (s : Nat → Int32) (h : Int64) : Int64 := zh2 (fun t h => zhk s t h) 3 h
noncomputable def zhR (s : Nat → Int32) (h : Int64) : Int64 := zh2 (fun c h => if zrt s c = true then zhf (zvR s c) 3 h else h) 64 h
noncomputable def zhA (s : Nat → Int32) (p : Int32) : Int64 :=
  31 * (31 * zhs (zhR s (zhS s (zhL s (zhC s (zhf (fun k => s (434 + k)) 3 (zhf (zvN s p) 12 3727)))))) (nI (zca s)) + (zsh s).toInt64) + (zme s).toInt32.toInt64
noncomputable def zhD (s : Nat → Int32) (p kept : Int32) (T : Nat → Int32) (n : Nat) : Int64 := zhf T n (zhs (zhs (zhA s p) kept) (nI n))
theorem zloopP {β : Type} (P : β → Prop) (n : Nat) (G : Nat → β → Option xO) (h : ∀ k b, k < n → P b → ∃ b', P b' ∧ G k b = G (k + 1) b') : ∀ b, P b → ∃ b', P b' ∧ G 0 b = G n b' := by
  intro b hb
  have key : ∀ j, j ≤ n → ∃ b', P b' ∧ G 0 b = G j b' := by
    intro j
    induction j with
    | zero => intro _; exact ⟨b, hb, rfl⟩
    | succ j ih =>
      intro hj
      obtain ⟨b1, h1, h2⟩ := ih (by omega)
      obtain ⟨b2, h3, h4⟩ := h j b1 (by omega) h1
      exact ⟨b2, h3, h2.trans h4⟩
  exact key n (Nat.le_refl n)
def zDJ (B M : ZM) : Prop := M 0 = B 0 ∧ M 2 = B 2 ∧ M 3 = B 3 ∧ M 4 = B 4 ∧ M 8 = B 8
def zDL (B M : ZM) : Prop := zDJ B M ∧ zLab M
theorem zDJ_set {B M : ZM} {a : Nat} (f : Nat → Int32) (h : zDJ B M) (ha : a = 1 ∨ a = 5 ∨ a = 6 ∨ a = 7) : zDJ B (zms M a f) := by
  obtain ⟨h1, h2, h3, h4, h5⟩ := h
  unfold zDJ
  rw [zms_n M f (b := 0) (by omega), zms_n M f (b := 2) (by omega), zms_n M f (b := 3) (by omega), zms_n M f (b := 4) (by omega), zms_n M f (b := 8) (by omega)]
  exact ⟨h1, h2, h3, h4, h5⟩
theorem zDL_set {B M : ZM} {a : Nat} (f : Nat → Int32) (h : zDL B M) (ha : a = 1 ∨ a = 6 ∨ a = 7) : zDL B (zms M a f) := by
  refine ⟨zDJ_set f h.1 (by omega), ?_⟩
  unfold zLab
  rw [zms_n M f (b := 5) (by omega), zms_n M f (b := 0) (by omega)]
  exact h.2
section Z7J
variable {C : ZC} {B : ZM} {e : ZE} {σ : xS}
end Z7J
