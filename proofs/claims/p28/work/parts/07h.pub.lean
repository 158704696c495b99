/-! ===== the model's own methods: those that change something ===== -/
def zrI (x : Int32) (a b : Nat) : Bool := decide (nI a ≤ x ∧ x ≤ nI b)
theorem zrI_t {x : Int32} {a b : Nat} (h : zrI x a b = true) (hb : b < 2 ^ 30) (hab : a ≤ b) : ∃ k, a ≤ k ∧ k ≤ b ∧ x = nI k := i32_rg hb (of_decide_eq_true h) hab
theorem zrI_n {k a b : Nat} (h1 : a ≤ k) (h2 : k ≤ b) (hb : b < 2 ^ 31) : zrI (nI k) a b = true := decide_eq_true ⟨nI_le h1 (by omega), nI_le h2 hb⟩
def zsvP (n : Nat) (s P : Nat → Int32) : Nat → Int32 := if n = 6 then zfs 2205 441 s (zfl 2205 (fun j => P (441 + j)) P) else zfs (441 * n) 441 s P
def zsvN (n : Nat) : Nat := if n = 6 then 6 else n + 1
/-- behind refused(0) and saves() -/
def zA (M : ZM) (n : Nat) : ZM := zms (zms M 2 (zsvP n (M 0) (M 2))) 8 (upd (upd (M 8) 3 (nI 0)) 0 (nI (zsvN n)))
def zT0 (M : ZM) (t : Nat) : ZM := zms M 8 (upd (M 8) 3 (nI t))
def vt_gl (x y z : Int32) : Nat := if zrI x 0 2 = true then (if zrI y 0 3 = true ∧ zrI z 1 8 = true then 0 else 2) else 1
def vt_ho (s : Nat → Int32) (x y : Int32) : Nat := if zin x y = true then (if zic s (nI 8 * y + x).toNatClampNeg = true then 0 else 2) else 1
def vt_pa (s : Nat → Int32) (x c : Int32) : Nat := if zrI x 0 2 = true then (if zrI c 1 99 = true then (if nI 9999 < s 440 + c then 3 else 0) else 2) else 1
def zlv (x : Int32) : Nat := if x = nI 0 then 0 else 1
def zhv (x : Int32) : Nat := if x = nI 2 then 4 else 9
def vt_se (x v : Int32) : Nat := if zrI x 0 2 = true then (if zrI v (zlv x) (zhv x) = true then 0 else 2) else 1
def vt_ap (l c : Int32) : Nat := if zrI c 33 126 = true then (if l = nI 60 then 2 else 0) else 1
section Z7H
variable {C : ZC} {M : ZM} {e : ZE} {σ : xS}
theorem zin_t {x y : Int32} (h : zin x y = true) : ∃ a b, a < 8 ∧ b < 8 ∧ x = nI a ∧ y = nI b := by
  unfold zin at h
  simp only [Bool.and_eq_true] at h
  obtain ⟨a, -, a2, a3⟩ := i32_rg (by omega) (of_decide_eq_true h.1) (by omega)
  obtain ⟨b, -, b2, b3⟩ := i32_rg (by omega) (of_decide_eq_true h.2) (by omega)
  exact ⟨a, b, by omega, by omega, a3, b3⟩
theorem zin_n {a b : Nat} (ha : a < 8) (hb : b < 8) : zin (nI a) (nI b) = true := by
  unfold zin
  rw [decide_eq_true (p := nI 0 ≤ nI a ∧ nI a ≤ nI 7) ⟨nI_le (by omega) (by omega), nI_le (by omega) (by omega)⟩, decide_eq_true (p := nI 0 ≤ nI b ∧ nI b ≤ nI 7) ⟨nI_le (by omega) (by omega), nI_le (by omega) (by omega)⟩]
  rfl
/-- the slice of the past -/
def zsl (P : Nat → Int32) (k : Nat) : Nat → Int32 := fun j => P (441 * k + j)
end Z7H
