/-! ===== small tools for walks: small numbers decide themselves, loops ===== -/
theorem zn_leT {a b : Nat} (h : a ≤ b) (hb : b < 2 ^ 31) : (nI a ≤ nI b) = True := eq_true (nI_le h hb)
theorem zn_leF {a b : Nat} (h : b < a) (hb : a < 2 ^ 31) : (nI a ≤ nI b) = False := eq_false (nI_ge h hb)
theorem zn_ltT {a b : Nat} (h : a < b) (hb : b < 2 ^ 31) : (nI a < nI b) = True := eq_true (nI_lt h hb)
theorem zn_ltF {a b : Nat} (h : b ≤ a) (hb : a < 2 ^ 31) : (nI a < nI b) = False := eq_false (nI_nlt h hb)
theorem zn_eqF {a b : Nat} (h : a ≠ b) (ha : a < 2 ^ 31) (hb : b < 2 ^ 31) : (nI a = nI b) = False := eq_false (fun q => h ((nI_eq ha hb).mp q))
theorem zn_in {j n : Nat} (h : j < n) (hn : n < 2 ^ 31) : xin (nI j) n = true := by
  have h1 := nI_clamp (n := j) (by omega)
  have h2 := nI_pos (n := j) (by omega)
  simp [xin, h1, h2, h]
theorem zn_0le {a : Nat} (h : a < 2 ^ 31) : (0 ≤ nI a) = True := eq_true (nI_pos' h)
theorem zn_nlt0 {a : Nat} (h : a < 2 ^ 31) : (nI a < 0) = False := eq_false (nI_pos h)
theorem zn_pos {a : Nat} (h0 : 0 < a) (h : a < 2 ^ 31) : (0 < nI a) = True := eq_true (by have := nI_lt h0 h; rwa [nI_0] at this)
theorem zn_npos : (0 < nI 0) = False := by decide
theorem zn_le0F {a : Nat} (h0 : 0 < a) (h : a < 2 ^ 31) : (nI a ≤ 0) = False := eq_false (nI_nle h0 h)
theorem zn_le0T : (nI 0 ≤ 0) = True := by decide
theorem zn_0F {a : Nat} (h0 : 0 < a) (h : a < 2 ^ 31) : (nI a = 0) = False := eq_false (nI_ne0 h0 h)
theorem zn_0T : (nI 0 = 0) = True := by decide
theorem zm_lt0 : ((-1 : Int32) < 0) = True := by decide
theorem zm_le0 : ((-1 : Int32) ≤ 0) = True := by decide
theorem zm_0le : ((0 : Int32) ≤ -1) = False := by decide
theorem zm_ne {a : Nat} (h : a < 2 ^ 31) : (nI a = -1) = False := eq_false (fun q => by have := nI_pos h; rw [q] at this; exact this (by decide))
theorem zm_ne2 {a : Nat} (h : a < 2 ^ 31) : (-1 = nI a) = False := eq_false (fun q => by have := nI_pos h; rw [← q] at this; exact this (by decide))
theorem zfit_b {b : Bool} : xfit .boolean (.int (bI b)) = true := by cases b <;> rfl
theorem zfit_0 : xfit .boolean (.int (nI 0)) = true := rfl
theorem zfit_1 : xfit .boolean (.int (nI 1)) = true := rfl
theorem z01_0 : (nI 0 = 0 ∨ nI 0 = 1) = True := by decide
theorem z01_1 : (nI 1 = 0 ∨ nI 1 = 1) = True := by decide
theorem bI_01b {b : Bool} : (b = false ∨ bI b = 1) = True := by cases b <;> decide
theorem zn_m1 {p : Nat} (h : 0 < p) : nI p + -1 = nI (p - 1) := by
  obtain ⟨q, rfl⟩ : ∃ q, p = q + 1 := ⟨p - 1, by omega⟩
  rw [Nat.add_sub_cancel]; exact pk_m1 q
theorem nI_0i : (0 : Int32) = nI 0 := rfl
theorem zq_lt0 : ((-1 : Int32) < nI 0) = True := by decide
theorem zq_le0 : ((-1 : Int32) ≤ nI 0) = True := by decide
theorem zq_0le : (nI 0 ≤ (-1 : Int32)) = False := by decide
theorem zq_11 : (nI 1 = 1) = True := by decide
theorem bI_eq0c {b : Bool} : (bI b = nI 0) = (b = false) := by cases b <;> decide
theorem bI_01c {b : Bool} : (bI b = nI 0 ∨ bI b = 1) = True := by cases b <;> decide
theorem zmod (a d : Nat) : a - a / d * d = a % d := (Nat.mod_eq_sub_div_mul ..).symm
/-- a loop from its first round to its last -/
theorem zloop (n : Nat) (G : Nat → Option xO) (h : ∀ k r, k < n → G (k + 1) = r → G k = r) : ∀ r, G n = r → G 0 = r := by
  intro r hr
  have key : ∀ j, j ≤ n → G (n - j) = r := by
    intro j
    induction j with
    | zero => intro _; exact hr
    | succ j ih =>
      intro hj
      refine h (n - (j + 1)) r (by omega) ?_
      rw [show n - (j + 1) + 1 = n - j by omega]
      exact ih (by omega)
  have := key n (Nat.le_refl n)
  rwa [Nat.sub_self] at this
def zcI (c : Nat) : Int32 := if c < 64 then nI c else -1
theorem zcI_lt {c : Nat} (h : c < 64) : zcI c = nI c := if_pos h
theorem zcI_64 : zcI 64 = -1 := rfl
/-- a loop where a local is of no account -/
theorem zloopV {β : Type} (n : Nat) (G : Nat → β → Option xO) (h : ∀ k v r, k < n → (∀ v', G (k + 1) v' = r) → G k v = r) : ∀ r, (∀ v, G n v = r) → ∀ v, G 0 v = r := by
  intro r hr
  have key : ∀ j, j ≤ n → ∀ v, G (n - j) v = r := by
    intro j
    induction j with
    | zero => intro _; exact hr
    | succ j ih =>
      intro hj v
      refine h (n - (j + 1)) v r (by omega) ?_
      rw [show n - (j + 1) + 1 = n - j by omega]
      exact ih (by omega)
  have := key n (Nat.le_refl n)
  rwa [Nat.sub_self] at this
