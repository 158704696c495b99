/-! ===== the model counts rinks by joining ===== -/
theorem zrc_succ {s : Nat → Int32} {n c d : Nat} : zrc s (n + 1) c d ↔ zrc s n c d ∨ (zop s n = true ∧ ((zrc s n c (zb1 n) ∧ zrc s n (zb2 n) d) ∨ (zrc s n c (zb2 n) ∧ zrc s n (zb1 n) d))) := by
  constructor
  · intro h
    refine h (fun y => zrc s n c y ∨ (zop s n = true ∧ ((zrc s n c (zb1 n) ∧ zrc s n (zb2 n) y) ∨ (zrc s n c (zb2 n) ∧ zrc s n (zb1 n) y)))) (Or.inl (zrc_refl s n c)) (fun x y hxy hx => ?_)
    obtain ⟨l, hl, ho, hp⟩ := hxy
    by_cases hln : l = n
    · subst hln
      rcases hp with ⟨rfl, rfl⟩ | ⟨rfl, rfl⟩
      · rcases hx with hx | ⟨-, ⟨h1, -⟩ | ⟨h1, -⟩⟩
        · exact Or.inr ⟨ho, Or.inl ⟨hx, zrc_refl _ _ _⟩⟩
        · exact Or.inr ⟨ho, Or.inl ⟨h1, zrc_refl _ _ _⟩⟩
        · exact Or.inl h1
      · rcases hx with hx | ⟨-, ⟨h1, -⟩ | ⟨h1, -⟩⟩
        · exact Or.inr ⟨ho, Or.inr ⟨hx, zrc_refl _ _ _⟩⟩
        · exact Or.inl h1
        · exact Or.inr ⟨ho, Or.inr ⟨h1, zrc_refl _ _ _⟩⟩
    · have had : zad s n x y := ⟨l, by omega, ho, hp⟩
      rcases hx with hx | ⟨h0, ⟨h1, h2⟩ | ⟨h1, h2⟩⟩
      · exact Or.inl (zrc_step hx had)
      · exact Or.inr ⟨h0, Or.inl ⟨h1, zrc_step h2 had⟩⟩
      · exact Or.inr ⟨h0, Or.inr ⟨h1, zrc_step h2 had⟩⟩
  · rintro (h | ⟨h0, ⟨h1, h2⟩ | ⟨h1, h2⟩⟩)
    · exact zrc_mono (by omega) h
    · exact zrc_trans (zrc_step (zrc_mono (by omega) h1) ⟨n, by omega, h0, Or.inl ⟨rfl, rfl⟩⟩) (zrc_mono (by omega) h2)
    · exact zrc_trans (zrc_step (zrc_mono (by omega) h1) ⟨n, by omega, h0, Or.inr ⟨rfl, rfl⟩⟩) (zrc_mono (by omega) h2)
def zjn (s : Nat → Int32) (l : Nat) (g : Nat → Nat) : Nat → Nat := if zop s l = true then fun c => if g c = g (zb1 l) then g (zb2 l) else g c else g
def zjs (s : Nat → Int32) : Nat → Nat → Nat
  | 0 => fun c => c
  | n + 1 => zjn s n (zjs s n)
theorem zjn_t {s : Nat → Int32} {l : Nat} {g : Nat → Nat} (ho : zop s l = true) (c : Nat) : zjn s l g c = if g c = g (zb1 l) then g (zb2 l) else g c := by unfold zjn; rw [if_pos ho]
theorem zjn_f {s : Nat → Int32} {l : Nat} {g : Nat → Nat} (ho : zop s l = false) : zjn s l g = g := by unfold zjn; rw [if_neg (by rw [ho]; decide)]
theorem zjs_lt {s : Nat → Int32} : ∀ n c, c < 64 → zjs s n c < 64
  | 0, c, h => h
  | n + 1, c, h => by
    show zjn s n (zjs s n) c < 64
    cases ho : zop s n with
    | false => rw [zjn_f ho]; exact zjs_lt n c h
    | true =>
      rw [zjn_t ho]
      split
      · exact zjs_lt n _ (zic_lt (zop_ice ho).2.1)
      · exact zjs_lt n c h
/-- told by a number for each class -/
def zKer (s : Nat → Int32) (n : Nat) (g : Nat → Nat) : Prop := ∀ c d, c < 64 → d < 64 → (g c = g d ↔ zrc s n c d)
theorem zrc_0 {s : Nat → Int32} {c d : Nat} : zrc s 0 c d ↔ c = d := by
  constructor
  · intro h
    exact h (fun y => c = y) rfl (fun x y hxy _ => by obtain ⟨l, hl, -⟩ := hxy; exact absurd hl (Nat.not_lt_zero _))
  · rintro rfl; exact zrc_refl _ _ _
theorem zjs_iff {s : Nat → Int32} : ∀ n, zKer s n (zjs s n)
  | 0, c, d, _, _ => by
    show c = d ↔ _
    exact zrc_0.symm
  | n + 1, c, d, hc, hd => by
    have ih := zjs_iff (s := s) n
    show zjn s n (zjs s n) c = zjn s n (zjs s n) d ↔ _
    rw [zrc_succ]
    cases ho : zop s n with
    | false =>
      rw [zjn_f ho, ih c d hc hd]
      simp
    | true =>
      have b1 := zic_lt (zop_ice ho).1
      have b2 := zic_lt (zop_ice ho).2.1
      rw [zjn_t ho, zjn_t ho]
      by_cases h1 : zjs s n c = zjs s n (zb1 n)
      · have r1 := (ih c _ hc b1).mp h1
        rw [if_pos h1]
        by_cases h2 : zjs s n d = zjs s n (zb1 n)
        · have r2 := (ih d _ hd b1).mp h2
          rw [if_pos h2]
          exact ⟨fun _ => Or.inl (zrc_trans r1 (zrc_symm r2)), fun _ => rfl⟩
        · rw [if_neg h2, ih _ d b2 hd]
          constructor
          · intro h; exact Or.inr ⟨rfl, Or.inl ⟨r1, h⟩⟩
          · rintro (h | ⟨-, ⟨-, h⟩ | ⟨-, h⟩⟩)
            · exact absurd ((ih d _ hd b1).mpr (zrc_trans (zrc_symm h) r1)) h2
            · exact h
            · exact absurd ((ih d _ hd b1).mpr (zrc_symm h)) h2
      · rw [if_neg h1]
        by_cases h2 : zjs s n d = zjs s n (zb1 n)
        · have r2 := (ih d _ hd b1).mp h2
          rw [if_pos h2, ih c _ hc b2]
          constructor
          · intro h; exact Or.inr ⟨rfl, Or.inr ⟨h, zrc_symm r2⟩⟩
          · rintro (h | ⟨-, ⟨h, -⟩ | ⟨h, -⟩⟩)
            · exact absurd ((ih c _ hc b1).mpr (zrc_trans h r2)) h1
            · exact absurd ((ih c _ hc b1).mpr h) h1
            · exact h
        · rw [if_neg h2, ih c d hc hd]
          constructor
          · exact Or.inl
          · rintro (h | ⟨-, ⟨h, -⟩ | ⟨-, h⟩⟩)
            · exact h
            · exact absurd ((ih c _ hc b1).mpr h) h1
            · exact absurd ((ih d _ hd b1).mpr (zrc_symm h)) h2
/-- rinks, as joining counts them -/
noncomputable def zjc (s : Nat → Int32) : Nat → Int32
  | 0 => nI (cnt (zic s) 64)
  | n + 1 => if (zop s n && !zrB s n (zb1 n) (zb2 n)) = true then zjc s n + -1 else zjc s n
theorem zjc_f {s : Nat → Int32} {n : Nat} (h : zop s n = false) : zjc s (n + 1) = zjc s n := by simp [zjc, h]
theorem zjc_n {s : Nat → Int32} {n : Nat} (ho : zop s n = true) (h : ¬ zrc s n (zb1 n) (zb2 n)) : zjc s (n + 1) = zjc s n + -1 := by
  have : zrB s n (zb1 n) (zb2 n) = false := by
    cases hb : zrB s n (zb1 n) (zb2 n) with
    | false => rfl
    | true => exact absurd (zrB_iff.mp hb) h
  simp [zjc, ho, this]
theorem zjc_y {s : Nat → Int32} {n : Nat} (h : zrc s n (zb1 n) (zb2 n)) : zjc s (n + 1) = zjc s n := by
  have := zrB_iff.mpr h
  simp [zjc, this]
theorem zi_sub1 (x : Int32) : x - nI 1 = x + -1 := Int32.sub_eq_add_neg x (nI 1)
theorem zi_sub0 (x : Int32) : x - nI 0 = x := Int32.sub_zero x
section Z6E
variable {C : ZC} {M : ZM} {e : ZE} {σ : xS}
end Z6E
