/-! ===== the heap as a picture of both systems: by program (wip/tools/gen_pic.py) ===== -/
/-- a pond: wear, settings, numbers (0 cracked, 1 thaws, 2 melted, 3 filled, 10 k + 10 .. the skater k), sets (0 ice, 1 cuts north, 2 cuts west, 10 + k owned by k) -/
abbrev ZP : Type := (Nat → Int32) × (Nat → Int32) × (Nat → Int32) × (Nat → Int64)
/-- the class: ponds (0 pond, 1 trial, 2 snapshot, 3.. saved), codes, lower, numbers (0 length, 1 oldest, 2 size, 3 has a snapshot) -/
abbrev ZC : Type := (Nat → ZP) × (Nat → Int32) × (Nat → Int32) × (Nat → Int32)
/-- the model: 0 s, 1 aside, 2 past, 3 snapshot, 4 text, 5 label, 6 joined, 7 goes, 8 numbers (0 pasts, 1 isKept, 2 length, 3 thrown, 4 placeAtEnd) -/
abbrev ZM : Type := Nat → Nat → Int32
/-- the rest: how many places, garbage, slots; the other cells -/
abbrev ZE : Type := (Nat × Nat × Nat) × (Nat → Option xC)
def ztr (n : Nat) (f : Nat → Int32) : Nat → Int32 := fun j => if j < n then f j else 0
def zbp (i : Nat) : Nat := if i < 3 then 1 + 7 * i else 3 + 7 * i
def zsp (i k : Nat) : Nat := zbp i + (4 + k)
def zskr (i : Nat) : Nat → Option Nat := fun j => if j < 3 then some (zsp i j) else none
def zpor : Nat → Option Nat := fun j => if j < 6 then some (zbp (3 + j)) else none
def zpc (i : Nat) (P : ZP) (r : Nat) : xC := match r with
  | 0 => .inr (1, [.long (P.2.2.2 0), .long (P.2.2.2 1), .long (P.2.2.2 2), .ref (zbp i + 1), .ref (zbp i + 2), .ref (zbp i + 3), .int (P.2.2.1 0), .int (P.2.2.1 1), .int (P.2.2.1 2), .int (P.2.2.1 3)])
  | 1 => .inl (0, 144, .inl (ztr 144 P.1))
  | 2 => .inl (0, 3, .inl (ztr 3 P.2.1))
  | 3 => .inl (3, 3, .inr (.inr (.inr (.inr (zskr i)))))
  | k + 4 => .inr (4, [.int (P.2.2.1 (10 * k + 10)), .int (P.2.2.1 (10 * k + 11)), .int (P.2.2.1 (10 * k + 12)), .int (P.2.2.1 (10 * k + 13)), .int (P.2.2.1 (10 * k + 14)), .int (P.2.2.1 (10 * k + 15)), .long (P.2.2.2 (k + 10))])
/-- the class's other cells: 0 itself, 1 saved, 2 their array, 3 text, 4 codes, 5 joiner, 6 lower -/
def zcc (C : ZC) (r : Nat) : xC := match r with
  | 0 => .inr (5, [.ref (zbp 0), .ref (zbp 1), .ref (zbp 2), .ref 22, .ref 66, .ref 68, .int (C.2.2.2 3)])
  | 1 => .inr (3, [.ref 23, .int (C.2.2.2 1), .int (C.2.2.2 2)])
  | 2 => .inl (2, 6, .inr (.inr (.inr (.inr zpor))))
  | 3 => .inr (0, [.ref 67, .int (C.2.2.2 0)])
  | 4 => .inl (0, 60, .inl (ztr 60 C.2.1))
  | 5 => .inr (2, [.ref 69])
  | _ => .inl (0, 64, .inl (ztr 64 C.2.2.1))
def zhc (C : ZC) (M : ZM) (e : ZE) (q : Nat) : Option xC :=
  if q = 0 then some (zcc C 0)
  else if q < 22 then some (zpc ((q - 1) / 7) (C.1 ((q - 1) / 7)) ((q - 1) % 7))
  else if q < 24 then some (zcc C (q - 21))
  else if q < 66 then some (zpc (3 + (q - 24) / 7) (C.1 (3 + (q - 24) / 7)) ((q - 24) % 7))
  else if q < 70 then some (zcc C (q - 63))
  else e.2 q
def zH (C : ZC) (M : ZM) (e : ZE) : xS := (zhc C M e, e.1)
/-- the row beside the class is of the proof's own -/
theorem zH_M (C : ZC) (M M' : ZM) (e : ZE) : zH C M e = zH C M' e := rfl
def zcp (C : ZC) (i : Nat) (P : ZP) : ZC := (fun j => if j = i then P else C.1 j, C.2)
def zms (M : ZM) (a : Nat) (f : Nat → Int32) : ZM := fun b => if b = a then f else M b
theorem zms_s (M : ZM) (a : Nat) (f : Nat → Int32) : zms M a f a = f := if_pos rfl
theorem zms_n (M : ZM) {a b : Nat} (f : Nat → Int32) (h : b ≠ a) : zms M a f b = M b := if_neg h
theorem zms_zms (M : ZM) (a : Nat) (f g : Nat → Int32) : zms (zms M a f) a g = zms M a g := by
  funext b; unfold zms; split <;> rfl
theorem zms_id (M : ZM) (a : Nat) : zms M a (M a) = M := by
  funext b; unfold zms; split
  · next h => rw [h]
  · rfl
theorem zms_sort (M : ZM) {a b : Nat} (f g : Nat → Int32) (h : b < a) : zms (zms M a f) b g = zms (zms M b g) a f := by
  funext c; unfold zms
  by_cases h1 : c = a
  · subst h1
    have : ¬ c = b := by omega
    simp [this]
  · simp [h1]
theorem zso_1_0 (M : ZM) (f g : Nat → Int32) : zms (zms M 1 f) 0 g = zms (zms M 0 g) 1 f := zms_sort M f g (by omega)
theorem zso_2_0 (M : ZM) (f g : Nat → Int32) : zms (zms M 2 f) 0 g = zms (zms M 0 g) 2 f := zms_sort M f g (by omega)
theorem zso_2_1 (M : ZM) (f g : Nat → Int32) : zms (zms M 2 f) 1 g = zms (zms M 1 g) 2 f := zms_sort M f g (by omega)
theorem zso_3_0 (M : ZM) (f g : Nat → Int32) : zms (zms M 3 f) 0 g = zms (zms M 0 g) 3 f := zms_sort M f g (by omega)
theorem zso_3_1 (M : ZM) (f g : Nat → Int32) : zms (zms M 3 f) 1 g = zms (zms M 1 g) 3 f := zms_sort M f g (by omega)
theorem zso_3_2 (M : ZM) (f g : Nat → Int32) : zms (zms M 3 f) 2 g = zms (zms M 2 g) 3 f := zms_sort M f g (by omega)
theorem zso_4_0 (M : ZM) (f g : Nat → Int32) : zms (zms M 4 f) 0 g = zms (zms M 0 g) 4 f := zms_sort M f g (by omega)
theorem zso_4_1 (M : ZM) (f g : Nat → Int32) : zms (zms M 4 f) 1 g = zms (zms M 1 g) 4 f := zms_sort M f g (by omega)
theorem zso_4_2 (M : ZM) (f g : Nat → Int32) : zms (zms M 4 f) 2 g = zms (zms M 2 g) 4 f := zms_sort M f g (by omega)
theorem zso_4_3 (M : ZM) (f g : Nat → Int32) : zms (zms M 4 f) 3 g = zms (zms M 3 g) 4 f := zms_sort M f g (by omega)
theorem zso_5_0 (M : ZM) (f g : Nat → Int32) : zms (zms M 5 f) 0 g = zms (zms M 0 g) 5 f := zms_sort M f g (by omega)
theorem zso_5_1 (M : ZM) (f g : Nat → Int32) : zms (zms M 5 f) 1 g = zms (zms M 1 g) 5 f := zms_sort M f g (by omega)
theorem zso_5_2 (M : ZM) (f g : Nat → Int32) : zms (zms M 5 f) 2 g = zms (zms M 2 g) 5 f := zms_sort M f g (by omega)
theorem zso_5_3 (M : ZM) (f g : Nat → Int32) : zms (zms M 5 f) 3 g = zms (zms M 3 g) 5 f := zms_sort M f g (by omega)
theorem zso_5_4 (M : ZM) (f g : Nat → Int32) : zms (zms M 5 f) 4 g = zms (zms M 4 g) 5 f := zms_sort M f g (by omega)
theorem zso_6_0 (M : ZM) (f g : Nat → Int32) : zms (zms M 6 f) 0 g = zms (zms M 0 g) 6 f := zms_sort M f g (by omega)
theorem zso_6_1 (M : ZM) (f g : Nat → Int32) : zms (zms M 6 f) 1 g = zms (zms M 1 g) 6 f := zms_sort M f g (by omega)
theorem zso_6_2 (M : ZM) (f g : Nat → Int32) : zms (zms M 6 f) 2 g = zms (zms M 2 g) 6 f := zms_sort M f g (by omega)
theorem zso_6_3 (M : ZM) (f g : Nat → Int32) : zms (zms M 6 f) 3 g = zms (zms M 3 g) 6 f := zms_sort M f g (by omega)
theorem zso_6_4 (M : ZM) (f g : Nat → Int32) : zms (zms M 6 f) 4 g = zms (zms M 4 g) 6 f := zms_sort M f g (by omega)
theorem zso_6_5 (M : ZM) (f g : Nat → Int32) : zms (zms M 6 f) 5 g = zms (zms M 5 g) 6 f := zms_sort M f g (by omega)
theorem zso_7_0 (M : ZM) (f g : Nat → Int32) : zms (zms M 7 f) 0 g = zms (zms M 0 g) 7 f := zms_sort M f g (by omega)
theorem zso_7_1 (M : ZM) (f g : Nat → Int32) : zms (zms M 7 f) 1 g = zms (zms M 1 g) 7 f := zms_sort M f g (by omega)
theorem zso_7_2 (M : ZM) (f g : Nat → Int32) : zms (zms M 7 f) 2 g = zms (zms M 2 g) 7 f := zms_sort M f g (by omega)
theorem zso_7_3 (M : ZM) (f g : Nat → Int32) : zms (zms M 7 f) 3 g = zms (zms M 3 g) 7 f := zms_sort M f g (by omega)
theorem zso_7_4 (M : ZM) (f g : Nat → Int32) : zms (zms M 7 f) 4 g = zms (zms M 4 g) 7 f := zms_sort M f g (by omega)
theorem zso_7_5 (M : ZM) (f g : Nat → Int32) : zms (zms M 7 f) 5 g = zms (zms M 5 g) 7 f := zms_sort M f g (by omega)
theorem zso_7_6 (M : ZM) (f g : Nat → Int32) : zms (zms M 7 f) 6 g = zms (zms M 6 g) 7 f := zms_sort M f g (by omega)
theorem zso_8_0 (M : ZM) (f g : Nat → Int32) : zms (zms M 8 f) 0 g = zms (zms M 0 g) 8 f := zms_sort M f g (by omega)
theorem zso_8_1 (M : ZM) (f g : Nat → Int32) : zms (zms M 8 f) 1 g = zms (zms M 1 g) 8 f := zms_sort M f g (by omega)
theorem zso_8_2 (M : ZM) (f g : Nat → Int32) : zms (zms M 8 f) 2 g = zms (zms M 2 g) 8 f := zms_sort M f g (by omega)
theorem zso_8_3 (M : ZM) (f g : Nat → Int32) : zms (zms M 8 f) 3 g = zms (zms M 3 g) 8 f := zms_sort M f g (by omega)
theorem zso_8_4 (M : ZM) (f g : Nat → Int32) : zms (zms M 8 f) 4 g = zms (zms M 4 g) 8 f := zms_sort M f g (by omega)
theorem zso_8_5 (M : ZM) (f g : Nat → Int32) : zms (zms M 8 f) 5 g = zms (zms M 5 g) 8 f := zms_sort M f g (by omega)
theorem zso_8_6 (M : ZM) (f g : Nat → Int32) : zms (zms M 8 f) 6 g = zms (zms M 6 g) 8 f := zms_sort M f g (by omega)
theorem zso_8_7 (M : ZM) (f g : Nat → Int32) : zms (zms M 8 f) 7 g = zms (zms M 7 g) 8 f := zms_sort M f g (by omega)
theorem zms_comm (M : ZM) {a b : Nat} (f g : Nat → Int32) (h : a ≠ b) : zms (zms M a f) b g = zms (zms M b g) a f := by
  funext c; unfold zms
  by_cases h1 : c = a
  · subst h1; simp [h]
  · simp [h1]
theorem zcp_s (C : ZC) (i : Nat) (P : ZP) : (zcp C i P).1 i = P := if_pos rfl
theorem zcp_n (C : ZC) {i j : Nat} (P : ZP) (h : j ≠ i) : (zcp C i P).1 j = C.1 j := if_neg h
theorem zcp_2 (C : ZC) (i : Nat) (P : ZP) : (zcp C i P).2 = C.2 := rfl
theorem zcp_zcp (C : ZC) (i : Nat) (P Q : ZP) : zcp (zcp C i P) i Q = zcp C i Q := by
  unfold zcp; congr 1; funext b; dsimp only; split <;> rfl
theorem zcp_id (C : ZC) (i : Nat) : zcp C i (C.1 i) = C := by
  unfold zcp; refine Prod.ext (funext fun b => ?_) rfl
  dsimp only; split
  · next h => rw [h]
  · rfl
theorem ztr_lt {n j : Nat} {f : Nat → Int32} (h : j < n) : ztr n f j = f j := if_pos h
theorem ztr_upd {n j : Nat} {f : Nat → Int32} {x : Int32} (h : j < n) : upd (ztr n f) j x = ztr n (upd f j x) := by
  funext k; unfold upd ztr
  by_cases h1 : k = j
  · subst h1; simp [h]
  · simp [h1]
theorem ztr_ext {n : Nat} {f g : Nat → Int32} (h : ∀ j, j < n → f j = g j) : ztr n f = ztr n g := by
  funext k; unfold ztr
  split
  · exact h k (by assumption)
  · rfl
def zfl (k : Nat) (f g : Nat → Int32) : Nat → Int32 := fun j => if j < k then f j else g j
theorem zfl_0 (f g : Nat → Int32) : zfl 0 f g = g := by funext j; unfold zfl; simp
theorem zfl_s (k : Nat) (f g : Nat → Int32) : upd (zfl k f g) k (f k) = zfl (k + 1) f g := by
  funext j; unfold zfl upd
  by_cases h1 : j = k
  · subst h1; simp
  · by_cases h2 : j < k
    · simp [h1, h2, Nat.lt_succ_of_lt h2]
    · have : ¬ j < k + 1 := by omega
      simp [h1, h2, this]
theorem zfl_lt {k j : Nat} (f g : Nat → Int32) (h : j < k) : zfl k f g j = f j := if_pos h
theorem zfl_ge {k j : Nat} (f g : Nat → Int32) (h : k ≤ j) : zfl k f g j = g j := if_neg (by omega)
theorem upd_s (f : Nat → Int32) (k : Nat) (x : Int32) : upd f k x k = x := if_pos rfl
theorem upd_n (f : Nat → Int32) {k j : Nat} (x : Int32) (h : j ≠ k) : upd f k x j = f j := if_neg h
theorem upd_upd (f : Nat → Int32) (k : Nat) (x y : Int32) : upd (upd f k x) k y = upd f k y := by
  funext j; unfold upd; split <;> rfl
theorem updL_s (f : Nat → Int64) (k : Nat) (x : Int64) : vp_updL f k x k = x := if_pos rfl
theorem updL_n (f : Nat → Int64) {k j : Nat} (x : Int64) (h : j ≠ k) : vp_updL f k x j = f j := if_neg h
theorem zhc_p {C : ZC} {M : ZM} {e : ZE} {i r : Nat} (hi : i < 9) (hr : r < 7) : zhc C M e (zbp i + r) = some (zpc i (C.1 i) r) := by
  unfold zbp zhc
  by_cases h : i < 3
  · rw [if_pos h, if_neg (by omega), if_pos (by omega)]
    have h1 : (1 + 7 * i + r - 1) / 7 = i := by omega
    have h2 : (1 + 7 * i + r - 1) % 7 = r := by omega
    rw [h1, h2]
  · rw [if_neg h, if_neg (by omega), if_neg (by omega), if_neg (by omega), if_pos (by omega)]
    have h1 : 3 + (3 + 7 * i + r - 24) / 7 = i := by omega
    have h2 : (3 + 7 * i + r - 24) % 7 = r := by omega
    rw [h1, h2]
theorem zhup_p {C : ZC} {M : ZM} {e : ZE} {i r : Nat} {P : ZP} (hi : i < 9) (hr : r < 7) (h : ∀ r', r' < 7 → r' ≠ r → zpc i P r' = zpc i (C.1 i) r') : hup (zH C M e) (zbp i + r) (zpc i P r) = zH (zcp C i P) M e := by
  refine Prod.ext (funext fun q => ?_) rfl
  show (if q = zbp i + r then some (zpc i P r) else zhc C M e q) = zhc (zcp C i P) M e q
  by_cases hq : q = zbp i + r
  · subst hq
    rw [if_pos rfl, zhc_p hi hr, zcp_s]
  · rw [if_neg hq]
    have key : ∀ j t, q = zbp j + t → t < 7 → zpc j (C.1 j) t = zpc j ((zcp C i P).1 j) t := by
      intro j t h1 h2
      by_cases hj : j = i
      · subst hj
        rw [zcp_s]
        exact (h t h2 (fun h3 => hq (by rw [h1, h3]))).symm
      · rw [zcp_n C P hj]
    unfold zhc
    by_cases h0 : q = 0
    · rw [if_pos h0, if_pos h0]; rfl
    · rw [if_neg h0, if_neg h0]
      by_cases h1 : q < 22
      · rw [if_pos h1, if_pos h1, key ((q - 1) / 7) ((q - 1) % 7) (by unfold zbp; rw [if_pos (by omega)]; omega) (by omega)]
      · rw [if_neg h1, if_neg h1]
        by_cases h2 : q < 24
        · rw [if_pos h2, if_pos h2]; rfl
        · rw [if_neg h2, if_neg h2]
          by_cases h3 : q < 66
          · rw [if_pos h3, if_pos h3, key (3 + (q - 24) / 7) ((q - 24) % 7) (by unfold zbp; rw [if_neg (by omega)]; omega) (by omega)]
          · rw [if_neg h3, if_neg h3]; rfl
theorem zhup_c {C C' : ZC} {M : ZM} {e : ZE} {q r : Nat} (hq : (q = 0 ∧ r = 0) ∨ (q = 22 ∧ r = 1) ∨ (q = 23 ∧ r = 2) ∨ (q = 66 ∧ r = 3) ∨ (q = 67 ∧ r = 4) ∨ (q = 68 ∧ r = 5) ∨ (q = 69 ∧ r = 6)) (hp : C'.1 = C.1) (h : ∀ r', r' < 7 → r' ≠ r → zcc C' r' = zcc C r') : hup (zH C M e) q (zcc C' r) = zH C' M e := by
  refine Prod.ext (funext fun p => ?_) rfl
  show (if p = q then some (zcc C' r) else zhc C M e p) = zhc C' M e p
  unfold zhc
  rw [hp]
  by_cases hpq : p = q
  · rw [if_pos hpq]
    rcases hq with ⟨h1, h2⟩ | ⟨h1, h2⟩ | ⟨h1, h2⟩ | ⟨h1, h2⟩ | ⟨h1, h2⟩ | ⟨h1, h2⟩ | ⟨h1, h2⟩ <;> (rw [hpq, h1, h2]; rfl)
  · rw [if_neg hpq]
    by_cases h0 : p = 0
    · rw [if_pos h0, if_pos h0, h 0 (by omega) (by omega)]
    · rw [if_neg h0, if_neg h0]
      by_cases h1 : p < 22
      · rw [if_pos h1, if_pos h1]
      · rw [if_neg h1, if_neg h1]
        by_cases h2 : p < 24
        · rw [if_pos h2, if_pos h2, h (p - 21) (by omega) (by omega)]
        · rw [if_neg h2, if_neg h2]
          by_cases h3 : p < 66
          · rw [if_pos h3, if_pos h3]
          · rw [if_neg h3, if_neg h3]
            by_cases h4 : p < 70
            · rw [if_pos h4, if_pos h4, h (p - 63) (by omega) (by omega)]
            · rw [if_neg h4, if_neg h4]
theorem zall7 {p : Nat → Prop} (h0 : p 0) (h1 : p 1) (h2 : p 2) (h3 : p 3) (h4 : p 4) (h5 : p 5) (h6 : p 6) : ∀ r, r < 7 → p r
  | 0, _ => h0
  | 1, _ => h1
  | 2, _ => h2
  | 3, _ => h3
  | 4, _ => h4
  | 5, _ => h5
  | 6, _ => h6
  | k + 7, h => absurd h (by omega)
theorem zall9 {p : Nat → Prop} (h0 : p 0) (h1 : p 1) (h2 : p 2) (h3 : p 3) (h4 : p 4) (h5 : p 5) (h6 : p 6) (h7 : p 7) (h8 : p 8) : ∀ r, r < 9 → p r
  | 0, _ => h0
  | 1, _ => h1
  | 2, _ => h2
  | 3, _ => h3
  | 4, _ => h4
  | 5, _ => h5
  | 6, _ => h6
  | 7, _ => h7
  | 8, _ => h8
  | k + 9, h => absurd h (by omega)
section ZF
variable {C : ZC} {M : ZM} {e : ZE} {i : Nat}
theorem zo_p (hi : i < 9) : hobj (zH C M e) (zbp i) = some (1, [.long ((C.1 i).2.2.2 0), .long ((C.1 i).2.2.2 1), .long ((C.1 i).2.2.2 2), .ref (zbp i + 1), .ref (zbp i + 2), .ref (zbp i + 3), .int ((C.1 i).2.2.1 0), .int ((C.1 i).2.2.1 1), .int ((C.1 i).2.2.1 2), .int ((C.1 i).2.2.1 3)]) := by
  have := zhc_p (C := C) (M := M) (e := e) (r := 0) hi (by omega)
  rw [Nat.add_zero] at this
  unfold hobj
  rw [show (zH C M e).1 (zbp i) = _ from this]
  rfl
theorem zo_s {k : Nat} (hi : i < 9) (hk : k < 3) : hobj (zH C M e) (zsp i k) = some (4, [.int ((C.1 i).2.2.1 (10 * k + 10)), .int ((C.1 i).2.2.1 (10 * k + 11)), .int ((C.1 i).2.2.1 (10 * k + 12)), .int ((C.1 i).2.2.1 (10 * k + 13)), .int ((C.1 i).2.2.1 (10 * k + 14)), .int ((C.1 i).2.2.1 (10 * k + 15)), .long ((C.1 i).2.2.2 (k + 10))]) := by
  have := zhc_p (C := C) (M := M) (e := e) (r := 4 + k) hi (by omega)
  rw [Nat.add_comm 4 k] at this
  unfold hobj zsp
  rw [Nat.add_comm 4 k, show (zH C M e).1 (zbp i + (k + 4)) = _ from this]
  rfl
theorem zo_0 : hobj (zH C M e) 0 = some (5, [.ref (zbp 0), .ref (zbp 1), .ref (zbp 2), .ref 22, .ref 66, .ref 68, .int (C.2.2.2 3)]) := rfl
theorem zo_22 : hobj (zH C M e) 22 = some (3, [.ref 23, .int (C.2.2.2 1), .int (C.2.2.2 2)]) := rfl
theorem zo_66 : hobj (zH C M e) 66 = some (0, [.ref 67, .int (C.2.2.2 0)]) := rfl
theorem zo_68 : hobj (zH C M e) 68 = some (2, [.ref 69]) := rfl
theorem zk_p (hi : i < 9) : hcls (zH C M e) (zbp i) = some 1 := by unfold hcls; rw [zo_p hi]; rfl
theorem zk_s {k : Nat} (hi : i < 9) (hk : k < 3) : hcls (zH C M e) (zsp i k) = some 4 := by unfold hcls; rw [zo_s hi hk]; rfl
theorem zk_0 : hcls (zH C M e) 0 = some 5 := rfl
theorem zk_22 : hcls (zH C M e) 22 = some 3 := rfl
theorem zk_66 : hcls (zH C M e) 66 = some 0 := rfl
theorem zk_68 : hcls (zH C M e) 68 = some 2 := rfl
theorem zq_W (hi : i < 9) : hint (zH C M e) 0 (zbp i + 1) = some (144, ztr 144 (C.1 i).1) := by
  unfold hint
  rw [show (zH C M e).1 (zbp i + 1) = _ from zhc_p (C := C) (M := M) (e := e) (r := 1) hi (by omega)]
  rfl
theorem zq_T (hi : i < 9) : hint (zH C M e) 0 (zbp i + 2) = some (3, ztr 3 (C.1 i).2.1) := by
  unfold hint
  rw [show (zH C M e).1 (zbp i + 2) = _ from zhc_p (C := C) (M := M) (e := e) (r := 2) hi (by omega)]
  rfl
theorem zq_K (hi : i < 9) : href (zH C M e) (zbp i + 3) = some (3, 3, zskr i) := by
  unfold href
  rw [show (zH C M e).1 (zbp i + 3) = _ from zhc_p (C := C) (M := M) (e := e) (r := 3) hi (by omega)]
  rfl
theorem zskr_k {k : Nat} (hk : k < 3) : va_rf (zskr i k) = .ref (zsp i k) := by unfold zskr; rw [if_pos hk]; rfl
theorem zpor_k {k : Nat} (hk : k < 6) : va_rf (zpor k) = .ref (zbp (3 + k)) := by unfold zpor; rw [if_pos hk]; rfl
theorem zq_23 : href (zH C M e) 23 = some (2, 6, zpor) := rfl
theorem zq_67 : hint (zH C M e) 0 67 = some (60, ztr 60 C.2.1) := rfl
theorem zq_69 : hint (zH C M e) 0 69 = some (64, ztr 64 C.2.2.1) := rfl
/-- set a setting, a wear, a number, a set of a pond -/
def zsS (P : ZP) (j : Nat) (x : Int32) : ZP := (P.1, P.2.1, upd P.2.2.1 j x, P.2.2.2)
def zsL (P : ZP) (j : Nat) (x : Int64) : ZP := (P.1, P.2.1, P.2.2.1, vp_updL P.2.2.2 j x)
theorem zsS_1 (P : ZP) (j : Nat) (x : Int32) : (zsS P j x).1 = P.1 := rfl
theorem zsS_2 (P : ZP) (j : Nat) (x : Int32) : (zsS P j x).2.1 = P.2.1 := rfl
theorem zsS_3 (P : ZP) (j : Nat) (x : Int32) : (zsS P j x).2.2.1 = upd P.2.2.1 j x := rfl
theorem zsS_4 (P : ZP) (j : Nat) (x : Int32) : (zsS P j x).2.2.2 = P.2.2.2 := rfl
theorem zsL_1 (P : ZP) (j : Nat) (x : Int64) : (zsL P j x).1 = P.1 := rfl
theorem zsL_2 (P : ZP) (j : Nat) (x : Int64) : (zsL P j x).2.1 = P.2.1 := rfl
theorem zsL_3 (P : ZP) (j : Nat) (x : Int64) : (zsL P j x).2.2.1 = P.2.2.1 := rfl
theorem zsL_4 (P : ZP) (j : Nat) (x : Int64) : (zsL P j x).2.2.2 = vp_updL P.2.2.2 j x := rfl
/-- set a number of the class; of its arrays -/
def zcS (C : ZC) (j : Nat) (x : Int32) : ZC := (C.1, C.2.1, C.2.2.1, upd C.2.2.2 j x)
def zcK (C : ZC) (f : Nat → Int32) : ZC := (C.1, f, C.2.2)
def zcL (C : ZC) (f : Nat → Int32) : ZC := (C.1, C.2.1, f, C.2.2.2)
theorem zu_W {j : Nat} {x : Int32} {f : Nat → Int32} (hi : i < 9) (hj : j < 144) : hup (zH C M e) (zbp i + 1) (.inl (0, 144, .inl (upd (ztr 144 f) j x))) = zH (zcp C i (upd f j x, (C.1 i).2)) M e := by
  rw [ztr_upd hj]
  exact zhup_p (P := (upd f j x, (C.1 i).2)) (r := 1) hi (by omega) (zall7 (fun _ => rfl) (fun h => absurd rfl h) (fun _ => rfl) (fun _ => rfl) (fun _ => rfl) (fun _ => rfl) (fun _ => rfl))
theorem zu_Wc {f : Nat → Int32} (hi : i < 9) : hup (zH C M e) (zbp i + 1) (.inl (0, 144, .inl (ztr 144 f))) = zH (zcp C i (f, (C.1 i).2)) M e :=
  zhup_p (P := (f, (C.1 i).2)) (r := 1) hi (by omega) (zall7 (fun _ => rfl) (fun h => absurd rfl h) (fun _ => rfl) (fun _ => rfl) (fun _ => rfl) (fun _ => rfl) (fun _ => rfl))
theorem zu_T {j : Nat} {x : Int32} {f : Nat → Int32} (hi : i < 9) (hj : j < 3) : hup (zH C M e) (zbp i + 2) (.inl (0, 3, .inl (upd (ztr 3 f) j x))) = zH (zcp C i ((C.1 i).1, upd f j x, (C.1 i).2.2)) M e := by
  rw [ztr_upd hj]
  exact zhup_p (P := ((C.1 i).1, upd f j x, (C.1 i).2.2)) (r := 2) hi (by omega) (zall7 (fun _ => rfl) (fun _ => rfl) (fun h => absurd rfl h) (fun _ => rfl) (fun _ => rfl) (fun _ => rfl) (fun _ => rfl))
theorem zu_Tc {f : Nat → Int32} (hi : i < 9) : hup (zH C M e) (zbp i + 2) (.inl (0, 3, .inl (ztr 3 f))) = zH (zcp C i ((C.1 i).1, f, (C.1 i).2.2)) M e :=
  zhup_p (P := ((C.1 i).1, f, (C.1 i).2.2)) (r := 2) hi (by omega) (zall7 (fun _ => rfl) (fun _ => rfl) (fun h => absurd rfl h) (fun _ => rfl) (fun _ => rfl) (fun _ => rfl) (fun _ => rfl))
theorem zf_p0 (hi : i < 9) : hfld (zH C M e) (zbp i) 1 0 = some (.long ((C.1 i).2.2.2 0)) := by unfold hfld; rw [zo_p hi]; rfl
theorem zg_p0 {x : Int64} (hi : i < 9) : hfst (zH C M e) (zbp i) 1 0 (.long x) = some (zH (zcp C i (zsL (C.1 i) 0 x)) M e) := by
  unfold hfst
  rw [zo_p hi]
  exact congrArg some (zhup_p (P := zsL (C.1 i) 0 x) (r := 0) hi (by omega) (zall7 (fun h => absurd rfl h) (fun _ => rfl) (fun _ => rfl) (fun _ => rfl) (fun _ => rfl) (fun _ => rfl) (fun _ => rfl)))
theorem zf_p1 (hi : i < 9) : hfld (zH C M e) (zbp i) 1 1 = some (.long ((C.1 i).2.2.2 1)) := by unfold hfld; rw [zo_p hi]; rfl
theorem zg_p1 {x : Int64} (hi : i < 9) : hfst (zH C M e) (zbp i) 1 1 (.long x) = some (zH (zcp C i (zsL (C.1 i) 1 x)) M e) := by
  unfold hfst
  rw [zo_p hi]
  exact congrArg some (zhup_p (P := zsL (C.1 i) 1 x) (r := 0) hi (by omega) (zall7 (fun h => absurd rfl h) (fun _ => rfl) (fun _ => rfl) (fun _ => rfl) (fun _ => rfl) (fun _ => rfl) (fun _ => rfl)))
theorem zf_p2 (hi : i < 9) : hfld (zH C M e) (zbp i) 1 2 = some (.long ((C.1 i).2.2.2 2)) := by unfold hfld; rw [zo_p hi]; rfl
theorem zg_p2 {x : Int64} (hi : i < 9) : hfst (zH C M e) (zbp i) 1 2 (.long x) = some (zH (zcp C i (zsL (C.1 i) 2 x)) M e) := by
  unfold hfst
  rw [zo_p hi]
  exact congrArg some (zhup_p (P := zsL (C.1 i) 2 x) (r := 0) hi (by omega) (zall7 (fun h => absurd rfl h) (fun _ => rfl) (fun _ => rfl) (fun _ => rfl) (fun _ => rfl) (fun _ => rfl) (fun _ => rfl)))
theorem zf_p3 (hi : i < 9) : hfld (zH C M e) (zbp i) 1 3 = some (.ref (zbp i + 1)) := by unfold hfld; rw [zo_p hi]; rfl
theorem zf_p4 (hi : i < 9) : hfld (zH C M e) (zbp i) 1 4 = some (.ref (zbp i + 2)) := by unfold hfld; rw [zo_p hi]; rfl
theorem zf_p5 (hi : i < 9) : hfld (zH C M e) (zbp i) 1 5 = some (.ref (zbp i + 3)) := by unfold hfld; rw [zo_p hi]; rfl
theorem zf_p6 (hi : i < 9) : hfld (zH C M e) (zbp i) 1 6 = some (.int ((C.1 i).2.2.1 0)) := by unfold hfld; rw [zo_p hi]; rfl
theorem zg_p6 {x : Int32} (hi : i < 9) : hfst (zH C M e) (zbp i) 1 6 (.int x) = some (zH (zcp C i (zsS (C.1 i) 0 x)) M e) := by
  unfold hfst
  rw [zo_p hi]
  exact congrArg some (zhup_p (P := zsS (C.1 i) 0 x) (r := 0) hi (by omega) (zall7 (fun h => absurd rfl h) (fun _ => rfl) (fun _ => rfl) (fun _ => rfl) (fun _ => rfl) (fun _ => rfl) (fun _ => rfl)))
theorem zf_p7 (hi : i < 9) : hfld (zH C M e) (zbp i) 1 7 = some (.int ((C.1 i).2.2.1 1)) := by unfold hfld; rw [zo_p hi]; rfl
theorem zg_p7 {x : Int32} (hi : i < 9) : hfst (zH C M e) (zbp i) 1 7 (.int x) = some (zH (zcp C i (zsS (C.1 i) 1 x)) M e) := by
  unfold hfst
  rw [zo_p hi]
  exact congrArg some (zhup_p (P := zsS (C.1 i) 1 x) (r := 0) hi (by omega) (zall7 (fun h => absurd rfl h) (fun _ => rfl) (fun _ => rfl) (fun _ => rfl) (fun _ => rfl) (fun _ => rfl) (fun _ => rfl)))
theorem zf_p8 (hi : i < 9) : hfld (zH C M e) (zbp i) 1 8 = some (.int ((C.1 i).2.2.1 2)) := by unfold hfld; rw [zo_p hi]; rfl
theorem zg_p8 {x : Int32} (hi : i < 9) : hfst (zH C M e) (zbp i) 1 8 (.int x) = some (zH (zcp C i (zsS (C.1 i) 2 x)) M e) := by
  unfold hfst
  rw [zo_p hi]
  exact congrArg some (zhup_p (P := zsS (C.1 i) 2 x) (r := 0) hi (by omega) (zall7 (fun h => absurd rfl h) (fun _ => rfl) (fun _ => rfl) (fun _ => rfl) (fun _ => rfl) (fun _ => rfl) (fun _ => rfl)))
theorem zf_p9 (hi : i < 9) : hfld (zH C M e) (zbp i) 1 9 = some (.int ((C.1 i).2.2.1 3)) := by unfold hfld; rw [zo_p hi]; rfl
theorem zg_p9 {x : Int32} (hi : i < 9) : hfst (zH C M e) (zbp i) 1 9 (.int x) = some (zH (zcp C i (zsS (C.1 i) 3 x)) M e) := by
  unfold hfst
  rw [zo_p hi]
  exact congrArg some (zhup_p (P := zsS (C.1 i) 3 x) (r := 0) hi (by omega) (zall7 (fun h => absurd rfl h) (fun _ => rfl) (fun _ => rfl) (fun _ => rfl) (fun _ => rfl) (fun _ => rfl) (fun _ => rfl)))
theorem zf_s0 {k : Nat} (hi : i < 9) (hk : k < 3) : hfld (zH C M e) (zsp i k) 4 0 = some (.int ((C.1 i).2.2.1 (10 * k + 10))) := by unfold hfld; rw [zo_s hi hk]; rfl
theorem zg_s0 {k : Nat} {x : Int32} (hi : i < 9) (hk : k < 3) : hfst (zH C M e) (zsp i k) 4 0 (.int x) = some (zH (zcp C i (zsS (C.1 i) (10 * k + 10) x)) M e) := by
  unfold hfst
  rw [zo_s hi hk]
  match k, hk with
  | 0, _ => exact congrArg some (zhup_p (P := zsS (C.1 i) (10 * 0 + 10) x) (r := 4) hi (by omega) (zall7 (fun _ => rfl) (fun _ => rfl) (fun _ => rfl) (fun _ => rfl) (fun h => absurd rfl h) (fun _ => rfl) (fun _ => rfl)))
  | 1, _ => exact congrArg some (zhup_p (P := zsS (C.1 i) (10 * 1 + 10) x) (r := 5) hi (by omega) (zall7 (fun _ => rfl) (fun _ => rfl) (fun _ => rfl) (fun _ => rfl) (fun _ => rfl) (fun h => absurd rfl h) (fun _ => rfl)))
  | 2, _ => exact congrArg some (zhup_p (P := zsS (C.1 i) (10 * 2 + 10) x) (r := 6) hi (by omega) (zall7 (fun _ => rfl) (fun _ => rfl) (fun _ => rfl) (fun _ => rfl) (fun _ => rfl) (fun _ => rfl) (fun h => absurd rfl h)))
theorem zf_s1 {k : Nat} (hi : i < 9) (hk : k < 3) : hfld (zH C M e) (zsp i k) 4 1 = some (.int ((C.1 i).2.2.1 (10 * k + 11))) := by unfold hfld; rw [zo_s hi hk]; rfl
theorem zg_s1 {k : Nat} {x : Int32} (hi : i < 9) (hk : k < 3) : hfst (zH C M e) (zsp i k) 4 1 (.int x) = some (zH (zcp C i (zsS (C.1 i) (10 * k + 11) x)) M e) := by
  unfold hfst
  rw [zo_s hi hk]
  match k, hk with
  | 0, _ => exact congrArg some (zhup_p (P := zsS (C.1 i) (10 * 0 + 11) x) (r := 4) hi (by omega) (zall7 (fun _ => rfl) (fun _ => rfl) (fun _ => rfl) (fun _ => rfl) (fun h => absurd rfl h) (fun _ => rfl) (fun _ => rfl)))
  | 1, _ => exact congrArg some (zhup_p (P := zsS (C.1 i) (10 * 1 + 11) x) (r := 5) hi (by omega) (zall7 (fun _ => rfl) (fun _ => rfl) (fun _ => rfl) (fun _ => rfl) (fun _ => rfl) (fun h => absurd rfl h) (fun _ => rfl)))
  | 2, _ => exact congrArg some (zhup_p (P := zsS (C.1 i) (10 * 2 + 11) x) (r := 6) hi (by omega) (zall7 (fun _ => rfl) (fun _ => rfl) (fun _ => rfl) (fun _ => rfl) (fun _ => rfl) (fun _ => rfl) (fun h => absurd rfl h)))
theorem zf_s2 {k : Nat} (hi : i < 9) (hk : k < 3) : hfld (zH C M e) (zsp i k) 4 2 = some (.int ((C.1 i).2.2.1 (10 * k + 12))) := by unfold hfld; rw [zo_s hi hk]; rfl
theorem zg_s2 {k : Nat} {x : Int32} (hi : i < 9) (hk : k < 3) : hfst (zH C M e) (zsp i k) 4 2 (.int x) = some (zH (zcp C i (zsS (C.1 i) (10 * k + 12) x)) M e) := by
  unfold hfst
  rw [zo_s hi hk]
  match k, hk with
  | 0, _ => exact congrArg some (zhup_p (P := zsS (C.1 i) (10 * 0 + 12) x) (r := 4) hi (by omega) (zall7 (fun _ => rfl) (fun _ => rfl) (fun _ => rfl) (fun _ => rfl) (fun h => absurd rfl h) (fun _ => rfl) (fun _ => rfl)))
  | 1, _ => exact congrArg some (zhup_p (P := zsS (C.1 i) (10 * 1 + 12) x) (r := 5) hi (by omega) (zall7 (fun _ => rfl) (fun _ => rfl) (fun _ => rfl) (fun _ => rfl) (fun _ => rfl) (fun h => absurd rfl h) (fun _ => rfl)))
  | 2, _ => exact congrArg some (zhup_p (P := zsS (C.1 i) (10 * 2 + 12) x) (r := 6) hi (by omega) (zall7 (fun _ => rfl) (fun _ => rfl) (fun _ => rfl) (fun _ => rfl) (fun _ => rfl) (fun _ => rfl) (fun h => absurd rfl h)))
theorem zf_s3 {k : Nat} (hi : i < 9) (hk : k < 3) : hfld (zH C M e) (zsp i k) 4 3 = some (.int ((C.1 i).2.2.1 (10 * k + 13))) := by unfold hfld; rw [zo_s hi hk]; rfl
theorem zg_s3 {k : Nat} {x : Int32} (hi : i < 9) (hk : k < 3) : hfst (zH C M e) (zsp i k) 4 3 (.int x) = some (zH (zcp C i (zsS (C.1 i) (10 * k + 13) x)) M e) := by
  unfold hfst
  rw [zo_s hi hk]
  match k, hk with
  | 0, _ => exact congrArg some (zhup_p (P := zsS (C.1 i) (10 * 0 + 13) x) (r := 4) hi (by omega) (zall7 (fun _ => rfl) (fun _ => rfl) (fun _ => rfl) (fun _ => rfl) (fun h => absurd rfl h) (fun _ => rfl) (fun _ => rfl)))
  | 1, _ => exact congrArg some (zhup_p (P := zsS (C.1 i) (10 * 1 + 13) x) (r := 5) hi (by omega) (zall7 (fun _ => rfl) (fun _ => rfl) (fun _ => rfl) (fun _ => rfl) (fun _ => rfl) (fun h => absurd rfl h) (fun _ => rfl)))
  | 2, _ => exact congrArg some (zhup_p (P := zsS (C.1 i) (10 * 2 + 13) x) (r := 6) hi (by omega) (zall7 (fun _ => rfl) (fun _ => rfl) (fun _ => rfl) (fun _ => rfl) (fun _ => rfl) (fun _ => rfl) (fun h => absurd rfl h)))
theorem zf_s4 {k : Nat} (hi : i < 9) (hk : k < 3) : hfld (zH C M e) (zsp i k) 4 4 = some (.int ((C.1 i).2.2.1 (10 * k + 14))) := by unfold hfld; rw [zo_s hi hk]; rfl
theorem zg_s4 {k : Nat} {x : Int32} (hi : i < 9) (hk : k < 3) : hfst (zH C M e) (zsp i k) 4 4 (.int x) = some (zH (zcp C i (zsS (C.1 i) (10 * k + 14) x)) M e) := by
  unfold hfst
  rw [zo_s hi hk]
  match k, hk with
  | 0, _ => exact congrArg some (zhup_p (P := zsS (C.1 i) (10 * 0 + 14) x) (r := 4) hi (by omega) (zall7 (fun _ => rfl) (fun _ => rfl) (fun _ => rfl) (fun _ => rfl) (fun h => absurd rfl h) (fun _ => rfl) (fun _ => rfl)))
  | 1, _ => exact congrArg some (zhup_p (P := zsS (C.1 i) (10 * 1 + 14) x) (r := 5) hi (by omega) (zall7 (fun _ => rfl) (fun _ => rfl) (fun _ => rfl) (fun _ => rfl) (fun _ => rfl) (fun h => absurd rfl h) (fun _ => rfl)))
  | 2, _ => exact congrArg some (zhup_p (P := zsS (C.1 i) (10 * 2 + 14) x) (r := 6) hi (by omega) (zall7 (fun _ => rfl) (fun _ => rfl) (fun _ => rfl) (fun _ => rfl) (fun _ => rfl) (fun _ => rfl) (fun h => absurd rfl h)))
theorem zf_s5 {k : Nat} (hi : i < 9) (hk : k < 3) : hfld (zH C M e) (zsp i k) 4 5 = some (.int ((C.1 i).2.2.1 (10 * k + 15))) := by unfold hfld; rw [zo_s hi hk]; rfl
theorem zg_s5 {k : Nat} {x : Int32} (hi : i < 9) (hk : k < 3) : hfst (zH C M e) (zsp i k) 4 5 (.int x) = some (zH (zcp C i (zsS (C.1 i) (10 * k + 15) x)) M e) := by
  unfold hfst
  rw [zo_s hi hk]
  match k, hk with
  | 0, _ => exact congrArg some (zhup_p (P := zsS (C.1 i) (10 * 0 + 15) x) (r := 4) hi (by omega) (zall7 (fun _ => rfl) (fun _ => rfl) (fun _ => rfl) (fun _ => rfl) (fun h => absurd rfl h) (fun _ => rfl) (fun _ => rfl)))
  | 1, _ => exact congrArg some (zhup_p (P := zsS (C.1 i) (10 * 1 + 15) x) (r := 5) hi (by omega) (zall7 (fun _ => rfl) (fun _ => rfl) (fun _ => rfl) (fun _ => rfl) (fun _ => rfl) (fun h => absurd rfl h) (fun _ => rfl)))
  | 2, _ => exact congrArg some (zhup_p (P := zsS (C.1 i) (10 * 2 + 15) x) (r := 6) hi (by omega) (zall7 (fun _ => rfl) (fun _ => rfl) (fun _ => rfl) (fun _ => rfl) (fun _ => rfl) (fun _ => rfl) (fun h => absurd rfl h)))
theorem zf_s6 {k : Nat} (hi : i < 9) (hk : k < 3) : hfld (zH C M e) (zsp i k) 4 6 = some (.long ((C.1 i).2.2.2 (k + 10))) := by unfold hfld; rw [zo_s hi hk]; rfl
theorem zg_s6 {k : Nat} {x : Int64} (hi : i < 9) (hk : k < 3) : hfst (zH C M e) (zsp i k) 4 6 (.long x) = some (zH (zcp C i (zsL (C.1 i) (k + 10) x)) M e) := by
  unfold hfst
  rw [zo_s hi hk]
  match k, hk with
  | 0, _ => exact congrArg some (zhup_p (P := zsL (C.1 i) (0 + 10) x) (r := 4) hi (by omega) (zall7 (fun _ => rfl) (fun _ => rfl) (fun _ => rfl) (fun _ => rfl) (fun h => absurd rfl h) (fun _ => rfl) (fun _ => rfl)))
  | 1, _ => exact congrArg some (zhup_p (P := zsL (C.1 i) (1 + 10) x) (r := 5) hi (by omega) (zall7 (fun _ => rfl) (fun _ => rfl) (fun _ => rfl) (fun _ => rfl) (fun _ => rfl) (fun h => absurd rfl h) (fun _ => rfl)))
  | 2, _ => exact congrArg some (zhup_p (P := zsL (C.1 i) (2 + 10) x) (r := 6) hi (by omega) (zall7 (fun _ => rfl) (fun _ => rfl) (fun _ => rfl) (fun _ => rfl) (fun _ => rfl) (fun _ => rfl) (fun h => absurd rfl h)))
theorem zf_c0 : hfld (zH C M e) 0 5 0 = some (.ref (zbp 0)) := rfl
theorem zf_c1 : hfld (zH C M e) 0 5 1 = some (.ref (zbp 1)) := rfl
theorem zf_c2 : hfld (zH C M e) 0 5 2 = some (.ref (zbp 2)) := rfl
theorem zf_c3 : hfld (zH C M e) 0 5 3 = some (.ref 22) := rfl
theorem zf_c4 : hfld (zH C M e) 0 5 4 = some (.ref 66) := rfl
theorem zf_c5 : hfld (zH C M e) 0 5 5 = some (.ref 68) := rfl
theorem zf_c6 : hfld (zH C M e) 0 5 6 = some (.int (C.2.2.2 3)) := rfl
theorem zg_c6 {x : Int32} : hfst (zH C M e) 0 5 6 (.int x) = some (zH (zcS C 3 x) M e) := congrArg some (zhup_c (C' := zcS C 3 x) (r := 0) (by omega) rfl (zall7 (fun h => absurd rfl h) (fun _ => rfl) (fun _ => rfl) (fun _ => rfl) (fun _ => rfl) (fun _ => rfl) (fun _ => rfl)))
theorem zf_d0 : hfld (zH C M e) 22 3 0 = some (.ref 23) := rfl
theorem zf_d1 : hfld (zH C M e) 22 3 1 = some (.int (C.2.2.2 1)) := rfl
theorem zg_d1 {x : Int32} : hfst (zH C M e) 22 3 1 (.int x) = some (zH (zcS C 1 x) M e) := congrArg some (zhup_c (C' := zcS C 1 x) (r := 1) (by omega) rfl (zall7 (fun _ => rfl) (fun h => absurd rfl h) (fun _ => rfl) (fun _ => rfl) (fun _ => rfl) (fun _ => rfl) (fun _ => rfl)))
theorem zf_d2 : hfld (zH C M e) 22 3 2 = some (.int (C.2.2.2 2)) := rfl
theorem zg_d2 {x : Int32} : hfst (zH C M e) 22 3 2 (.int x) = some (zH (zcS C 2 x) M e) := congrArg some (zhup_c (C' := zcS C 2 x) (r := 1) (by omega) rfl (zall7 (fun _ => rfl) (fun h => absurd rfl h) (fun _ => rfl) (fun _ => rfl) (fun _ => rfl) (fun _ => rfl) (fun _ => rfl)))
theorem zf_t0 : hfld (zH C M e) 66 0 0 = some (.ref 67) := rfl
theorem zf_t1 : hfld (zH C M e) 66 0 1 = some (.int (C.2.2.2 0)) := rfl
theorem zg_t1 {x : Int32} : hfst (zH C M e) 66 0 1 (.int x) = some (zH (zcS C 0 x) M e) := congrArg some (zhup_c (C' := zcS C 0 x) (r := 3) (by omega) rfl (zall7 (fun _ => rfl) (fun _ => rfl) (fun _ => rfl) (fun h => absurd rfl h) (fun _ => rfl) (fun _ => rfl) (fun _ => rfl)))
theorem zf_j0 : hfld (zH C M e) 68 2 0 = some (.ref 69) := rfl
theorem zu_67 {j : Nat} {x : Int32} {f : Nat → Int32} (hj : j < 60) : hup (zH C M e) 67 (.inl (0, 60, .inl (upd (ztr 60 f) j x))) = zH (zcK C (upd f j x)) M e := by
  rw [ztr_upd hj]
  exact zhup_c (C' := zcK C (upd f j x)) (r := 4) (by omega) rfl (zall7 (fun _ => rfl) (fun _ => rfl) (fun _ => rfl) (fun _ => rfl) (fun h => absurd rfl h) (fun _ => rfl) (fun _ => rfl))
theorem zu_69 {j : Nat} {x : Int32} {f : Nat → Int32} (hj : j < 64) : hup (zH C M e) 69 (.inl (0, 64, .inl (upd (ztr 64 f) j x))) = zH (zcL C (upd f j x)) M e := by
  rw [ztr_upd hj]
  exact zhup_c (C' := zcL C (upd f j x)) (r := 6) (by omega) rfl (zall7 (fun _ => rfl) (fun _ => rfl) (fun _ => rfl) (fun _ => rfl) (fun _ => rfl) (fun _ => rfl) (fun h => absurd rfl h))
theorem zb_q_W {κ : Nat × (Nat → Int32) → Option xO} (hi : i < 9) : (hint (zH C M e) 0 (zbp i + 1)).bind κ = κ (144, ztr 144 (C.1 i).1) := by rw [zq_W hi]; rfl
theorem zb_q_T {κ : Nat × (Nat → Int32) → Option xO} (hi : i < 9) : (hint (zH C M e) 0 (zbp i + 2)).bind κ = κ (3, ztr 3 (C.1 i).2.1) := by rw [zq_T hi]; rfl
theorem zb_q_K {κ : Nat × Nat × (Nat → Option Nat) → Option xO} (hi : i < 9) : (href (zH C M e) (zbp i + 3)).bind κ = κ (3, 3, zskr i) := by rw [zq_K hi]; rfl
theorem zb_q_23 {κ : Nat × Nat × (Nat → Option Nat) → Option xO} : (href (zH C M e) 23).bind κ = κ (2, 6, zpor) := by rw [zq_23]; rfl
theorem zb_q_67 {κ : Nat × (Nat → Int32) → Option xO} : (hint (zH C M e) 0 67).bind κ = κ (60, ztr 60 C.2.1) := by rw [zq_67]; rfl
theorem zb_q_69 {κ : Nat × (Nat → Int32) → Option xO} : (hint (zH C M e) 0 69).bind κ = κ (64, ztr 64 C.2.2.1) := by rw [zq_69]; rfl
theorem zb_f_p0 {κ : Value → Option xO} (hi : i < 9) : (hfld (zH C M e) (zbp i) 1 0).bind κ = κ (.long ((C.1 i).2.2.2 0)) := by rw [zf_p0 hi]; rfl
theorem zb_g_p0 {κ : xS → Option xO} {x : Int64} (hi : i < 9) : (hfst (zH C M e) (zbp i) 1 0 (.long x)).bind κ = κ (zH (zcp C i (zsL (C.1 i) 0 x)) M e) := by rw [zg_p0 hi]; rfl
theorem zb_f_p1 {κ : Value → Option xO} (hi : i < 9) : (hfld (zH C M e) (zbp i) 1 1).bind κ = κ (.long ((C.1 i).2.2.2 1)) := by rw [zf_p1 hi]; rfl
theorem zb_g_p1 {κ : xS → Option xO} {x : Int64} (hi : i < 9) : (hfst (zH C M e) (zbp i) 1 1 (.long x)).bind κ = κ (zH (zcp C i (zsL (C.1 i) 1 x)) M e) := by rw [zg_p1 hi]; rfl
theorem zb_f_p2 {κ : Value → Option xO} (hi : i < 9) : (hfld (zH C M e) (zbp i) 1 2).bind κ = κ (.long ((C.1 i).2.2.2 2)) := by rw [zf_p2 hi]; rfl
theorem zb_g_p2 {κ : xS → Option xO} {x : Int64} (hi : i < 9) : (hfst (zH C M e) (zbp i) 1 2 (.long x)).bind κ = κ (zH (zcp C i (zsL (C.1 i) 2 x)) M e) := by rw [zg_p2 hi]; rfl
theorem zb_f_p3 {κ : Value → Option xO} (hi : i < 9) : (hfld (zH C M e) (zbp i) 1 3).bind κ = κ (.ref (zbp i + 1)) := by rw [zf_p3 hi]; rfl
theorem zb_f_p4 {κ : Value → Option xO} (hi : i < 9) : (hfld (zH C M e) (zbp i) 1 4).bind κ = κ (.ref (zbp i + 2)) := by rw [zf_p4 hi]; rfl
theorem zb_f_p5 {κ : Value → Option xO} (hi : i < 9) : (hfld (zH C M e) (zbp i) 1 5).bind κ = κ (.ref (zbp i + 3)) := by rw [zf_p5 hi]; rfl
theorem zb_f_p6 {κ : Value → Option xO} (hi : i < 9) : (hfld (zH C M e) (zbp i) 1 6).bind κ = κ (.int ((C.1 i).2.2.1 0)) := by rw [zf_p6 hi]; rfl
theorem zb_g_p6 {κ : xS → Option xO} {x : Int32} (hi : i < 9) : (hfst (zH C M e) (zbp i) 1 6 (.int x)).bind κ = κ (zH (zcp C i (zsS (C.1 i) 0 x)) M e) := by rw [zg_p6 hi]; rfl
theorem zb_f_p7 {κ : Value → Option xO} (hi : i < 9) : (hfld (zH C M e) (zbp i) 1 7).bind κ = κ (.int ((C.1 i).2.2.1 1)) := by rw [zf_p7 hi]; rfl
theorem zb_g_p7 {κ : xS → Option xO} {x : Int32} (hi : i < 9) : (hfst (zH C M e) (zbp i) 1 7 (.int x)).bind κ = κ (zH (zcp C i (zsS (C.1 i) 1 x)) M e) := by rw [zg_p7 hi]; rfl
theorem zb_f_p8 {κ : Value → Option xO} (hi : i < 9) : (hfld (zH C M e) (zbp i) 1 8).bind κ = κ (.int ((C.1 i).2.2.1 2)) := by rw [zf_p8 hi]; rfl
theorem zb_g_p8 {κ : xS → Option xO} {x : Int32} (hi : i < 9) : (hfst (zH C M e) (zbp i) 1 8 (.int x)).bind κ = κ (zH (zcp C i (zsS (C.1 i) 2 x)) M e) := by rw [zg_p8 hi]; rfl
theorem zb_f_p9 {κ : Value → Option xO} (hi : i < 9) : (hfld (zH C M e) (zbp i) 1 9).bind κ = κ (.int ((C.1 i).2.2.1 3)) := by rw [zf_p9 hi]; rfl
theorem zb_g_p9 {κ : xS → Option xO} {x : Int32} (hi : i < 9) : (hfst (zH C M e) (zbp i) 1 9 (.int x)).bind κ = κ (zH (zcp C i (zsS (C.1 i) 3 x)) M e) := by rw [zg_p9 hi]; rfl
theorem zb_f_s0 {κ : Value → Option xO} {k : Nat} (hi : i < 9) (hk : k < 3) : (hfld (zH C M e) (zsp i k) 4 0).bind κ = κ (.int ((C.1 i).2.2.1 (10 * k + 10))) := by rw [zf_s0 hi hk]; rfl
theorem zb_g_s0 {κ : xS → Option xO} {k : Nat} {x : Int32} (hi : i < 9) (hk : k < 3) : (hfst (zH C M e) (zsp i k) 4 0 (.int x)).bind κ = κ (zH (zcp C i (zsS (C.1 i) (10 * k + 10) x)) M e) := by rw [zg_s0 hi hk]; rfl
theorem zb_f_s1 {κ : Value → Option xO} {k : Nat} (hi : i < 9) (hk : k < 3) : (hfld (zH C M e) (zsp i k) 4 1).bind κ = κ (.int ((C.1 i).2.2.1 (10 * k + 11))) := by rw [zf_s1 hi hk]; rfl
theorem zb_g_s1 {κ : xS → Option xO} {k : Nat} {x : Int32} (hi : i < 9) (hk : k < 3) : (hfst (zH C M e) (zsp i k) 4 1 (.int x)).bind κ = κ (zH (zcp C i (zsS (C.1 i) (10 * k + 11) x)) M e) := by rw [zg_s1 hi hk]; rfl
theorem zb_f_s2 {κ : Value → Option xO} {k : Nat} (hi : i < 9) (hk : k < 3) : (hfld (zH C M e) (zsp i k) 4 2).bind κ = κ (.int ((C.1 i).2.2.1 (10 * k + 12))) := by rw [zf_s2 hi hk]; rfl
theorem zb_g_s2 {κ : xS → Option xO} {k : Nat} {x : Int32} (hi : i < 9) (hk : k < 3) : (hfst (zH C M e) (zsp i k) 4 2 (.int x)).bind κ = κ (zH (zcp C i (zsS (C.1 i) (10 * k + 12) x)) M e) := by rw [zg_s2 hi hk]; rfl
theorem zb_f_s3 {κ : Value → Option xO} {k : Nat} (hi : i < 9) (hk : k < 3) : (hfld (zH C M e) (zsp i k) 4 3).bind κ = κ (.int ((C.1 i).2.2.1 (10 * k + 13))) := by rw [zf_s3 hi hk]; rfl
theorem zb_g_s3 {κ : xS → Option xO} {k : Nat} {x : Int32} (hi : i < 9) (hk : k < 3) : (hfst (zH C M e) (zsp i k) 4 3 (.int x)).bind κ = κ (zH (zcp C i (zsS (C.1 i) (10 * k + 13) x)) M e) := by rw [zg_s3 hi hk]; rfl
theorem zb_f_s4 {κ : Value → Option xO} {k : Nat} (hi : i < 9) (hk : k < 3) : (hfld (zH C M e) (zsp i k) 4 4).bind κ = κ (.int ((C.1 i).2.2.1 (10 * k + 14))) := by rw [zf_s4 hi hk]; rfl
theorem zb_g_s4 {κ : xS → Option xO} {k : Nat} {x : Int32} (hi : i < 9) (hk : k < 3) : (hfst (zH C M e) (zsp i k) 4 4 (.int x)).bind κ = κ (zH (zcp C i (zsS (C.1 i) (10 * k + 14) x)) M e) := by rw [zg_s4 hi hk]; rfl
theorem zb_f_s5 {κ : Value → Option xO} {k : Nat} (hi : i < 9) (hk : k < 3) : (hfld (zH C M e) (zsp i k) 4 5).bind κ = κ (.int ((C.1 i).2.2.1 (10 * k + 15))) := by rw [zf_s5 hi hk]; rfl
theorem zb_g_s5 {κ : xS → Option xO} {k : Nat} {x : Int32} (hi : i < 9) (hk : k < 3) : (hfst (zH C M e) (zsp i k) 4 5 (.int x)).bind κ = κ (zH (zcp C i (zsS (C.1 i) (10 * k + 15) x)) M e) := by rw [zg_s5 hi hk]; rfl
theorem zb_f_s6 {κ : Value → Option xO} {k : Nat} (hi : i < 9) (hk : k < 3) : (hfld (zH C M e) (zsp i k) 4 6).bind κ = κ (.long ((C.1 i).2.2.2 (k + 10))) := by rw [zf_s6 hi hk]; rfl
theorem zb_g_s6 {κ : xS → Option xO} {k : Nat} {x : Int64} (hi : i < 9) (hk : k < 3) : (hfst (zH C M e) (zsp i k) 4 6 (.long x)).bind κ = κ (zH (zcp C i (zsL (C.1 i) (k + 10) x)) M e) := by rw [zg_s6 hi hk]; rfl
theorem zb_f_c0 {κ : Value → Option xO} : (hfld (zH C M e) 0 5 0).bind κ = κ (.ref (zbp 0)) := by rw [zf_c0]; rfl
theorem zb_f_c1 {κ : Value → Option xO} : (hfld (zH C M e) 0 5 1).bind κ = κ (.ref (zbp 1)) := by rw [zf_c1]; rfl
theorem zb_f_c2 {κ : Value → Option xO} : (hfld (zH C M e) 0 5 2).bind κ = κ (.ref (zbp 2)) := by rw [zf_c2]; rfl
theorem zb_f_c3 {κ : Value → Option xO} : (hfld (zH C M e) 0 5 3).bind κ = κ (.ref 22) := by rw [zf_c3]; rfl
theorem zb_f_c4 {κ : Value → Option xO} : (hfld (zH C M e) 0 5 4).bind κ = κ (.ref 66) := by rw [zf_c4]; rfl
theorem zb_f_c5 {κ : Value → Option xO} : (hfld (zH C M e) 0 5 5).bind κ = κ (.ref 68) := by rw [zf_c5]; rfl
theorem zb_f_c6 {κ : Value → Option xO} : (hfld (zH C M e) 0 5 6).bind κ = κ (.int (C.2.2.2 3)) := by rw [zf_c6]; rfl
theorem zb_g_c6 {κ : xS → Option xO} {x : Int32} : (hfst (zH C M e) 0 5 6 (.int x)).bind κ = κ (zH (zcS C 3 x) M e) := by rw [zg_c6]; rfl
theorem zb_f_d0 {κ : Value → Option xO} : (hfld (zH C M e) 22 3 0).bind κ = κ (.ref 23) := by rw [zf_d0]; rfl
theorem zb_f_d1 {κ : Value → Option xO} : (hfld (zH C M e) 22 3 1).bind κ = κ (.int (C.2.2.2 1)) := by rw [zf_d1]; rfl
theorem zb_g_d1 {κ : xS → Option xO} {x : Int32} : (hfst (zH C M e) 22 3 1 (.int x)).bind κ = κ (zH (zcS C 1 x) M e) := by rw [zg_d1]; rfl
theorem zb_f_d2 {κ : Value → Option xO} : (hfld (zH C M e) 22 3 2).bind κ = κ (.int (C.2.2.2 2)) := by rw [zf_d2]; rfl
theorem zb_g_d2 {κ : xS → Option xO} {x : Int32} : (hfst (zH C M e) 22 3 2 (.int x)).bind κ = κ (zH (zcS C 2 x) M e) := by rw [zg_d2]; rfl
theorem zb_f_t0 {κ : Value → Option xO} : (hfld (zH C M e) 66 0 0).bind κ = κ (.ref 67) := by rw [zf_t0]; rfl
theorem zb_f_t1 {κ : Value → Option xO} : (hfld (zH C M e) 66 0 1).bind κ = κ (.int (C.2.2.2 0)) := by rw [zf_t1]; rfl
theorem zb_g_t1 {κ : xS → Option xO} {x : Int32} : (hfst (zH C M e) 66 0 1 (.int x)).bind κ = κ (zH (zcS C 0 x) M e) := by rw [zg_t1]; rfl
theorem zb_f_j0 {κ : Value → Option xO} : (hfld (zH C M e) 68 2 0).bind κ = κ (.ref 69) := by rw [zf_j0]; rfl
end ZF
theorem glI0 {α : Type} {l : xL} {x : Int32} {κ : Int32 → Option α} : gI (lget (some (.int x) :: l) 0) κ = κ x := rfl
theorem glL0 {α : Type} {l : xL} {x : Int64} {κ : Int64 → Option α} : gL (lget (some (.long x) :: l) 0) κ = κ x := rfl
theorem glF0 {α : Type} {l : xL} {x : UInt32} {κ : UInt32 → Option α} : gF (lget (some (.float x) :: l) 0) κ = κ x := rfl
theorem glD0 {α : Type} {l : xL} {x : UInt64} {κ : UInt64 → Option α} : gD (lget (some (.double x) :: l) 0) κ = κ x := rfl
theorem glA0 {α : Type} {l : xL} {x : Nat} {κ : Nat → Option α} : gA (lget (some (.ref x) :: l) 0) κ = κ x := rfl
theorem bs0 {α : Type} {a0 : Option Value} {l : xL} {v : Option Value} {κ : xL → Option α} : (lst1 (a0 :: l) 0 v).bind κ = κ (v :: l) := rfl
theorem bw0 {α : Type} {a0 b : Option Value} {l : xL} {v : Value} {κ : xL → Option α} : (lst2 (a0 :: b :: l) 0 v).bind κ = κ (some v :: none :: l) := rfl
theorem glI1 {α : Type} {a0 : Option Value} {l : xL} {x : Int32} {κ : Int32 → Option α} : gI (lget (a0 :: some (.int x) :: l) 1) κ = κ x := rfl
theorem glL1 {α : Type} {a0 : Option Value} {l : xL} {x : Int64} {κ : Int64 → Option α} : gL (lget (a0 :: some (.long x) :: l) 1) κ = κ x := rfl
theorem glF1 {α : Type} {a0 : Option Value} {l : xL} {x : UInt32} {κ : UInt32 → Option α} : gF (lget (a0 :: some (.float x) :: l) 1) κ = κ x := rfl
theorem glD1 {α : Type} {a0 : Option Value} {l : xL} {x : UInt64} {κ : UInt64 → Option α} : gD (lget (a0 :: some (.double x) :: l) 1) κ = κ x := rfl
theorem glA1 {α : Type} {a0 : Option Value} {l : xL} {x : Nat} {κ : Nat → Option α} : gA (lget (a0 :: some (.ref x) :: l) 1) κ = κ x := rfl
theorem bs1 {α : Type} {a0 a1 : Option Value} {l : xL} {v : Option Value} {κ : xL → Option α} : (lst1 (a0 :: a1 :: l) 1 v).bind κ = κ (lkl a0 :: v :: l) := rfl
theorem bw1 {α : Type} {a0 a1 b : Option Value} {l : xL} {v : Value} {κ : xL → Option α} : (lst2 (a0 :: a1 :: b :: l) 1 v).bind κ = κ (lkl a0 :: some v :: none :: l) := rfl
theorem glI2 {α : Type} {a0 a1 : Option Value} {l : xL} {x : Int32} {κ : Int32 → Option α} : gI (lget (a0 :: a1 :: some (.int x) :: l) 2) κ = κ x := rfl
theorem glL2 {α : Type} {a0 a1 : Option Value} {l : xL} {x : Int64} {κ : Int64 → Option α} : gL (lget (a0 :: a1 :: some (.long x) :: l) 2) κ = κ x := rfl
theorem glF2 {α : Type} {a0 a1 : Option Value} {l : xL} {x : UInt32} {κ : UInt32 → Option α} : gF (lget (a0 :: a1 :: some (.float x) :: l) 2) κ = κ x := rfl
theorem glD2 {α : Type} {a0 a1 : Option Value} {l : xL} {x : UInt64} {κ : UInt64 → Option α} : gD (lget (a0 :: a1 :: some (.double x) :: l) 2) κ = κ x := rfl
theorem glA2 {α : Type} {a0 a1 : Option Value} {l : xL} {x : Nat} {κ : Nat → Option α} : gA (lget (a0 :: a1 :: some (.ref x) :: l) 2) κ = κ x := rfl
theorem bs2 {α : Type} {a0 a1 a2 : Option Value} {l : xL} {v : Option Value} {κ : xL → Option α} : (lst1 (a0 :: a1 :: a2 :: l) 2 v).bind κ = κ (a0 :: lkl a1 :: v :: l) := rfl
theorem bw2 {α : Type} {a0 a1 a2 b : Option Value} {l : xL} {v : Value} {κ : xL → Option α} : (lst2 (a0 :: a1 :: a2 :: b :: l) 2 v).bind κ = κ (a0 :: lkl a1 :: some v :: none :: l) := rfl
theorem glI3 {α : Type} {a0 a1 a2 : Option Value} {l : xL} {x : Int32} {κ : Int32 → Option α} : gI (lget (a0 :: a1 :: a2 :: some (.int x) :: l) 3) κ = κ x := rfl
theorem glL3 {α : Type} {a0 a1 a2 : Option Value} {l : xL} {x : Int64} {κ : Int64 → Option α} : gL (lget (a0 :: a1 :: a2 :: some (.long x) :: l) 3) κ = κ x := rfl
theorem glF3 {α : Type} {a0 a1 a2 : Option Value} {l : xL} {x : UInt32} {κ : UInt32 → Option α} : gF (lget (a0 :: a1 :: a2 :: some (.float x) :: l) 3) κ = κ x := rfl
theorem glD3 {α : Type} {a0 a1 a2 : Option Value} {l : xL} {x : UInt64} {κ : UInt64 → Option α} : gD (lget (a0 :: a1 :: a2 :: some (.double x) :: l) 3) κ = κ x := rfl
theorem glA3 {α : Type} {a0 a1 a2 : Option Value} {l : xL} {x : Nat} {κ : Nat → Option α} : gA (lget (a0 :: a1 :: a2 :: some (.ref x) :: l) 3) κ = κ x := rfl
theorem bs3 {α : Type} {a0 a1 a2 a3 : Option Value} {l : xL} {v : Option Value} {κ : xL → Option α} : (lst1 (a0 :: a1 :: a2 :: a3 :: l) 3 v).bind κ = κ (a0 :: a1 :: lkl a2 :: v :: l) := rfl
theorem bw3 {α : Type} {a0 a1 a2 a3 b : Option Value} {l : xL} {v : Value} {κ : xL → Option α} : (lst2 (a0 :: a1 :: a2 :: a3 :: b :: l) 3 v).bind κ = κ (a0 :: a1 :: lkl a2 :: some v :: none :: l) := rfl
theorem glI4 {α : Type} {a0 a1 a2 a3 : Option Value} {l : xL} {x : Int32} {κ : Int32 → Option α} : gI (lget (a0 :: a1 :: a2 :: a3 :: some (.int x) :: l) 4) κ = κ x := rfl
theorem glL4 {α : Type} {a0 a1 a2 a3 : Option Value} {l : xL} {x : Int64} {κ : Int64 → Option α} : gL (lget (a0 :: a1 :: a2 :: a3 :: some (.long x) :: l) 4) κ = κ x := rfl
theorem glF4 {α : Type} {a0 a1 a2 a3 : Option Value} {l : xL} {x : UInt32} {κ : UInt32 → Option α} : gF (lget (a0 :: a1 :: a2 :: a3 :: some (.float x) :: l) 4) κ = κ x := rfl
theorem glD4 {α : Type} {a0 a1 a2 a3 : Option Value} {l : xL} {x : UInt64} {κ : UInt64 → Option α} : gD (lget (a0 :: a1 :: a2 :: a3 :: some (.double x) :: l) 4) κ = κ x := rfl
theorem glA4 {α : Type} {a0 a1 a2 a3 : Option Value} {l : xL} {x : Nat} {κ : Nat → Option α} : gA (lget (a0 :: a1 :: a2 :: a3 :: some (.ref x) :: l) 4) κ = κ x := rfl
theorem bs4 {α : Type} {a0 a1 a2 a3 a4 : Option Value} {l : xL} {v : Option Value} {κ : xL → Option α} : (lst1 (a0 :: a1 :: a2 :: a3 :: a4 :: l) 4 v).bind κ = κ (a0 :: a1 :: a2 :: lkl a3 :: v :: l) := rfl
theorem bw4 {α : Type} {a0 a1 a2 a3 a4 b : Option Value} {l : xL} {v : Value} {κ : xL → Option α} : (lst2 (a0 :: a1 :: a2 :: a3 :: a4 :: b :: l) 4 v).bind κ = κ (a0 :: a1 :: a2 :: lkl a3 :: some v :: none :: l) := rfl
theorem glI5 {α : Type} {a0 a1 a2 a3 a4 : Option Value} {l : xL} {x : Int32} {κ : Int32 → Option α} : gI (lget (a0 :: a1 :: a2 :: a3 :: a4 :: some (.int x) :: l) 5) κ = κ x := rfl
theorem glL5 {α : Type} {a0 a1 a2 a3 a4 : Option Value} {l : xL} {x : Int64} {κ : Int64 → Option α} : gL (lget (a0 :: a1 :: a2 :: a3 :: a4 :: some (.long x) :: l) 5) κ = κ x := rfl
theorem glF5 {α : Type} {a0 a1 a2 a3 a4 : Option Value} {l : xL} {x : UInt32} {κ : UInt32 → Option α} : gF (lget (a0 :: a1 :: a2 :: a3 :: a4 :: some (.float x) :: l) 5) κ = κ x := rfl
theorem glD5 {α : Type} {a0 a1 a2 a3 a4 : Option Value} {l : xL} {x : UInt64} {κ : UInt64 → Option α} : gD (lget (a0 :: a1 :: a2 :: a3 :: a4 :: some (.double x) :: l) 5) κ = κ x := rfl
theorem glA5 {α : Type} {a0 a1 a2 a3 a4 : Option Value} {l : xL} {x : Nat} {κ : Nat → Option α} : gA (lget (a0 :: a1 :: a2 :: a3 :: a4 :: some (.ref x) :: l) 5) κ = κ x := rfl
theorem bs5 {α : Type} {a0 a1 a2 a3 a4 a5 : Option Value} {l : xL} {v : Option Value} {κ : xL → Option α} : (lst1 (a0 :: a1 :: a2 :: a3 :: a4 :: a5 :: l) 5 v).bind κ = κ (a0 :: a1 :: a2 :: a3 :: lkl a4 :: v :: l) := rfl
theorem bw5 {α : Type} {a0 a1 a2 a3 a4 a5 b : Option Value} {l : xL} {v : Value} {κ : xL → Option α} : (lst2 (a0 :: a1 :: a2 :: a3 :: a4 :: a5 :: b :: l) 5 v).bind κ = κ (a0 :: a1 :: a2 :: a3 :: lkl a4 :: some v :: none :: l) := rfl
theorem glI6 {α : Type} {a0 a1 a2 a3 a4 a5 : Option Value} {l : xL} {x : Int32} {κ : Int32 → Option α} : gI (lget (a0 :: a1 :: a2 :: a3 :: a4 :: a5 :: some (.int x) :: l) 6) κ = κ x := rfl
theorem glL6 {α : Type} {a0 a1 a2 a3 a4 a5 : Option Value} {l : xL} {x : Int64} {κ : Int64 → Option α} : gL (lget (a0 :: a1 :: a2 :: a3 :: a4 :: a5 :: some (.long x) :: l) 6) κ = κ x := rfl
theorem glF6 {α : Type} {a0 a1 a2 a3 a4 a5 : Option Value} {l : xL} {x : UInt32} {κ : UInt32 → Option α} : gF (lget (a0 :: a1 :: a2 :: a3 :: a4 :: a5 :: some (.float x) :: l) 6) κ = κ x := rfl
theorem glD6 {α : Type} {a0 a1 a2 a3 a4 a5 : Option Value} {l : xL} {x : UInt64} {κ : UInt64 → Option α} : gD (lget (a0 :: a1 :: a2 :: a3 :: a4 :: a5 :: some (.double x) :: l) 6) κ = κ x := rfl
theorem glA6 {α : Type} {a0 a1 a2 a3 a4 a5 : Option Value} {l : xL} {x : Nat} {κ : Nat → Option α} : gA (lget (a0 :: a1 :: a2 :: a3 :: a4 :: a5 :: some (.ref x) :: l) 6) κ = κ x := rfl
theorem bs6 {α : Type} {a0 a1 a2 a3 a4 a5 a6 : Option Value} {l : xL} {v : Option Value} {κ : xL → Option α} : (lst1 (a0 :: a1 :: a2 :: a3 :: a4 :: a5 :: a6 :: l) 6 v).bind κ = κ (a0 :: a1 :: a2 :: a3 :: a4 :: lkl a5 :: v :: l) := rfl
theorem bw6 {α : Type} {a0 a1 a2 a3 a4 a5 a6 b : Option Value} {l : xL} {v : Value} {κ : xL → Option α} : (lst2 (a0 :: a1 :: a2 :: a3 :: a4 :: a5 :: a6 :: b :: l) 6 v).bind κ = κ (a0 :: a1 :: a2 :: a3 :: a4 :: lkl a5 :: some v :: none :: l) := rfl
theorem glI7 {α : Type} {a0 a1 a2 a3 a4 a5 a6 : Option Value} {l : xL} {x : Int32} {κ : Int32 → Option α} : gI (lget (a0 :: a1 :: a2 :: a3 :: a4 :: a5 :: a6 :: some (.int x) :: l) 7) κ = κ x := rfl
theorem glL7 {α : Type} {a0 a1 a2 a3 a4 a5 a6 : Option Value} {l : xL} {x : Int64} {κ : Int64 → Option α} : gL (lget (a0 :: a1 :: a2 :: a3 :: a4 :: a5 :: a6 :: some (.long x) :: l) 7) κ = κ x := rfl
theorem glF7 {α : Type} {a0 a1 a2 a3 a4 a5 a6 : Option Value} {l : xL} {x : UInt32} {κ : UInt32 → Option α} : gF (lget (a0 :: a1 :: a2 :: a3 :: a4 :: a5 :: a6 :: some (.float x) :: l) 7) κ = κ x := rfl
theorem glD7 {α : Type} {a0 a1 a2 a3 a4 a5 a6 : Option Value} {l : xL} {x : UInt64} {κ : UInt64 → Option α} : gD (lget (a0 :: a1 :: a2 :: a3 :: a4 :: a5 :: a6 :: some (.double x) :: l) 7) κ = κ x := rfl
theorem glA7 {α : Type} {a0 a1 a2 a3 a4 a5 a6 : Option Value} {l : xL} {x : Nat} {κ : Nat → Option α} : gA (lget (a0 :: a1 :: a2 :: a3 :: a4 :: a5 :: a6 :: some (.ref x) :: l) 7) κ = κ x := rfl
theorem bs7 {α : Type} {a0 a1 a2 a3 a4 a5 a6 a7 : Option Value} {l : xL} {v : Option Value} {κ : xL → Option α} : (lst1 (a0 :: a1 :: a2 :: a3 :: a4 :: a5 :: a6 :: a7 :: l) 7 v).bind κ = κ (a0 :: a1 :: a2 :: a3 :: a4 :: a5 :: lkl a6 :: v :: l) := rfl
theorem bw7 {α : Type} {a0 a1 a2 a3 a4 a5 a6 a7 b : Option Value} {l : xL} {v : Value} {κ : xL → Option α} : (lst2 (a0 :: a1 :: a2 :: a3 :: a4 :: a5 :: a6 :: a7 :: b :: l) 7 v).bind κ = κ (a0 :: a1 :: a2 :: a3 :: a4 :: a5 :: lkl a6 :: some v :: none :: l) := rfl
theorem glI8 {α : Type} {a0 a1 a2 a3 a4 a5 a6 a7 : Option Value} {l : xL} {x : Int32} {κ : Int32 → Option α} : gI (lget (a0 :: a1 :: a2 :: a3 :: a4 :: a5 :: a6 :: a7 :: some (.int x) :: l) 8) κ = κ x := rfl
theorem glL8 {α : Type} {a0 a1 a2 a3 a4 a5 a6 a7 : Option Value} {l : xL} {x : Int64} {κ : Int64 → Option α} : gL (lget (a0 :: a1 :: a2 :: a3 :: a4 :: a5 :: a6 :: a7 :: some (.long x) :: l) 8) κ = κ x := rfl
theorem glF8 {α : Type} {a0 a1 a2 a3 a4 a5 a6 a7 : Option Value} {l : xL} {x : UInt32} {κ : UInt32 → Option α} : gF (lget (a0 :: a1 :: a2 :: a3 :: a4 :: a5 :: a6 :: a7 :: some (.float x) :: l) 8) κ = κ x := rfl
theorem glD8 {α : Type} {a0 a1 a2 a3 a4 a5 a6 a7 : Option Value} {l : xL} {x : UInt64} {κ : UInt64 → Option α} : gD (lget (a0 :: a1 :: a2 :: a3 :: a4 :: a5 :: a6 :: a7 :: some (.double x) :: l) 8) κ = κ x := rfl
theorem glA8 {α : Type} {a0 a1 a2 a3 a4 a5 a6 a7 : Option Value} {l : xL} {x : Nat} {κ : Nat → Option α} : gA (lget (a0 :: a1 :: a2 :: a3 :: a4 :: a5 :: a6 :: a7 :: some (.ref x) :: l) 8) κ = κ x := rfl
theorem bs8 {α : Type} {a0 a1 a2 a3 a4 a5 a6 a7 a8 : Option Value} {l : xL} {v : Option Value} {κ : xL → Option α} : (lst1 (a0 :: a1 :: a2 :: a3 :: a4 :: a5 :: a6 :: a7 :: a8 :: l) 8 v).bind κ = κ (a0 :: a1 :: a2 :: a3 :: a4 :: a5 :: a6 :: lkl a7 :: v :: l) := rfl
theorem bw8 {α : Type} {a0 a1 a2 a3 a4 a5 a6 a7 a8 b : Option Value} {l : xL} {v : Value} {κ : xL → Option α} : (lst2 (a0 :: a1 :: a2 :: a3 :: a4 :: a5 :: a6 :: a7 :: a8 :: b :: l) 8 v).bind κ = κ (a0 :: a1 :: a2 :: a3 :: a4 :: a5 :: a6 :: lkl a7 :: some v :: none :: l) := rfl
theorem glI9 {α : Type} {a0 a1 a2 a3 a4 a5 a6 a7 a8 : Option Value} {l : xL} {x : Int32} {κ : Int32 → Option α} : gI (lget (a0 :: a1 :: a2 :: a3 :: a4 :: a5 :: a6 :: a7 :: a8 :: some (.int x) :: l) 9) κ = κ x := rfl
theorem glL9 {α : Type} {a0 a1 a2 a3 a4 a5 a6 a7 a8 : Option Value} {l : xL} {x : Int64} {κ : Int64 → Option α} : gL (lget (a0 :: a1 :: a2 :: a3 :: a4 :: a5 :: a6 :: a7 :: a8 :: some (.long x) :: l) 9) κ = κ x := rfl
theorem glF9 {α : Type} {a0 a1 a2 a3 a4 a5 a6 a7 a8 : Option Value} {l : xL} {x : UInt32} {κ : UInt32 → Option α} : gF (lget (a0 :: a1 :: a2 :: a3 :: a4 :: a5 :: a6 :: a7 :: a8 :: some (.float x) :: l) 9) κ = κ x := rfl
theorem glD9 {α : Type} {a0 a1 a2 a3 a4 a5 a6 a7 a8 : Option Value} {l : xL} {x : UInt64} {κ : UInt64 → Option α} : gD (lget (a0 :: a1 :: a2 :: a3 :: a4 :: a5 :: a6 :: a7 :: a8 :: some (.double x) :: l) 9) κ = κ x := rfl
theorem glA9 {α : Type} {a0 a1 a2 a3 a4 a5 a6 a7 a8 : Option Value} {l : xL} {x : Nat} {κ : Nat → Option α} : gA (lget (a0 :: a1 :: a2 :: a3 :: a4 :: a5 :: a6 :: a7 :: a8 :: some (.ref x) :: l) 9) κ = κ x := rfl
theorem bs9 {α : Type} {a0 a1 a2 a3 a4 a5 a6 a7 a8 a9 : Option Value} {l : xL} {v : Option Value} {κ : xL → Option α} : (lst1 (a0 :: a1 :: a2 :: a3 :: a4 :: a5 :: a6 :: a7 :: a8 :: a9 :: l) 9 v).bind κ = κ (a0 :: a1 :: a2 :: a3 :: a4 :: a5 :: a6 :: a7 :: lkl a8 :: v :: l) := rfl
theorem bw9 {α : Type} {a0 a1 a2 a3 a4 a5 a6 a7 a8 a9 b : Option Value} {l : xL} {v : Value} {κ : xL → Option α} : (lst2 (a0 :: a1 :: a2 :: a3 :: a4 :: a5 :: a6 :: a7 :: a8 :: a9 :: b :: l) 9 v).bind κ = κ (a0 :: a1 :: a2 :: a3 :: a4 :: a5 :: a6 :: a7 :: lkl a8 :: some v :: none :: l) := rfl
theorem glI10 {α : Type} {a0 a1 a2 a3 a4 a5 a6 a7 a8 a9 : Option Value} {l : xL} {x : Int32} {κ : Int32 → Option α} : gI (lget (a0 :: a1 :: a2 :: a3 :: a4 :: a5 :: a6 :: a7 :: a8 :: a9 :: some (.int x) :: l) 10) κ = κ x := rfl
theorem glL10 {α : Type} {a0 a1 a2 a3 a4 a5 a6 a7 a8 a9 : Option Value} {l : xL} {x : Int64} {κ : Int64 → Option α} : gL (lget (a0 :: a1 :: a2 :: a3 :: a4 :: a5 :: a6 :: a7 :: a8 :: a9 :: some (.long x) :: l) 10) κ = κ x := rfl
theorem glF10 {α : Type} {a0 a1 a2 a3 a4 a5 a6 a7 a8 a9 : Option Value} {l : xL} {x : UInt32} {κ : UInt32 → Option α} : gF (lget (a0 :: a1 :: a2 :: a3 :: a4 :: a5 :: a6 :: a7 :: a8 :: a9 :: some (.float x) :: l) 10) κ = κ x := rfl
theorem glD10 {α : Type} {a0 a1 a2 a3 a4 a5 a6 a7 a8 a9 : Option Value} {l : xL} {x : UInt64} {κ : UInt64 → Option α} : gD (lget (a0 :: a1 :: a2 :: a3 :: a4 :: a5 :: a6 :: a7 :: a8 :: a9 :: some (.double x) :: l) 10) κ = κ x := rfl
theorem glA10 {α : Type} {a0 a1 a2 a3 a4 a5 a6 a7 a8 a9 : Option Value} {l : xL} {x : Nat} {κ : Nat → Option α} : gA (lget (a0 :: a1 :: a2 :: a3 :: a4 :: a5 :: a6 :: a7 :: a8 :: a9 :: some (.ref x) :: l) 10) κ = κ x := rfl
theorem bs10 {α : Type} {a0 a1 a2 a3 a4 a5 a6 a7 a8 a9 a10 : Option Value} {l : xL} {v : Option Value} {κ : xL → Option α} : (lst1 (a0 :: a1 :: a2 :: a3 :: a4 :: a5 :: a6 :: a7 :: a8 :: a9 :: a10 :: l) 10 v).bind κ = κ (a0 :: a1 :: a2 :: a3 :: a4 :: a5 :: a6 :: a7 :: a8 :: lkl a9 :: v :: l) := rfl
theorem bw10 {α : Type} {a0 a1 a2 a3 a4 a5 a6 a7 a8 a9 a10 b : Option Value} {l : xL} {v : Value} {κ : xL → Option α} : (lst2 (a0 :: a1 :: a2 :: a3 :: a4 :: a5 :: a6 :: a7 :: a8 :: a9 :: a10 :: b :: l) 10 v).bind κ = κ (a0 :: a1 :: a2 :: a3 :: a4 :: a5 :: a6 :: a7 :: a8 :: lkl a9 :: some v :: none :: l) := rfl
theorem glI11 {α : Type} {a0 a1 a2 a3 a4 a5 a6 a7 a8 a9 a10 : Option Value} {l : xL} {x : Int32} {κ : Int32 → Option α} : gI (lget (a0 :: a1 :: a2 :: a3 :: a4 :: a5 :: a6 :: a7 :: a8 :: a9 :: a10 :: some (.int x) :: l) 11) κ = κ x := rfl
theorem glL11 {α : Type} {a0 a1 a2 a3 a4 a5 a6 a7 a8 a9 a10 : Option Value} {l : xL} {x : Int64} {κ : Int64 → Option α} : gL (lget (a0 :: a1 :: a2 :: a3 :: a4 :: a5 :: a6 :: a7 :: a8 :: a9 :: a10 :: some (.long x) :: l) 11) κ = κ x := rfl
theorem glF11 {α : Type} {a0 a1 a2 a3 a4 a5 a6 a7 a8 a9 a10 : Option Value} {l : xL} {x : UInt32} {κ : UInt32 → Option α} : gF (lget (a0 :: a1 :: a2 :: a3 :: a4 :: a5 :: a6 :: a7 :: a8 :: a9 :: a10 :: some (.float x) :: l) 11) κ = κ x := rfl
theorem glD11 {α : Type} {a0 a1 a2 a3 a4 a5 a6 a7 a8 a9 a10 : Option Value} {l : xL} {x : UInt64} {κ : UInt64 → Option α} : gD (lget (a0 :: a1 :: a2 :: a3 :: a4 :: a5 :: a6 :: a7 :: a8 :: a9 :: a10 :: some (.double x) :: l) 11) κ = κ x := rfl
theorem glA11 {α : Type} {a0 a1 a2 a3 a4 a5 a6 a7 a8 a9 a10 : Option Value} {l : xL} {x : Nat} {κ : Nat → Option α} : gA (lget (a0 :: a1 :: a2 :: a3 :: a4 :: a5 :: a6 :: a7 :: a8 :: a9 :: a10 :: some (.ref x) :: l) 11) κ = κ x := rfl
theorem bs11 {α : Type} {a0 a1 a2 a3 a4 a5 a6 a7 a8 a9 a10 a11 : Option Value} {l : xL} {v : Option Value} {κ : xL → Option α} : (lst1 (a0 :: a1 :: a2 :: a3 :: a4 :: a5 :: a6 :: a7 :: a8 :: a9 :: a10 :: a11 :: l) 11 v).bind κ = κ (a0 :: a1 :: a2 :: a3 :: a4 :: a5 :: a6 :: a7 :: a8 :: a9 :: lkl a10 :: v :: l) := rfl
theorem bw11 {α : Type} {a0 a1 a2 a3 a4 a5 a6 a7 a8 a9 a10 a11 b : Option Value} {l : xL} {v : Value} {κ : xL → Option α} : (lst2 (a0 :: a1 :: a2 :: a3 :: a4 :: a5 :: a6 :: a7 :: a8 :: a9 :: a10 :: a11 :: b :: l) 11 v).bind κ = κ (a0 :: a1 :: a2 :: a3 :: a4 :: a5 :: a6 :: a7 :: a8 :: a9 :: lkl a10 :: some v :: none :: l) := rfl
theorem glI12 {α : Type} {a0 a1 a2 a3 a4 a5 a6 a7 a8 a9 a10 a11 : Option Value} {l : xL} {x : Int32} {κ : Int32 → Option α} : gI (lget (a0 :: a1 :: a2 :: a3 :: a4 :: a5 :: a6 :: a7 :: a8 :: a9 :: a10 :: a11 :: some (.int x) :: l) 12) κ = κ x := rfl
theorem glL12 {α : Type} {a0 a1 a2 a3 a4 a5 a6 a7 a8 a9 a10 a11 : Option Value} {l : xL} {x : Int64} {κ : Int64 → Option α} : gL (lget (a0 :: a1 :: a2 :: a3 :: a4 :: a5 :: a6 :: a7 :: a8 :: a9 :: a10 :: a11 :: some (.long x) :: l) 12) κ = κ x := rfl
theorem glF12 {α : Type} {a0 a1 a2 a3 a4 a5 a6 a7 a8 a9 a10 a11 : Option Value} {l : xL} {x : UInt32} {κ : UInt32 → Option α} : gF (lget (a0 :: a1 :: a2 :: a3 :: a4 :: a5 :: a6 :: a7 :: a8 :: a9 :: a10 :: a11 :: some (.float x) :: l) 12) κ = κ x := rfl
theorem glD12 {α : Type} {a0 a1 a2 a3 a4 a5 a6 a7 a8 a9 a10 a11 : Option Value} {l : xL} {x : UInt64} {κ : UInt64 → Option α} : gD (lget (a0 :: a1 :: a2 :: a3 :: a4 :: a5 :: a6 :: a7 :: a8 :: a9 :: a10 :: a11 :: some (.double x) :: l) 12) κ = κ x := rfl
theorem glA12 {α : Type} {a0 a1 a2 a3 a4 a5 a6 a7 a8 a9 a10 a11 : Option Value} {l : xL} {x : Nat} {κ : Nat → Option α} : gA (lget (a0 :: a1 :: a2 :: a3 :: a4 :: a5 :: a6 :: a7 :: a8 :: a9 :: a10 :: a11 :: some (.ref x) :: l) 12) κ = κ x := rfl
theorem bs12 {α : Type} {a0 a1 a2 a3 a4 a5 a6 a7 a8 a9 a10 a11 a12 : Option Value} {l : xL} {v : Option Value} {κ : xL → Option α} : (lst1 (a0 :: a1 :: a2 :: a3 :: a4 :: a5 :: a6 :: a7 :: a8 :: a9 :: a10 :: a11 :: a12 :: l) 12 v).bind κ = κ (a0 :: a1 :: a2 :: a3 :: a4 :: a5 :: a6 :: a7 :: a8 :: a9 :: a10 :: lkl a11 :: v :: l) := rfl
theorem glI13 {α : Type} {a0 a1 a2 a3 a4 a5 a6 a7 a8 a9 a10 a11 a12 : Option Value} {l : xL} {x : Int32} {κ : Int32 → Option α} : gI (lget (a0 :: a1 :: a2 :: a3 :: a4 :: a5 :: a6 :: a7 :: a8 :: a9 :: a10 :: a11 :: a12 :: some (.int x) :: l) 13) κ = κ x := rfl
theorem glL13 {α : Type} {a0 a1 a2 a3 a4 a5 a6 a7 a8 a9 a10 a11 a12 : Option Value} {l : xL} {x : Int64} {κ : Int64 → Option α} : gL (lget (a0 :: a1 :: a2 :: a3 :: a4 :: a5 :: a6 :: a7 :: a8 :: a9 :: a10 :: a11 :: a12 :: some (.long x) :: l) 13) κ = κ x := rfl
theorem glF13 {α : Type} {a0 a1 a2 a3 a4 a5 a6 a7 a8 a9 a10 a11 a12 : Option Value} {l : xL} {x : UInt32} {κ : UInt32 → Option α} : gF (lget (a0 :: a1 :: a2 :: a3 :: a4 :: a5 :: a6 :: a7 :: a8 :: a9 :: a10 :: a11 :: a12 :: some (.float x) :: l) 13) κ = κ x := rfl
theorem glD13 {α : Type} {a0 a1 a2 a3 a4 a5 a6 a7 a8 a9 a10 a11 a12 : Option Value} {l : xL} {x : UInt64} {κ : UInt64 → Option α} : gD (lget (a0 :: a1 :: a2 :: a3 :: a4 :: a5 :: a6 :: a7 :: a8 :: a9 :: a10 :: a11 :: a12 :: some (.double x) :: l) 13) κ = κ x := rfl
theorem glA13 {α : Type} {a0 a1 a2 a3 a4 a5 a6 a7 a8 a9 a10 a11 a12 : Option Value} {l : xL} {x : Nat} {κ : Nat → Option α} : gA (lget (a0 :: a1 :: a2 :: a3 :: a4 :: a5 :: a6 :: a7 :: a8 :: a9 :: a10 :: a11 :: a12 :: some (.ref x) :: l) 13) κ = κ x := rfl
theorem bs13 {α : Type} {a0 a1 a2 a3 a4 a5 a6 a7 a8 a9 a10 a11 a12 a13 : Option Value} {l : xL} {v : Option Value} {κ : xL → Option α} : (lst1 (a0 :: a1 :: a2 :: a3 :: a4 :: a5 :: a6 :: a7 :: a8 :: a9 :: a10 :: a11 :: a12 :: a13 :: l) 13 v).bind κ = κ (a0 :: a1 :: a2 :: a3 :: a4 :: a5 :: a6 :: a7 :: a8 :: a9 :: a10 :: a11 :: lkl a12 :: v :: l) := rfl
theorem bw13 {α : Type} {a0 a1 a2 a3 a4 a5 a6 a7 a8 a9 a10 a11 a12 a13 b : Option Value} {l : xL} {v : Value} {κ : xL → Option α} : (lst2 (a0 :: a1 :: a2 :: a3 :: a4 :: a5 :: a6 :: a7 :: a8 :: a9 :: a10 :: a11 :: a12 :: a13 :: b :: l) 13 v).bind κ = κ (a0 :: a1 :: a2 :: a3 :: a4 :: a5 :: a6 :: a7 :: a8 :: a9 :: a10 :: a11 :: lkl a12 :: some v :: none :: l) := rfl
theorem glI14 {α : Type} {a0 a1 a2 a3 a4 a5 a6 a7 a8 a9 a10 a11 a12 a13 : Option Value} {l : xL} {x : Int32} {κ : Int32 → Option α} : gI (lget (a0 :: a1 :: a2 :: a3 :: a4 :: a5 :: a6 :: a7 :: a8 :: a9 :: a10 :: a11 :: a12 :: a13 :: some (.int x) :: l) 14) κ = κ x := rfl
theorem glL14 {α : Type} {a0 a1 a2 a3 a4 a5 a6 a7 a8 a9 a10 a11 a12 a13 : Option Value} {l : xL} {x : Int64} {κ : Int64 → Option α} : gL (lget (a0 :: a1 :: a2 :: a3 :: a4 :: a5 :: a6 :: a7 :: a8 :: a9 :: a10 :: a11 :: a12 :: a13 :: some (.long x) :: l) 14) κ = κ x := rfl
theorem glF14 {α : Type} {a0 a1 a2 a3 a4 a5 a6 a7 a8 a9 a10 a11 a12 a13 : Option Value} {l : xL} {x : UInt32} {κ : UInt32 → Option α} : gF (lget (a0 :: a1 :: a2 :: a3 :: a4 :: a5 :: a6 :: a7 :: a8 :: a9 :: a10 :: a11 :: a12 :: a13 :: some (.float x) :: l) 14) κ = κ x := rfl
theorem glD14 {α : Type} {a0 a1 a2 a3 a4 a5 a6 a7 a8 a9 a10 a11 a12 a13 : Option Value} {l : xL} {x : UInt64} {κ : UInt64 → Option α} : gD (lget (a0 :: a1 :: a2 :: a3 :: a4 :: a5 :: a6 :: a7 :: a8 :: a9 :: a10 :: a11 :: a12 :: a13 :: some (.double x) :: l) 14) κ = κ x := rfl
theorem glA14 {α : Type} {a0 a1 a2 a3 a4 a5 a6 a7 a8 a9 a10 a11 a12 a13 : Option Value} {l : xL} {x : Nat} {κ : Nat → Option α} : gA (lget (a0 :: a1 :: a2 :: a3 :: a4 :: a5 :: a6 :: a7 :: a8 :: a9 :: a10 :: a11 :: a12 :: a13 :: some (.ref x) :: l) 14) κ = κ x := rfl
theorem bs14 {α : Type} {a0 a1 a2 a3 a4 a5 a6 a7 a8 a9 a10 a11 a12 a13 a14 : Option Value} {l : xL} {v : Option Value} {κ : xL → Option α} : (lst1 (a0 :: a1 :: a2 :: a3 :: a4 :: a5 :: a6 :: a7 :: a8 :: a9 :: a10 :: a11 :: a12 :: a13 :: a14 :: l) 14 v).bind κ = κ (a0 :: a1 :: a2 :: a3 :: a4 :: a5 :: a6 :: a7 :: a8 :: a9 :: a10 :: a11 :: a12 :: lkl a13 :: v :: l) := rfl
theorem bw14 {α : Type} {a0 a1 a2 a3 a4 a5 a6 a7 a8 a9 a10 a11 a12 a13 a14 b : Option Value} {l : xL} {v : Value} {κ : xL → Option α} : (lst2 (a0 :: a1 :: a2 :: a3 :: a4 :: a5 :: a6 :: a7 :: a8 :: a9 :: a10 :: a11 :: a12 :: a13 :: a14 :: b :: l) 14 v).bind κ = κ (a0 :: a1 :: a2 :: a3 :: a4 :: a5 :: a6 :: a7 :: a8 :: a9 :: a10 :: a11 :: a12 :: lkl a13 :: some v :: none :: l) := rfl
theorem glI15 {α : Type} {a0 a1 a2 a3 a4 a5 a6 a7 a8 a9 a10 a11 a12 a13 a14 : Option Value} {l : xL} {x : Int32} {κ : Int32 → Option α} : gI (lget (a0 :: a1 :: a2 :: a3 :: a4 :: a5 :: a6 :: a7 :: a8 :: a9 :: a10 :: a11 :: a12 :: a13 :: a14 :: some (.int x) :: l) 15) κ = κ x := rfl
theorem glL15 {α : Type} {a0 a1 a2 a3 a4 a5 a6 a7 a8 a9 a10 a11 a12 a13 a14 : Option Value} {l : xL} {x : Int64} {κ : Int64 → Option α} : gL (lget (a0 :: a1 :: a2 :: a3 :: a4 :: a5 :: a6 :: a7 :: a8 :: a9 :: a10 :: a11 :: a12 :: a13 :: a14 :: some (.long x) :: l) 15) κ = κ x := rfl
theorem glF15 {α : Type} {a0 a1 a2 a3 a4 a5 a6 a7 a8 a9 a10 a11 a12 a13 a14 : Option Value} {l : xL} {x : UInt32} {κ : UInt32 → Option α} : gF (lget (a0 :: a1 :: a2 :: a3 :: a4 :: a5 :: a6 :: a7 :: a8 :: a9 :: a10 :: a11 :: a12 :: a13 :: a14 :: some (.float x) :: l) 15) κ = κ x := rfl
theorem glD15 {α : Type} {a0 a1 a2 a3 a4 a5 a6 a7 a8 a9 a10 a11 a12 a13 a14 : Option Value} {l : xL} {x : UInt64} {κ : UInt64 → Option α} : gD (lget (a0 :: a1 :: a2 :: a3 :: a4 :: a5 :: a6 :: a7 :: a8 :: a9 :: a10 :: a11 :: a12 :: a13 :: a14 :: some (.double x) :: l) 15) κ = κ x := rfl
theorem glA15 {α : Type} {a0 a1 a2 a3 a4 a5 a6 a7 a8 a9 a10 a11 a12 a13 a14 : Option Value} {l : xL} {x : Nat} {κ : Nat → Option α} : gA (lget (a0 :: a1 :: a2 :: a3 :: a4 :: a5 :: a6 :: a7 :: a8 :: a9 :: a10 :: a11 :: a12 :: a13 :: a14 :: some (.ref x) :: l) 15) κ = κ x := rfl
theorem bs15 {α : Type} {a0 a1 a2 a3 a4 a5 a6 a7 a8 a9 a10 a11 a12 a13 a14 a15 : Option Value} {l : xL} {v : Option Value} {κ : xL → Option α} : (lst1 (a0 :: a1 :: a2 :: a3 :: a4 :: a5 :: a6 :: a7 :: a8 :: a9 :: a10 :: a11 :: a12 :: a13 :: a14 :: a15 :: l) 15 v).bind κ = κ (a0 :: a1 :: a2 :: a3 :: a4 :: a5 :: a6 :: a7 :: a8 :: a9 :: a10 :: a11 :: a12 :: a13 :: lkl a14 :: v :: l) := rfl
theorem bw15 {α : Type} {a0 a1 a2 a3 a4 a5 a6 a7 a8 a9 a10 a11 a12 a13 a14 a15 b : Option Value} {l : xL} {v : Value} {κ : xL → Option α} : (lst2 (a0 :: a1 :: a2 :: a3 :: a4 :: a5 :: a6 :: a7 :: a8 :: a9 :: a10 :: a11 :: a12 :: a13 :: a14 :: a15 :: b :: l) 15 v).bind κ = κ (a0 :: a1 :: a2 :: a3 :: a4 :: a5 :: a6 :: a7 :: a8 :: a9 :: a10 :: a11 :: a12 :: a13 :: lkl a14 :: some v :: none :: l) := rfl
theorem glI16 {α : Type} {a0 a1 a2 a3 a4 a5 a6 a7 a8 a9 a10 a11 a12 a13 a14 a15 : Option Value} {l : xL} {x : Int32} {κ : Int32 → Option α} : gI (lget (a0 :: a1 :: a2 :: a3 :: a4 :: a5 :: a6 :: a7 :: a8 :: a9 :: a10 :: a11 :: a12 :: a13 :: a14 :: a15 :: some (.int x) :: l) 16) κ = κ x := rfl
theorem glL16 {α : Type} {a0 a1 a2 a3 a4 a5 a6 a7 a8 a9 a10 a11 a12 a13 a14 a15 : Option Value} {l : xL} {x : Int64} {κ : Int64 → Option α} : gL (lget (a0 :: a1 :: a2 :: a3 :: a4 :: a5 :: a6 :: a7 :: a8 :: a9 :: a10 :: a11 :: a12 :: a13 :: a14 :: a15 :: some (.long x) :: l) 16) κ = κ x := rfl
theorem glF16 {α : Type} {a0 a1 a2 a3 a4 a5 a6 a7 a8 a9 a10 a11 a12 a13 a14 a15 : Option Value} {l : xL} {x : UInt32} {κ : UInt32 → Option α} : gF (lget (a0 :: a1 :: a2 :: a3 :: a4 :: a5 :: a6 :: a7 :: a8 :: a9 :: a10 :: a11 :: a12 :: a13 :: a14 :: a15 :: some (.float x) :: l) 16) κ = κ x := rfl
theorem glD16 {α : Type} {a0 a1 a2 a3 a4 a5 a6 a7 a8 a9 a10 a11 a12 a13 a14 a15 : Option Value} {l : xL} {x : UInt64} {κ : UInt64 → Option α} : gD (lget (a0 :: a1 :: a2 :: a3 :: a4 :: a5 :: a6 :: a7 :: a8 :: a9 :: a10 :: a11 :: a12 :: a13 :: a14 :: a15 :: some (.double x) :: l) 16) κ = κ x := rfl
theorem glA16 {α : Type} {a0 a1 a2 a3 a4 a5 a6 a7 a8 a9 a10 a11 a12 a13 a14 a15 : Option Value} {l : xL} {x : Nat} {κ : Nat → Option α} : gA (lget (a0 :: a1 :: a2 :: a3 :: a4 :: a5 :: a6 :: a7 :: a8 :: a9 :: a10 :: a11 :: a12 :: a13 :: a14 :: a15 :: some (.ref x) :: l) 16) κ = κ x := rfl
theorem bs16 {α : Type} {a0 a1 a2 a3 a4 a5 a6 a7 a8 a9 a10 a11 a12 a13 a14 a15 a16 : Option Value} {l : xL} {v : Option Value} {κ : xL → Option α} : (lst1 (a0 :: a1 :: a2 :: a3 :: a4 :: a5 :: a6 :: a7 :: a8 :: a9 :: a10 :: a11 :: a12 :: a13 :: a14 :: a15 :: a16 :: l) 16 v).bind κ = κ (a0 :: a1 :: a2 :: a3 :: a4 :: a5 :: a6 :: a7 :: a8 :: a9 :: a10 :: a11 :: a12 :: a13 :: a14 :: lkl a15 :: v :: l) := rfl
theorem bw16 {α : Type} {a0 a1 a2 a3 a4 a5 a6 a7 a8 a9 a10 a11 a12 a13 a14 a15 a16 b : Option Value} {l : xL} {v : Value} {κ : xL → Option α} : (lst2 (a0 :: a1 :: a2 :: a3 :: a4 :: a5 :: a6 :: a7 :: a8 :: a9 :: a10 :: a11 :: a12 :: a13 :: a14 :: a15 :: a16 :: b :: l) 16 v).bind κ = κ (a0 :: a1 :: a2 :: a3 :: a4 :: a5 :: a6 :: a7 :: a8 :: a9 :: a10 :: a11 :: a12 :: a13 :: a14 :: lkl a15 :: some v :: none :: l) := rfl
theorem glI17 {α : Type} {a0 a1 a2 a3 a4 a5 a6 a7 a8 a9 a10 a11 a12 a13 a14 a15 a16 : Option Value} {l : xL} {x : Int32} {κ : Int32 → Option α} : gI (lget (a0 :: a1 :: a2 :: a3 :: a4 :: a5 :: a6 :: a7 :: a8 :: a9 :: a10 :: a11 :: a12 :: a13 :: a14 :: a15 :: a16 :: some (.int x) :: l) 17) κ = κ x := rfl
theorem glL17 {α : Type} {a0 a1 a2 a3 a4 a5 a6 a7 a8 a9 a10 a11 a12 a13 a14 a15 a16 : Option Value} {l : xL} {x : Int64} {κ : Int64 → Option α} : gL (lget (a0 :: a1 :: a2 :: a3 :: a4 :: a5 :: a6 :: a7 :: a8 :: a9 :: a10 :: a11 :: a12 :: a13 :: a14 :: a15 :: a16 :: some (.long x) :: l) 17) κ = κ x := rfl
theorem glF17 {α : Type} {a0 a1 a2 a3 a4 a5 a6 a7 a8 a9 a10 a11 a12 a13 a14 a15 a16 : Option Value} {l : xL} {x : UInt32} {κ : UInt32 → Option α} : gF (lget (a0 :: a1 :: a2 :: a3 :: a4 :: a5 :: a6 :: a7 :: a8 :: a9 :: a10 :: a11 :: a12 :: a13 :: a14 :: a15 :: a16 :: some (.float x) :: l) 17) κ = κ x := rfl
theorem glD17 {α : Type} {a0 a1 a2 a3 a4 a5 a6 a7 a8 a9 a10 a11 a12 a13 a14 a15 a16 : Option Value} {l : xL} {x : UInt64} {κ : UInt64 → Option α} : gD (lget (a0 :: a1 :: a2 :: a3 :: a4 :: a5 :: a6 :: a7 :: a8 :: a9 :: a10 :: a11 :: a12 :: a13 :: a14 :: a15 :: a16 :: some (.double x) :: l) 17) κ = κ x := rfl
theorem glA17 {α : Type} {a0 a1 a2 a3 a4 a5 a6 a7 a8 a9 a10 a11 a12 a13 a14 a15 a16 : Option Value} {l : xL} {x : Nat} {κ : Nat → Option α} : gA (lget (a0 :: a1 :: a2 :: a3 :: a4 :: a5 :: a6 :: a7 :: a8 :: a9 :: a10 :: a11 :: a12 :: a13 :: a14 :: a15 :: a16 :: some (.ref x) :: l) 17) κ = κ x := rfl
theorem bs17 {α : Type} {a0 a1 a2 a3 a4 a5 a6 a7 a8 a9 a10 a11 a12 a13 a14 a15 a16 a17 : Option Value} {l : xL} {v : Option Value} {κ : xL → Option α} : (lst1 (a0 :: a1 :: a2 :: a3 :: a4 :: a5 :: a6 :: a7 :: a8 :: a9 :: a10 :: a11 :: a12 :: a13 :: a14 :: a15 :: a16 :: a17 :: l) 17 v).bind κ = κ (a0 :: a1 :: a2 :: a3 :: a4 :: a5 :: a6 :: a7 :: a8 :: a9 :: a10 :: a11 :: a12 :: a13 :: a14 :: a15 :: lkl a16 :: v :: l) := rfl
theorem bw17 {α : Type} {a0 a1 a2 a3 a4 a5 a6 a7 a8 a9 a10 a11 a12 a13 a14 a15 a16 a17 b : Option Value} {l : xL} {v : Value} {κ : xL → Option α} : (lst2 (a0 :: a1 :: a2 :: a3 :: a4 :: a5 :: a6 :: a7 :: a8 :: a9 :: a10 :: a11 :: a12 :: a13 :: a14 :: a15 :: a16 :: a17 :: b :: l) 17 v).bind κ = κ (a0 :: a1 :: a2 :: a3 :: a4 :: a5 :: a6 :: a7 :: a8 :: a9 :: a10 :: a11 :: a12 :: a13 :: a14 :: a15 :: lkl a16 :: some v :: none :: l) := rfl
theorem glI18 {α : Type} {a0 a1 a2 a3 a4 a5 a6 a7 a8 a9 a10 a11 a12 a13 a14 a15 a16 a17 : Option Value} {l : xL} {x : Int32} {κ : Int32 → Option α} : gI (lget (a0 :: a1 :: a2 :: a3 :: a4 :: a5 :: a6 :: a7 :: a8 :: a9 :: a10 :: a11 :: a12 :: a13 :: a14 :: a15 :: a16 :: a17 :: some (.int x) :: l) 18) κ = κ x := rfl
theorem glL18 {α : Type} {a0 a1 a2 a3 a4 a5 a6 a7 a8 a9 a10 a11 a12 a13 a14 a15 a16 a17 : Option Value} {l : xL} {x : Int64} {κ : Int64 → Option α} : gL (lget (a0 :: a1 :: a2 :: a3 :: a4 :: a5 :: a6 :: a7 :: a8 :: a9 :: a10 :: a11 :: a12 :: a13 :: a14 :: a15 :: a16 :: a17 :: some (.long x) :: l) 18) κ = κ x := rfl
theorem glF18 {α : Type} {a0 a1 a2 a3 a4 a5 a6 a7 a8 a9 a10 a11 a12 a13 a14 a15 a16 a17 : Option Value} {l : xL} {x : UInt32} {κ : UInt32 → Option α} : gF (lget (a0 :: a1 :: a2 :: a3 :: a4 :: a5 :: a6 :: a7 :: a8 :: a9 :: a10 :: a11 :: a12 :: a13 :: a14 :: a15 :: a16 :: a17 :: some (.float x) :: l) 18) κ = κ x := rfl
theorem glD18 {α : Type} {a0 a1 a2 a3 a4 a5 a6 a7 a8 a9 a10 a11 a12 a13 a14 a15 a16 a17 : Option Value} {l : xL} {x : UInt64} {κ : UInt64 → Option α} : gD (lget (a0 :: a1 :: a2 :: a3 :: a4 :: a5 :: a6 :: a7 :: a8 :: a9 :: a10 :: a11 :: a12 :: a13 :: a14 :: a15 :: a16 :: a17 :: some (.double x) :: l) 18) κ = κ x := rfl
theorem glA18 {α : Type} {a0 a1 a2 a3 a4 a5 a6 a7 a8 a9 a10 a11 a12 a13 a14 a15 a16 a17 : Option Value} {l : xL} {x : Nat} {κ : Nat → Option α} : gA (lget (a0 :: a1 :: a2 :: a3 :: a4 :: a5 :: a6 :: a7 :: a8 :: a9 :: a10 :: a11 :: a12 :: a13 :: a14 :: a15 :: a16 :: a17 :: some (.ref x) :: l) 18) κ = κ x := rfl
theorem bs18 {α : Type} {a0 a1 a2 a3 a4 a5 a6 a7 a8 a9 a10 a11 a12 a13 a14 a15 a16 a17 a18 : Option Value} {l : xL} {v : Option Value} {κ : xL → Option α} : (lst1 (a0 :: a1 :: a2 :: a3 :: a4 :: a5 :: a6 :: a7 :: a8 :: a9 :: a10 :: a11 :: a12 :: a13 :: a14 :: a15 :: a16 :: a17 :: a18 :: l) 18 v).bind κ = κ (a0 :: a1 :: a2 :: a3 :: a4 :: a5 :: a6 :: a7 :: a8 :: a9 :: a10 :: a11 :: a12 :: a13 :: a14 :: a15 :: a16 :: lkl a17 :: v :: l) := rfl
theorem bw18 {α : Type} {a0 a1 a2 a3 a4 a5 a6 a7 a8 a9 a10 a11 a12 a13 a14 a15 a16 a17 a18 b : Option Value} {l : xL} {v : Value} {κ : xL → Option α} : (lst2 (a0 :: a1 :: a2 :: a3 :: a4 :: a5 :: a6 :: a7 :: a8 :: a9 :: a10 :: a11 :: a12 :: a13 :: a14 :: a15 :: a16 :: a17 :: a18 :: b :: l) 18 v).bind κ = κ (a0 :: a1 :: a2 :: a3 :: a4 :: a5 :: a6 :: a7 :: a8 :: a9 :: a10 :: a11 :: a12 :: a13 :: a14 :: a15 :: a16 :: lkl a17 :: some v :: none :: l) := rfl
theorem glI19 {α : Type} {a0 a1 a2 a3 a4 a5 a6 a7 a8 a9 a10 a11 a12 a13 a14 a15 a16 a17 a18 : Option Value} {l : xL} {x : Int32} {κ : Int32 → Option α} : gI (lget (a0 :: a1 :: a2 :: a3 :: a4 :: a5 :: a6 :: a7 :: a8 :: a9 :: a10 :: a11 :: a12 :: a13 :: a14 :: a15 :: a16 :: a17 :: a18 :: some (.int x) :: l) 19) κ = κ x := rfl
theorem glL19 {α : Type} {a0 a1 a2 a3 a4 a5 a6 a7 a8 a9 a10 a11 a12 a13 a14 a15 a16 a17 a18 : Option Value} {l : xL} {x : Int64} {κ : Int64 → Option α} : gL (lget (a0 :: a1 :: a2 :: a3 :: a4 :: a5 :: a6 :: a7 :: a8 :: a9 :: a10 :: a11 :: a12 :: a13 :: a14 :: a15 :: a16 :: a17 :: a18 :: some (.long x) :: l) 19) κ = κ x := rfl
theorem glF19 {α : Type} {a0 a1 a2 a3 a4 a5 a6 a7 a8 a9 a10 a11 a12 a13 a14 a15 a16 a17 a18 : Option Value} {l : xL} {x : UInt32} {κ : UInt32 → Option α} : gF (lget (a0 :: a1 :: a2 :: a3 :: a4 :: a5 :: a6 :: a7 :: a8 :: a9 :: a10 :: a11 :: a12 :: a13 :: a14 :: a15 :: a16 :: a17 :: a18 :: some (.float x) :: l) 19) κ = κ x := rfl
theorem glD19 {α : Type} {a0 a1 a2 a3 a4 a5 a6 a7 a8 a9 a10 a11 a12 a13 a14 a15 a16 a17 a18 : Option Value} {l : xL} {x : UInt64} {κ : UInt64 → Option α} : gD (lget (a0 :: a1 :: a2 :: a3 :: a4 :: a5 :: a6 :: a7 :: a8 :: a9 :: a10 :: a11 :: a12 :: a13 :: a14 :: a15 :: a16 :: a17 :: a18 :: some (.double x) :: l) 19) κ = κ x := rfl
theorem glA19 {α : Type} {a0 a1 a2 a3 a4 a5 a6 a7 a8 a9 a10 a11 a12 a13 a14 a15 a16 a17 a18 : Option Value} {l : xL} {x : Nat} {κ : Nat → Option α} : gA (lget (a0 :: a1 :: a2 :: a3 :: a4 :: a5 :: a6 :: a7 :: a8 :: a9 :: a10 :: a11 :: a12 :: a13 :: a14 :: a15 :: a16 :: a17 :: a18 :: some (.ref x) :: l) 19) κ = κ x := rfl
theorem bs19 {α : Type} {a0 a1 a2 a3 a4 a5 a6 a7 a8 a9 a10 a11 a12 a13 a14 a15 a16 a17 a18 a19 : Option Value} {l : xL} {v : Option Value} {κ : xL → Option α} : (lst1 (a0 :: a1 :: a2 :: a3 :: a4 :: a5 :: a6 :: a7 :: a8 :: a9 :: a10 :: a11 :: a12 :: a13 :: a14 :: a15 :: a16 :: a17 :: a18 :: a19 :: l) 19 v).bind κ = κ (a0 :: a1 :: a2 :: a3 :: a4 :: a5 :: a6 :: a7 :: a8 :: a9 :: a10 :: a11 :: a12 :: a13 :: a14 :: a15 :: a16 :: a17 :: lkl a18 :: v :: l) := rfl
theorem bw19 {α : Type} {a0 a1 a2 a3 a4 a5 a6 a7 a8 a9 a10 a11 a12 a13 a14 a15 a16 a17 a18 a19 b : Option Value} {l : xL} {v : Value} {κ : xL → Option α} : (lst2 (a0 :: a1 :: a2 :: a3 :: a4 :: a5 :: a6 :: a7 :: a8 :: a9 :: a10 :: a11 :: a12 :: a13 :: a14 :: a15 :: a16 :: a17 :: a18 :: a19 :: b :: l) 19 v).bind κ = κ (a0 :: a1 :: a2 :: a3 :: a4 :: a5 :: a6 :: a7 :: a8 :: a9 :: a10 :: a11 :: a12 :: a13 :: a14 :: a15 :: a16 :: a17 :: lkl a18 :: some v :: none :: l) := rfl
theorem glI20 {α : Type} {a0 a1 a2 a3 a4 a5 a6 a7 a8 a9 a10 a11 a12 a13 a14 a15 a16 a17 a18 a19 : Option Value} {l : xL} {x : Int32} {κ : Int32 → Option α} : gI (lget (a0 :: a1 :: a2 :: a3 :: a4 :: a5 :: a6 :: a7 :: a8 :: a9 :: a10 :: a11 :: a12 :: a13 :: a14 :: a15 :: a16 :: a17 :: a18 :: a19 :: some (.int x) :: l) 20) κ = κ x := rfl
theorem glL20 {α : Type} {a0 a1 a2 a3 a4 a5 a6 a7 a8 a9 a10 a11 a12 a13 a14 a15 a16 a17 a18 a19 : Option Value} {l : xL} {x : Int64} {κ : Int64 → Option α} : gL (lget (a0 :: a1 :: a2 :: a3 :: a4 :: a5 :: a6 :: a7 :: a8 :: a9 :: a10 :: a11 :: a12 :: a13 :: a14 :: a15 :: a16 :: a17 :: a18 :: a19 :: some (.long x) :: l) 20) κ = κ x := rfl
theorem glF20 {α : Type} {a0 a1 a2 a3 a4 a5 a6 a7 a8 a9 a10 a11 a12 a13 a14 a15 a16 a17 a18 a19 : Option Value} {l : xL} {x : UInt32} {κ : UInt32 → Option α} : gF (lget (a0 :: a1 :: a2 :: a3 :: a4 :: a5 :: a6 :: a7 :: a8 :: a9 :: a10 :: a11 :: a12 :: a13 :: a14 :: a15 :: a16 :: a17 :: a18 :: a19 :: some (.float x) :: l) 20) κ = κ x := rfl
theorem glD20 {α : Type} {a0 a1 a2 a3 a4 a5 a6 a7 a8 a9 a10 a11 a12 a13 a14 a15 a16 a17 a18 a19 : Option Value} {l : xL} {x : UInt64} {κ : UInt64 → Option α} : gD (lget (a0 :: a1 :: a2 :: a3 :: a4 :: a5 :: a6 :: a7 :: a8 :: a9 :: a10 :: a11 :: a12 :: a13 :: a14 :: a15 :: a16 :: a17 :: a18 :: a19 :: some (.double x) :: l) 20) κ = κ x := rfl
theorem glA20 {α : Type} {a0 a1 a2 a3 a4 a5 a6 a7 a8 a9 a10 a11 a12 a13 a14 a15 a16 a17 a18 a19 : Option Value} {l : xL} {x : Nat} {κ : Nat → Option α} : gA (lget (a0 :: a1 :: a2 :: a3 :: a4 :: a5 :: a6 :: a7 :: a8 :: a9 :: a10 :: a11 :: a12 :: a13 :: a14 :: a15 :: a16 :: a17 :: a18 :: a19 :: some (.ref x) :: l) 20) κ = κ x := rfl
theorem bs20 {α : Type} {a0 a1 a2 a3 a4 a5 a6 a7 a8 a9 a10 a11 a12 a13 a14 a15 a16 a17 a18 a19 a20 : Option Value} {l : xL} {v : Option Value} {κ : xL → Option α} : (lst1 (a0 :: a1 :: a2 :: a3 :: a4 :: a5 :: a6 :: a7 :: a8 :: a9 :: a10 :: a11 :: a12 :: a13 :: a14 :: a15 :: a16 :: a17 :: a18 :: a19 :: a20 :: l) 20 v).bind κ = κ (a0 :: a1 :: a2 :: a3 :: a4 :: a5 :: a6 :: a7 :: a8 :: a9 :: a10 :: a11 :: a12 :: a13 :: a14 :: a15 :: a16 :: a17 :: a18 :: lkl a19 :: v :: l) := rfl
theorem bw20 {α : Type} {a0 a1 a2 a3 a4 a5 a6 a7 a8 a9 a10 a11 a12 a13 a14 a15 a16 a17 a18 a19 a20 b : Option Value} {l : xL} {v : Value} {κ : xL → Option α} : (lst2 (a0 :: a1 :: a2 :: a3 :: a4 :: a5 :: a6 :: a7 :: a8 :: a9 :: a10 :: a11 :: a12 :: a13 :: a14 :: a15 :: a16 :: a17 :: a18 :: a19 :: a20 :: b :: l) 20 v).bind κ = κ (a0 :: a1 :: a2 :: a3 :: a4 :: a5 :: a6 :: a7 :: a8 :: a9 :: a10 :: a11 :: a12 :: a13 :: a14 :: a15 :: a16 :: a17 :: a18 :: lkl a19 :: some v :: none :: l) := rfl
theorem glI21 {α : Type} {a0 a1 a2 a3 a4 a5 a6 a7 a8 a9 a10 a11 a12 a13 a14 a15 a16 a17 a18 a19 a20 : Option Value} {l : xL} {x : Int32} {κ : Int32 → Option α} : gI (lget (a0 :: a1 :: a2 :: a3 :: a4 :: a5 :: a6 :: a7 :: a8 :: a9 :: a10 :: a11 :: a12 :: a13 :: a14 :: a15 :: a16 :: a17 :: a18 :: a19 :: a20 :: some (.int x) :: l) 21) κ = κ x := rfl
theorem glL21 {α : Type} {a0 a1 a2 a3 a4 a5 a6 a7 a8 a9 a10 a11 a12 a13 a14 a15 a16 a17 a18 a19 a20 : Option Value} {l : xL} {x : Int64} {κ : Int64 → Option α} : gL (lget (a0 :: a1 :: a2 :: a3 :: a4 :: a5 :: a6 :: a7 :: a8 :: a9 :: a10 :: a11 :: a12 :: a13 :: a14 :: a15 :: a16 :: a17 :: a18 :: a19 :: a20 :: some (.long x) :: l) 21) κ = κ x := rfl
theorem glF21 {α : Type} {a0 a1 a2 a3 a4 a5 a6 a7 a8 a9 a10 a11 a12 a13 a14 a15 a16 a17 a18 a19 a20 : Option Value} {l : xL} {x : UInt32} {κ : UInt32 → Option α} : gF (lget (a0 :: a1 :: a2 :: a3 :: a4 :: a5 :: a6 :: a7 :: a8 :: a9 :: a10 :: a11 :: a12 :: a13 :: a14 :: a15 :: a16 :: a17 :: a18 :: a19 :: a20 :: some (.float x) :: l) 21) κ = κ x := rfl
theorem glD21 {α : Type} {a0 a1 a2 a3 a4 a5 a6 a7 a8 a9 a10 a11 a12 a13 a14 a15 a16 a17 a18 a19 a20 : Option Value} {l : xL} {x : UInt64} {κ : UInt64 → Option α} : gD (lget (a0 :: a1 :: a2 :: a3 :: a4 :: a5 :: a6 :: a7 :: a8 :: a9 :: a10 :: a11 :: a12 :: a13 :: a14 :: a15 :: a16 :: a17 :: a18 :: a19 :: a20 :: some (.double x) :: l) 21) κ = κ x := rfl
theorem glA21 {α : Type} {a0 a1 a2 a3 a4 a5 a6 a7 a8 a9 a10 a11 a12 a13 a14 a15 a16 a17 a18 a19 a20 : Option Value} {l : xL} {x : Nat} {κ : Nat → Option α} : gA (lget (a0 :: a1 :: a2 :: a3 :: a4 :: a5 :: a6 :: a7 :: a8 :: a9 :: a10 :: a11 :: a12 :: a13 :: a14 :: a15 :: a16 :: a17 :: a18 :: a19 :: a20 :: some (.ref x) :: l) 21) κ = κ x := rfl
theorem bs21 {α : Type} {a0 a1 a2 a3 a4 a5 a6 a7 a8 a9 a10 a11 a12 a13 a14 a15 a16 a17 a18 a19 a20 a21 : Option Value} {l : xL} {v : Option Value} {κ : xL → Option α} : (lst1 (a0 :: a1 :: a2 :: a3 :: a4 :: a5 :: a6 :: a7 :: a8 :: a9 :: a10 :: a11 :: a12 :: a13 :: a14 :: a15 :: a16 :: a17 :: a18 :: a19 :: a20 :: a21 :: l) 21 v).bind κ = κ (a0 :: a1 :: a2 :: a3 :: a4 :: a5 :: a6 :: a7 :: a8 :: a9 :: a10 :: a11 :: a12 :: a13 :: a14 :: a15 :: a16 :: a17 :: a18 :: a19 :: lkl a20 :: v :: l) := rfl
theorem bw21 {α : Type} {a0 a1 a2 a3 a4 a5 a6 a7 a8 a9 a10 a11 a12 a13 a14 a15 a16 a17 a18 a19 a20 a21 b : Option Value} {l : xL} {v : Value} {κ : xL → Option α} : (lst2 (a0 :: a1 :: a2 :: a3 :: a4 :: a5 :: a6 :: a7 :: a8 :: a9 :: a10 :: a11 :: a12 :: a13 :: a14 :: a15 :: a16 :: a17 :: a18 :: a19 :: a20 :: a21 :: b :: l) 21 v).bind κ = κ (a0 :: a1 :: a2 :: a3 :: a4 :: a5 :: a6 :: a7 :: a8 :: a9 :: a10 :: a11 :: a12 :: a13 :: a14 :: a15 :: a16 :: a17 :: a18 :: a19 :: lkl a20 :: some v :: none :: l) := rfl
theorem glI22 {α : Type} {a0 a1 a2 a3 a4 a5 a6 a7 a8 a9 a10 a11 a12 a13 a14 a15 a16 a17 a18 a19 a20 a21 : Option Value} {l : xL} {x : Int32} {κ : Int32 → Option α} : gI (lget (a0 :: a1 :: a2 :: a3 :: a4 :: a5 :: a6 :: a7 :: a8 :: a9 :: a10 :: a11 :: a12 :: a13 :: a14 :: a15 :: a16 :: a17 :: a18 :: a19 :: a20 :: a21 :: some (.int x) :: l) 22) κ = κ x := rfl
theorem glL22 {α : Type} {a0 a1 a2 a3 a4 a5 a6 a7 a8 a9 a10 a11 a12 a13 a14 a15 a16 a17 a18 a19 a20 a21 : Option Value} {l : xL} {x : Int64} {κ : Int64 → Option α} : gL (lget (a0 :: a1 :: a2 :: a3 :: a4 :: a5 :: a6 :: a7 :: a8 :: a9 :: a10 :: a11 :: a12 :: a13 :: a14 :: a15 :: a16 :: a17 :: a18 :: a19 :: a20 :: a21 :: some (.long x) :: l) 22) κ = κ x := rfl
theorem glF22 {α : Type} {a0 a1 a2 a3 a4 a5 a6 a7 a8 a9 a10 a11 a12 a13 a14 a15 a16 a17 a18 a19 a20 a21 : Option Value} {l : xL} {x : UInt32} {κ : UInt32 → Option α} : gF (lget (a0 :: a1 :: a2 :: a3 :: a4 :: a5 :: a6 :: a7 :: a8 :: a9 :: a10 :: a11 :: a12 :: a13 :: a14 :: a15 :: a16 :: a17 :: a18 :: a19 :: a20 :: a21 :: some (.float x) :: l) 22) κ = κ x := rfl
theorem glD22 {α : Type} {a0 a1 a2 a3 a4 a5 a6 a7 a8 a9 a10 a11 a12 a13 a14 a15 a16 a17 a18 a19 a20 a21 : Option Value} {l : xL} {x : UInt64} {κ : UInt64 → Option α} : gD (lget (a0 :: a1 :: a2 :: a3 :: a4 :: a5 :: a6 :: a7 :: a8 :: a9 :: a10 :: a11 :: a12 :: a13 :: a14 :: a15 :: a16 :: a17 :: a18 :: a19 :: a20 :: a21 :: some (.double x) :: l) 22) κ = κ x := rfl
theorem glA22 {α : Type} {a0 a1 a2 a3 a4 a5 a6 a7 a8 a9 a10 a11 a12 a13 a14 a15 a16 a17 a18 a19 a20 a21 : Option Value} {l : xL} {x : Nat} {κ : Nat → Option α} : gA (lget (a0 :: a1 :: a2 :: a3 :: a4 :: a5 :: a6 :: a7 :: a8 :: a9 :: a10 :: a11 :: a12 :: a13 :: a14 :: a15 :: a16 :: a17 :: a18 :: a19 :: a20 :: a21 :: some (.ref x) :: l) 22) κ = κ x := rfl
theorem bs22 {α : Type} {a0 a1 a2 a3 a4 a5 a6 a7 a8 a9 a10 a11 a12 a13 a14 a15 a16 a17 a18 a19 a20 a21 a22 : Option Value} {l : xL} {v : Option Value} {κ : xL → Option α} : (lst1 (a0 :: a1 :: a2 :: a3 :: a4 :: a5 :: a6 :: a7 :: a8 :: a9 :: a10 :: a11 :: a12 :: a13 :: a14 :: a15 :: a16 :: a17 :: a18 :: a19 :: a20 :: a21 :: a22 :: l) 22 v).bind κ = κ (a0 :: a1 :: a2 :: a3 :: a4 :: a5 :: a6 :: a7 :: a8 :: a9 :: a10 :: a11 :: a12 :: a13 :: a14 :: a15 :: a16 :: a17 :: a18 :: a19 :: a20 :: lkl a21 :: v :: l) := rfl
theorem bw22 {α : Type} {a0 a1 a2 a3 a4 a5 a6 a7 a8 a9 a10 a11 a12 a13 a14 a15 a16 a17 a18 a19 a20 a21 a22 b : Option Value} {l : xL} {v : Value} {κ : xL → Option α} : (lst2 (a0 :: a1 :: a2 :: a3 :: a4 :: a5 :: a6 :: a7 :: a8 :: a9 :: a10 :: a11 :: a12 :: a13 :: a14 :: a15 :: a16 :: a17 :: a18 :: a19 :: a20 :: a21 :: a22 :: b :: l) 22 v).bind κ = κ (a0 :: a1 :: a2 :: a3 :: a4 :: a5 :: a6 :: a7 :: a8 :: a9 :: a10 :: a11 :: a12 :: a13 :: a14 :: a15 :: a16 :: a17 :: a18 :: a19 :: a20 :: lkl a21 :: some v :: none :: l) := rfl
theorem glI23 {α : Type} {a0 a1 a2 a3 a4 a5 a6 a7 a8 a9 a10 a11 a12 a13 a14 a15 a16 a17 a18 a19 a20 a21 a22 : Option Value} {l : xL} {x : Int32} {κ : Int32 → Option α} : gI (lget (a0 :: a1 :: a2 :: a3 :: a4 :: a5 :: a6 :: a7 :: a8 :: a9 :: a10 :: a11 :: a12 :: a13 :: a14 :: a15 :: a16 :: a17 :: a18 :: a19 :: a20 :: a21 :: a22 :: some (.int x) :: l) 23) κ = κ x := rfl
theorem glL23 {α : Type} {a0 a1 a2 a3 a4 a5 a6 a7 a8 a9 a10 a11 a12 a13 a14 a15 a16 a17 a18 a19 a20 a21 a22 : Option Value} {l : xL} {x : Int64} {κ : Int64 → Option α} : gL (lget (a0 :: a1 :: a2 :: a3 :: a4 :: a5 :: a6 :: a7 :: a8 :: a9 :: a10 :: a11 :: a12 :: a13 :: a14 :: a15 :: a16 :: a17 :: a18 :: a19 :: a20 :: a21 :: a22 :: some (.long x) :: l) 23) κ = κ x := rfl
theorem glF23 {α : Type} {a0 a1 a2 a3 a4 a5 a6 a7 a8 a9 a10 a11 a12 a13 a14 a15 a16 a17 a18 a19 a20 a21 a22 : Option Value} {l : xL} {x : UInt32} {κ : UInt32 → Option α} : gF (lget (a0 :: a1 :: a2 :: a3 :: a4 :: a5 :: a6 :: a7 :: a8 :: a9 :: a10 :: a11 :: a12 :: a13 :: a14 :: a15 :: a16 :: a17 :: a18 :: a19 :: a20 :: a21 :: a22 :: some (.float x) :: l) 23) κ = κ x := rfl
theorem glD23 {α : Type} {a0 a1 a2 a3 a4 a5 a6 a7 a8 a9 a10 a11 a12 a13 a14 a15 a16 a17 a18 a19 a20 a21 a22 : Option Value} {l : xL} {x : UInt64} {κ : UInt64 → Option α} : gD (lget (a0 :: a1 :: a2 :: a3 :: a4 :: a5 :: a6 :: a7 :: a8 :: a9 :: a10 :: a11 :: a12 :: a13 :: a14 :: a15 :: a16 :: a17 :: a18 :: a19 :: a20 :: a21 :: a22 :: some (.double x) :: l) 23) κ = κ x := rfl
theorem glA23 {α : Type} {a0 a1 a2 a3 a4 a5 a6 a7 a8 a9 a10 a11 a12 a13 a14 a15 a16 a17 a18 a19 a20 a21 a22 : Option Value} {l : xL} {x : Nat} {κ : Nat → Option α} : gA (lget (a0 :: a1 :: a2 :: a3 :: a4 :: a5 :: a6 :: a7 :: a8 :: a9 :: a10 :: a11 :: a12 :: a13 :: a14 :: a15 :: a16 :: a17 :: a18 :: a19 :: a20 :: a21 :: a22 :: some (.ref x) :: l) 23) κ = κ x := rfl
theorem bs23 {α : Type} {a0 a1 a2 a3 a4 a5 a6 a7 a8 a9 a10 a11 a12 a13 a14 a15 a16 a17 a18 a19 a20 a21 a22 a23 : Option Value} {l : xL} {v : Option Value} {κ : xL → Option α} : (lst1 (a0 :: a1 :: a2 :: a3 :: a4 :: a5 :: a6 :: a7 :: a8 :: a9 :: a10 :: a11 :: a12 :: a13 :: a14 :: a15 :: a16 :: a17 :: a18 :: a19 :: a20 :: a21 :: a22 :: a23 :: l) 23 v).bind κ = κ (a0 :: a1 :: a2 :: a3 :: a4 :: a5 :: a6 :: a7 :: a8 :: a9 :: a10 :: a11 :: a12 :: a13 :: a14 :: a15 :: a16 :: a17 :: a18 :: a19 :: a20 :: a21 :: lkl a22 :: v :: l) := rfl
theorem bw23 {α : Type} {a0 a1 a2 a3 a4 a5 a6 a7 a8 a9 a10 a11 a12 a13 a14 a15 a16 a17 a18 a19 a20 a21 a22 a23 b : Option Value} {l : xL} {v : Value} {κ : xL → Option α} : (lst2 (a0 :: a1 :: a2 :: a3 :: a4 :: a5 :: a6 :: a7 :: a8 :: a9 :: a10 :: a11 :: a12 :: a13 :: a14 :: a15 :: a16 :: a17 :: a18 :: a19 :: a20 :: a21 :: a22 :: a23 :: b :: l) 23 v).bind κ = κ (a0 :: a1 :: a2 :: a3 :: a4 :: a5 :: a6 :: a7 :: a8 :: a9 :: a10 :: a11 :: a12 :: a13 :: a14 :: a15 :: a16 :: a17 :: a18 :: a19 :: a20 :: a21 :: lkl a22 :: some v :: none :: l) := rfl
theorem glI24 {α : Type} {a0 a1 a2 a3 a4 a5 a6 a7 a8 a9 a10 a11 a12 a13 a14 a15 a16 a17 a18 a19 a20 a21 a22 a23 : Option Value} {l : xL} {x : Int32} {κ : Int32 → Option α} : gI (lget (a0 :: a1 :: a2 :: a3 :: a4 :: a5 :: a6 :: a7 :: a8 :: a9 :: a10 :: a11 :: a12 :: a13 :: a14 :: a15 :: a16 :: a17 :: a18 :: a19 :: a20 :: a21 :: a22 :: a23 :: some (.int x) :: l) 24) κ = κ x := rfl
theorem glL24 {α : Type} {a0 a1 a2 a3 a4 a5 a6 a7 a8 a9 a10 a11 a12 a13 a14 a15 a16 a17 a18 a19 a20 a21 a22 a23 : Option Value} {l : xL} {x : Int64} {κ : Int64 → Option α} : gL (lget (a0 :: a1 :: a2 :: a3 :: a4 :: a5 :: a6 :: a7 :: a8 :: a9 :: a10 :: a11 :: a12 :: a13 :: a14 :: a15 :: a16 :: a17 :: a18 :: a19 :: a20 :: a21 :: a22 :: a23 :: some (.long x) :: l) 24) κ = κ x := rfl
theorem glF24 {α : Type} {a0 a1 a2 a3 a4 a5 a6 a7 a8 a9 a10 a11 a12 a13 a14 a15 a16 a17 a18 a19 a20 a21 a22 a23 : Option Value} {l : xL} {x : UInt32} {κ : UInt32 → Option α} : gF (lget (a0 :: a1 :: a2 :: a3 :: a4 :: a5 :: a6 :: a7 :: a8 :: a9 :: a10 :: a11 :: a12 :: a13 :: a14 :: a15 :: a16 :: a17 :: a18 :: a19 :: a20 :: a21 :: a22 :: a23 :: some (.float x) :: l) 24) κ = κ x := rfl
theorem glD24 {α : Type} {a0 a1 a2 a3 a4 a5 a6 a7 a8 a9 a10 a11 a12 a13 a14 a15 a16 a17 a18 a19 a20 a21 a22 a23 : Option Value} {l : xL} {x : UInt64} {κ : UInt64 → Option α} : gD (lget (a0 :: a1 :: a2 :: a3 :: a4 :: a5 :: a6 :: a7 :: a8 :: a9 :: a10 :: a11 :: a12 :: a13 :: a14 :: a15 :: a16 :: a17 :: a18 :: a19 :: a20 :: a21 :: a22 :: a23 :: some (.double x) :: l) 24) κ = κ x := rfl
theorem glA24 {α : Type} {a0 a1 a2 a3 a4 a5 a6 a7 a8 a9 a10 a11 a12 a13 a14 a15 a16 a17 a18 a19 a20 a21 a22 a23 : Option Value} {l : xL} {x : Nat} {κ : Nat → Option α} : gA (lget (a0 :: a1 :: a2 :: a3 :: a4 :: a5 :: a6 :: a7 :: a8 :: a9 :: a10 :: a11 :: a12 :: a13 :: a14 :: a15 :: a16 :: a17 :: a18 :: a19 :: a20 :: a21 :: a22 :: a23 :: some (.ref x) :: l) 24) κ = κ x := rfl
theorem bs24 {α : Type} {a0 a1 a2 a3 a4 a5 a6 a7 a8 a9 a10 a11 a12 a13 a14 a15 a16 a17 a18 a19 a20 a21 a22 a23 a24 : Option Value} {l : xL} {v : Option Value} {κ : xL → Option α} : (lst1 (a0 :: a1 :: a2 :: a3 :: a4 :: a5 :: a6 :: a7 :: a8 :: a9 :: a10 :: a11 :: a12 :: a13 :: a14 :: a15 :: a16 :: a17 :: a18 :: a19 :: a20 :: a21 :: a22 :: a23 :: a24 :: l) 24 v).bind κ = κ (a0 :: a1 :: a2 :: a3 :: a4 :: a5 :: a6 :: a7 :: a8 :: a9 :: a10 :: a11 :: a12 :: a13 :: a14 :: a15 :: a16 :: a17 :: a18 :: a19 :: a20 :: a21 :: a22 :: lkl a23 :: v :: l) := rfl
theorem bw24 {α : Type} {a0 a1 a2 a3 a4 a5 a6 a7 a8 a9 a10 a11 a12 a13 a14 a15 a16 a17 a18 a19 a20 a21 a22 a23 a24 b : Option Value} {l : xL} {v : Value} {κ : xL → Option α} : (lst2 (a0 :: a1 :: a2 :: a3 :: a4 :: a5 :: a6 :: a7 :: a8 :: a9 :: a10 :: a11 :: a12 :: a13 :: a14 :: a15 :: a16 :: a17 :: a18 :: a19 :: a20 :: a21 :: a22 :: a23 :: a24 :: b :: l) 24 v).bind κ = κ (a0 :: a1 :: a2 :: a3 :: a4 :: a5 :: a6 :: a7 :: a8 :: a9 :: a10 :: a11 :: a12 :: a13 :: a14 :: a15 :: a16 :: a17 :: a18 :: a19 :: a20 :: a21 :: a22 :: lkl a23 :: some v :: none :: l) := rfl
