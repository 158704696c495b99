/-! ===== Long.bitCount counts the bits ===== -/
def cnt (f : Nat → Bool) : Nat → Nat
  | 0 => 0
  | n + 1 => cnt f n + (if f n = true then 1 else 0)
theorem cnt_le (f : Nat → Bool) : ∀ n, cnt f n ≤ n
  | 0 => Nat.le_refl _
  | n + 1 => by
    have := cnt_le f n
    simp only [cnt]
    split <;> omega
theorem cnt_congr {f g : Nat → Bool} : ∀ {n : Nat}, (∀ i, i < n → f i = g i) → cnt f n = cnt g n
  | 0, _ => rfl
  | n + 1, h => by
    simp only [cnt]
    rw [cnt_congr (fun i hi => h i (by omega)), h n (by omega)]
theorem cnt_add (f : Nat → Bool) (m : Nat) : ∀ n, cnt f (m + n) = cnt f m + cnt (fun i => f (m + i)) n
  | 0 => by simp [cnt]
  | n + 1 => by
    rw [← Nat.add_assoc]
    simp only [cnt]
    rw [cnt_add f m n]
    omega
theorem and_lane {A B a b : Nat} (ha : a < 256) (hb : b < 256) : (A * 256 + a) &&& (B * 256 + b) = (A &&& B) * 256 + (a &&& b) := by
  have e : ∀ (X y : Nat), y < 256 → X * 256 + y = 2 ^ 8 * X + y := fun X y _ => by omega
  rw [e _ _ ha, e _ _ hb, e _ _ (Nat.lt_of_le_of_lt Nat.and_le_left ha)]
  apply Nat.eq_of_testBit_eq
  intro i
  rw [Nat.testBit_and, Nat.testBit_two_pow_mul_add _ ha, Nat.testBit_two_pow_mul_add _ hb, Nat.testBit_two_pow_mul_add _ (Nat.lt_of_le_of_lt Nat.and_le_left ha)]
  split <;> simp
def mk8 (m : Nat) : Nat → Nat
  | 0 => 0
  | k + 1 => mk8 m k * 256 + m
def c1 (k X : Nat) : Nat := X - ((X / 2) &&& mk8 0x55 k)
def c2 (k X : Nat) : Nat := (X &&& mk8 0x33 k) + ((X / 4) &&& mk8 0x33 k)
def c3 (k X : Nat) : Nat := (X + X / 16) &&& mk8 0x0f k
def p1 (l : Nat) : Nat := l - ((l / 2) &&& 0x55)
def p2 (l : Nat) : Nat := (l &&& 0x33) + ((l / 4) &&& 0x33)
def p3 (l : Nat) : Nat := (l + l / 16) &&& 0x0f
theorem q1 : ∀ p, p < 2 → ∀ l, l < 256 → (p * 128 + l / 2) &&& 0x55 = (l / 2) &&& 0x55 := by decide +kernel
theorem q2 : ∀ p, p < 4 → ∀ l, l < 256 → (p * 64 + l / 4) &&& 0x33 = (l / 4) &&& 0x33 := by decide +kernel
theorem q1l : ∀ l, l < 256 → (l / 2) &&& 0x55 ≤ l := by decide +kernel
theorem q3 : ∀ l, l < 256 → p3 (p2 (p1 l)) = cnt (fun i => l.testBit i) 8 := by decide +kernel
theorem q1b : ∀ l, l < 256 → p1 l < 256 := by decide +kernel
theorem q2b : ∀ l, l < 256 → p2 l ≤ 0x66 := by decide +kernel
theorem c1_s (k h l : Nat) (hl : l < 256) (hk : (h / 2) &&& mk8 0x55 k ≤ h) : c1 (k + 1) (h * 256 + l) = c1 k h * 256 + p1 l := by
  unfold c1 p1
  have e1 : (h * 256 + l) / 2 = (h / 2) * 256 + (h % 2 * 128 + l / 2) := by omega
  rw [e1]
  simp only [mk8]
  rw [and_lane (by omega) (by decide), q1 _ (by omega) _ hl]
  have := q1l l hl
  omega
theorem c2_s (k h l : Nat) (hl : l < 256) : c2 (k + 1) (h * 256 + l) = c2 k h * 256 + p2 l := by
  unfold c2 p2
  have e1 : (h * 256 + l) / 4 = (h / 4) * 256 + (h % 4 * 64 + l / 4) := by omega
  rw [e1]
  simp only [mk8]
  rw [and_lane hl (by decide), and_lane (by omega) (by decide), q2 _ (by omega) _ hl]
  omega
theorem q4 : ∀ p, p < 5 → ∀ l, l < 69 → (l + (p * 16 + l / 16)) &&& 0x0f = (l + l / 16) &&& 0x0f := by decide +kernel
theorem c3_s (k h l : Nat) (hl : l < 69) (hh : h % 16 < 5) : c3 (k + 1) (h * 256 + l) = c3 k h * 256 + p3 l := by
  unfold c3 p3
  have e1 : h * 256 + l + (h * 256 + l) / 16 = (h + h / 16) * 256 + (l + (h % 16 * 16 + l / 16)) := by omega
  rw [e1]
  simp only [mk8]
  rw [and_lane (by omega) (by decide), q4 _ hh _ hl]
/-- lanes of eight bits -/
def V : List Nat → Nat
  | [] => 0
  | l :: t => V t * 256 + l
theorem V_c1 : ∀ L : List Nat, (∀ l ∈ L, l < 256) → c1 L.length (V L) = V (L.map p1) ∧ (V L / 2) &&& mk8 0x55 L.length ≤ V L
  | [], _ => ⟨rfl, Nat.le_refl _⟩
  | l :: t, h => by
    obtain ⟨h1, h2⟩ := V_c1 t (fun x hx => h x (List.mem_cons_of_mem _ hx))
    have hl := h l List.mem_cons_self
    refine ⟨?_, ?_⟩
    · show c1 (t.length + 1) (V t * 256 + l) = V (t.map p1) * 256 + p1 l
      rw [c1_s _ _ _ hl h2, h1]
    · show (V t * 256 + l) / 2 &&& mk8 0x55 (t.length + 1) ≤ V t * 256 + l
      have e1 : (V t * 256 + l) / 2 = (V t / 2) * 256 + (V t % 2 * 128 + l / 2) := by omega
      rw [e1]
      simp only [mk8]
      rw [and_lane (by omega) (by decide), q1 _ (by omega) _ hl]
      have := q1l l hl
      omega
theorem V_c2 : ∀ L : List Nat, (∀ l ∈ L, l < 256) → c2 L.length (V L) = V (L.map p2)
  | [], _ => rfl
  | l :: t, h => by
    show c2 (t.length + 1) (V t * 256 + l) = V (t.map p2) * 256 + p2 l
    rw [c2_s _ _ _ (h l List.mem_cons_self), V_c2 t (fun x hx => h x (List.mem_cons_of_mem _ hx))]
theorem V_c3 : ∀ L : List Nat, (∀ l ∈ L, l < 69 ∧ l % 16 < 5) → c3 L.length (V L) = V (L.map p3)
  | [], _ => rfl
  | l :: t, h => by
    have h1 : V t % 16 < 5 := by
      cases t with
      | nil => exact (by decide : 0 % 16 < 5)
      | cons a t =>
        have := (h a (by simp)).2
        show (V t * 256 + a) % 16 < 5
        omega
    show c3 (t.length + 1) (V t * 256 + l) = V (t.map p3) * 256 + p3 l
    rw [c3_s _ _ _ (h l List.mem_cons_self).1 h1, V_c3 t (fun x hx => h x (List.mem_cons_of_mem _ hx))]
theorem q5 : ∀ l, l < 256 → p2 (p1 l) < 69 ∧ p2 (p1 l) % 16 < 5 := by decide +kernel
theorem q6 : ∀ l, l < 256 → p3 (p2 (p1 l)) ≤ 8 := by decide +kernel
theorem V_all (L : List Nat) (h : ∀ l ∈ L, l < 256) : c3 L.length (c2 L.length (c1 L.length (V L))) = V (L.map (fun l => p3 (p2 (p1 l)))) := by
  rw [(V_c1 L h).1]
  have e1 := V_c2 (L.map p1) (fun l hl => by
    obtain ⟨a, ha, rfl⟩ := List.mem_map.mp hl
    exact q1b a (h a ha))
  rw [List.length_map] at e1
  rw [e1]
  have e2 := V_c3 ((L.map p1).map p2) (fun l hl => by
    obtain ⟨a, ha, rfl⟩ := List.mem_map.mp hl
    obtain ⟨a2, ha2, rfl⟩ := List.mem_map.mp ha
    exact q5 a2 (h a2 ha2))
  rw [List.length_map, List.length_map] at e2
  rw [e2, List.map_map, List.map_map]
  rfl
/-- the lanes of a number -/
def lan (X : Nat) : Nat → List Nat
  | 0 => []
  | k + 1 => X % 256 :: lan (X / 256) k
theorem lan_V : ∀ (k X : Nat), X < 256 ^ k → V (lan X k) = X
  | 0, X, h => by
    have : X = 0 := by simpa using h
    subst this; rfl
  | k + 1, X, h => by
    show V (lan (X / 256) k) * 256 + X % 256 = X
    rw [lan_V k (X / 256) (by rw [Nat.pow_succ] at h; exact Nat.div_lt_of_lt_mul (by rw [Nat.mul_comm]; exact h))]
    omega
theorem lan_lt : ∀ (k X : Nat), ∀ l ∈ lan X k, l < 256
  | 0, _, l, h => by simp [lan] at h
  | k + 1, X, l, h => by
    simp only [lan, List.mem_cons] at h
    rcases h with rfl | h
    · exact Nat.mod_lt _ (by decide)
    · exact lan_lt k _ l h
theorem lan_cnt : ∀ (k X : Nat), ((lan X k).map (fun l => p3 (p2 (p1 l)))).sum = cnt (fun i => X.testBit i) (8 * k)
  | 0, _ => rfl
  | k + 1, X => by
    rw [show 8 * (k + 1) = 8 + 8 * k by omega, cnt_add]
    simp only [lan, List.map_cons, List.sum_cons]
    rw [lan_cnt k (X / 256), q3 _ (Nat.mod_lt _ (by decide))]
    congr 1
    · refine cnt_congr (fun i hi => ?_)
      rw [show (256 : Nat) = 2 ^ 8 by decide, Nat.testBit_mod_two_pow]
      simp [hi]
    · refine cnt_congr (fun i hi => ?_)
      rw [show (256 : Nat) = 2 ^ 8 by decide, Nat.testBit_div_two_pow]
      rw [Nat.add_comm]
theorem lan_len : ∀ k X, (lan X k).length = k
  | 0, _ => rfl
  | k + 1, X => by simp [lan, lan_len k]
