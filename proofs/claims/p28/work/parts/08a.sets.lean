/-! ===== sets of cells as longs ===== -/
def zmkI (p : Nat → Bool) : Nat → Int64
  | 0 => 0
  | n + 1 => if p n = true then zmkI p n ||| jB (nI (n % 8)) (nI (n / 8)) else zmkI p n
def jset (p : Nat → Bool) : Int64 := zmkI p 64
theorem tb_mkI (p : Nat → Bool) {c : Nat} (hc : c < 64) : ∀ n, n ≤ 64 → tb (zmkI p n) c = (decide (c < n) && p c)
  | 0, _ => by rw [show zmkI p 0 = 0 from rfl, tb_0]; simp
  | n + 1, hn => by
    have ih := tb_mkI p hc n (by omega)
    have hb := tb_jB (n % 8) (by omega) (n / 8) (by omega) c hc
    rw [show 8 * (n / 8) + n % 8 = n by omega] at hb
    simp only [zmkI]
    cases hp : p n with
    | true =>
      rw [if_pos rfl, tb_or, ih, hb]
      by_cases h : c = n
      · subst h; simp [hp]
      · have : decide (c < n + 1) = decide (c < n) := by
          by_cases h2 : c < n
          · simp [h2, Nat.lt_succ_of_lt h2]
          · simp [h2]; omega
        simp [h, this]
    | false =>
      rw [if_neg (by decide), ih]
      by_cases h : c = n
      · subst h; simp [hp]
      · have : decide (c < n + 1) = decide (c < n) := by
          by_cases h2 : c < n
          · simp [h2, Nat.lt_succ_of_lt h2]
          · simp [h2]; omega
        rw [this]
theorem tb_js (p : Nat → Bool) {c : Nat} (hc : c < 64) : tb (jset p) c = p c := by
  unfold jset
  rw [tb_mkI p hc 64 (Nat.le_refl _)]
  simp [hc]
theorem js_of {x : Int64} {p : Nat → Bool} (h : ∀ c, c < 64 → tb x c = p c) : x = jset p := tb_ext (fun c hc => by rw [tb_js p hc]; exact h c hc)
theorem js_congr {p q : Nat → Bool} (h : ∀ c, c < 64 → p c = q c) : jset p = jset q := js_of (fun c hc => by rw [tb_js p hc]; exact h c hc)
theorem js_and (p q : Nat → Bool) : jset p &&& jset q = jset (fun c => p c && q c) := js_of (fun c hc => by rw [tb_and, tb_js p hc, tb_js q hc])
theorem js_or (p q : Nat → Bool) : jset p ||| jset q = jset (fun c => p c || q c) := js_of (fun c hc => by rw [tb_or, tb_js p hc, tb_js q hc])
theorem js_not (p : Nat → Bool) : jset p ^^^ -1 = jset (fun c => !p c) := js_of (fun c hc => by rw [tb_not _ hc, tb_js p hc])
theorem js_0 : (0 : Int64) = jset (fun _ => false) := js_of (fun c _ => tb_0 c)
theorem js_N (p : Nat → Bool) : jN (jset p) = jset (fun c => decide (8 + c < 64) && p (8 + c)) := js_of (fun c hc => by
  rw [tb_jN]
  by_cases h : 8 + c < 64
  · rw [tb_js p h]; simp [h]
  · rw [tb_big (by omega)]; simp [h])
theorem js_S (p : Nat → Bool) : jS (jset p) = jset (fun c => decide (8 ≤ c) && p (c - 8)) := js_of (fun c hc => by
  rw [tb_jS _ hc]
  by_cases h : 8 ≤ c
  · rw [tb_js p (by omega)]
  · simp [h])
theorem js_W (p : Nat → Bool) : jW (jset p) = jset (fun c => decide (¬ c % 8 = 7) && p (c + 1)) := js_of (fun c hc => by
  rw [tb_jW _ hc]
  by_cases h : c % 8 = 7
  · have : (1 + c) % 8 = 0 := by omega
    simp [h, this]
  · have h2 : ¬ (c + 1) % 8 = 0 := by omega
    rw [Nat.add_comm 1 c, tb_js p (show c + 1 < 64 by omega)]
    simp [h, h2])
theorem js_E (p : Nat → Bool) : jE (jset p) = jset (fun c => decide (¬ c % 8 = 0) && p (c - 1)) := js_of (fun c hc => by
  rw [tb_jE _ hc]
  by_cases h : c % 8 = 0
  · by_cases h1 : 1 ≤ c
    · have : (c - 1) % 8 = 7 := by omega
      simp [h, this]
    · simp [h, h1]
  · have h1 : 1 ≤ c := by omega
    have h2 : ¬ (c - 1) % 8 = 7 := by omega
    rw [tb_js p (by omega)]
    simp [h, h1, h2])
theorem js_cnt (p : Nat → Bool) : cnt (tb (jset p)) 64 = cnt p 64 := cnt_congr (fun c hc => tb_js p hc)
theorem js_eq0 {p : Nat → Bool} : jset p = 0 ↔ cnt p 64 = 0 := by
  constructor
  · intro h
    refine zc_none (fun c hc => ?_)
    have := tb_js p hc
    rw [h, tb_0] at this
    exact this.symm
  · intro h
    rw [js_0]
    exact js_congr (zc_none' h)
theorem js_inj {p q : Nat → Bool} (h : jset p = jset q) : ∀ c, c < 64 → p c = q c := fun c hc => by
  rw [← tb_js p hc, h, tb_js q hc]
-- the lowest cell
theorem nat_low {x n : Nat} (hx : x.testBit n = true) (hm : ∀ i, i < n → x.testBit i = false) : ∃ m, x = 2 ^ n * (2 * m + 1) := by
  have h1 : x % 2 ^ n = 0 := by
    refine Nat.eq_of_testBit_eq (fun i => ?_)
    rw [Nat.testBit_mod_two_pow, Nat.zero_testBit]
    by_cases h : i < n
    · rw [hm i h]; simp
    · simp [h]
  have h2 : x / 2 ^ n % 2 = 1 := by
    have := hx
    rw [Nat.testBit_eq_decide_div_mod_eq] at this
    exact of_decide_eq_true this
  refine ⟨x / 2 ^ n / 2, ?_⟩
  have h3 := Nat.div_add_mod x (2 ^ n)
  rw [h1, Nat.add_zero] at h3
  have h4 := Nat.div_add_mod (x / 2 ^ n) 2
  rw [h2] at h4
  rw [h4]
  exact h3.symm
theorem nat_low2 {n m : Nat} (c : Nat) : (2 ^ n * (2 * m + 1) - 1).testBit c = if c < n then true else if c = n then false else (2 ^ n * (2 * m + 1)).testBit c := by
  have hp : 0 < 2 ^ n := Nat.two_pow_pos n
  have e1 : 2 ^ n * (2 * m + 1) - 1 = 2 ^ n * (2 * m) + (2 ^ n - 1) := by rw [Nat.mul_add, Nat.mul_one]; omega
  have e2 : 2 ^ n * (2 * m + 1) = 2 ^ n * (2 * m + 1) + 0 := rfl
  rw [e1, Nat.testBit_two_pow_mul_add _ (by omega)]
  by_cases h : c < n
  · rw [if_pos h, if_pos h, Nat.testBit_two_pow_sub_one]; simp [h]
  · rw [if_neg h, if_neg h]
    by_cases h2 : c = n
    · subst h2
      rw [if_pos rfl, Nat.sub_self, Nat.testBit_zero]
      have : 2 * m % 2 = 0 := by omega
      simp [this]
    · rw [if_neg h2, e2, Nat.testBit_two_pow_mul_add _ hp, if_neg h]
      obtain ⟨d, hd⟩ : ∃ d, c - n = d + 1 := ⟨c - n - 1, by omega⟩
      rw [hd, Nat.testBit_succ, Nat.testBit_succ]
      congr 1
      omega
theorem js_low {p : Nat → Bool} (h : cnt p 64 ≠ 0) : zfst p 64 < 64 ∧ jset p &&& -jset p = jset (fun c => decide (c = zfst p 64)) ∧ (jset p &&& -jset p) - 1 = jset (fun c => decide (c < zfst p 64)) := by
  have hlt : zfst p 64 < 64 := by
    have h1 := zfst_le p 64
    refine Nat.lt_of_le_of_ne h1 (fun h2 => h (zc_none (fun i hi => zfst_min p 64 i (by omega))))
  have hp := zfst_p p 64 hlt
  have hm := fun i (hi : i < zfst p 64) => zfst_min p 64 i hi
  generalize zfst p 64 = n at *
  have hxn : (nL (jset p)).testBit n = true := by
    have := tb_js p hlt
    rw [hp] at this; exact this
  have hxm : ∀ i, i < n → (nL (jset p)).testBit i = false := fun i hi => by
    have := tb_js p (show i < 64 by omega)
    rw [hm i hi] at this; exact this
  obtain ⟨m, hx⟩ := nat_low hxn hxm
  have hpos : 0 < nL (jset p) := by
    rw [hx]; exact Nat.mul_pos (Nat.two_pow_pos n) (by omega)
  have hlt64 := nL_lt (jset p)
  have hneg : ∀ c, c < 64 → tb (-jset p) c = !(nL (jset p) - 1).testBit c := by
    intro c hc
    show (-(jset p).toBitVec).getLsbD c = _
    have e : -(jset p).toBitVec = ~~~((jset p).toBitVec - 1#64) := by rw [BitVec.not_sub_one_eq_not_add_one, BitVec.neg_eq_not_add]
    rw [e, BitVec.getLsbD_not]
    have e2 : ((jset p).toBitVec - 1#64).toNat = nL (jset p) - 1 := BitVec.toNat_sub_of_le (show 1 ≤ (jset p).toBitVec.toNat from hpos)
    simp only [hc, decide_true, Bool.true_and]
    congr 1
    show ((jset p).toBitVec - 1#64).toNat.testBit c = _
    rw [e2]
  have hA : jset p &&& -jset p = jset (fun c => decide (c = n)) := js_of (fun c hc => by
    rw [tb_and, hneg c hc, tb_js p hc, hx, nat_low2]
    have h3 := tb_js p hc
    change (nL (jset p)).testBit c = p c at h3
    rw [hx] at h3
    by_cases h1 : c < n
    · rw [if_pos h1, hm c h1]
      have : ¬ c = n := by omega
      simp [this]
    · rw [if_neg h1]
      by_cases h2 : c = n
      · subst h2; simp [hp]
      · rw [if_neg h2, h3]; simp [h2])
  refine ⟨hlt, hA, ?_⟩
  rw [hA]
  have key : ∀ n, n < 64 → ∀ c, c < 64 → tb (jset (fun c => decide (c = n)) - 1) c = decide (c < n) := by decide +kernel
  exact js_of (key n hlt)
-- lines, places
theorem hiC_b : ∀ l, l < 144 → ∀ c, c < 64 → tb (hiC (nI l)) c = decide (c = zb2 l) := by decide +kernel
theorem loC_b : ∀ l, l < 144 → ∀ c, c < 64 → tb (loC (nI l)) c = decide (c = zb1 l) := by decide +kernel
theorem hiC_s {l : Nat} (hl : l < 144) : hiC (nI l) = jset (fun c => decide (c = zb2 l)) := js_of (hiC_b l hl)
theorem loC_s {l : Nat} (hl : l < 144) : loC (nI l) = jset (fun c => decide (c = zb1 l)) := js_of (loC_b l hl)
theorem ld_b : ∀ x, x < 9 → ∀ y, y < 9 → ldS (nI x) (nI y - 1) = zlI (zlf x y 0) ∧ ldE (nI x) (nI y) = zlI (zlf x y 1) ∧ ldS (nI x) (nI y) = zlI (zlf x y 2) ∧ ldE (nI x - 1) (nI y) = zlI (zlf x y 3) := by decide +kernel
theorem sh_b : ∀ n, n < 64 → ∀ c, c < 64 → tb ((1 : Int64) <<< ((nI n).toInt64 &&& 63)) c = decide (c = n) := by decide +kernel
theorem sh_s {n : Nat} (hn : n < 64) : (1 : Int64) <<< ((nI n).toInt64 &&& 63) = jset (fun c => decide (c = n)) := js_of (sh_b n hn)
theorem cbit_f {x y : Int32} (h : zin x y = false) : cbit x y = 0 := by
  unfold cbit
  refine if_neg (fun q => ?_)
  obtain ⟨a, -, a2, rfl⟩ := i32_rg (x := x) (a := 0) (b := 7) (by omega) ⟨q.1, by
    have := q.2.1
    exact (show ∀ x : Int32, x < nI 8 → x ≤ nI 7 from fun x h => by
      rw [Int32.le_iff_toInt_le]; rw [Int32.lt_iff_toInt_lt] at h
      rw [nI_toInt (by omega)] at *; omega) x this⟩ (by omega)
  obtain ⟨b, -, b2, rfl⟩ := i32_rg (x := y) (a := 0) (b := 7) (by omega) ⟨q.2.2.1, by
    have := q.2.2.2
    exact (show ∀ x : Int32, x < nI 8 → x ≤ nI 7 from fun x h => by
      rw [Int32.le_iff_toInt_le]; rw [Int32.lt_iff_toInt_lt] at h
      rw [nI_toInt (by omega)] at *; omega) y this⟩ (by omega)
  rw [zin_n (by omega) (by omega)] at h
  cases h
theorem cbit_t {a b : Nat} (ha : a < 8) (hb : b < 8) : cbit (nI a) (nI b) = jset (fun c => decide (c = 8 * b + a)) := by
  unfold cbit
  rw [if_pos ⟨nI_pos' (by omega), nI_lt ha (by omega), nI_pos' (by omega), nI_lt hb (by omega)⟩]
  exact js_of (fun c hc => tb_jB a ha b hb c hc)
