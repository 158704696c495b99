/-! ===== what else always holds of the row ===== -/
/-- melted cells are counted -/
def zX1 (s : Nat → Int32) : Prop := s 439 = nI (64 - cnt (zic s) 64)
/-- each cracked line melted a cell -/
def zX2 (s : Nat → Int32) : Prop := ∃ k, s 437 = nI k ∧ k + cnt (zic s) 64 ≤ 64
/-- tolls paid are tolls got -/
def zX3 (s : Nat → Int32) : Prop := s 420 + s 426 + s 432 = s 421 + s 427 + s 433
/-- no two skaters at a point -/
def zX4 (s : Nat → Int32) : Prop := ∀ i j, i < 3 → j < 3 → i ≠ j → ¬ (zpx s i = zpx s j ∧ zpy s i = zpy s j)
def zXI (s : Nat → Int32) : Prop := zX1 s ∧ zX2 s ∧ zX3 s ∧ zX4 s
theorem zX1_ext {s s' : Nat → Int32} (h : ∀ j, j < 64 → s' j = s j) (h9 : s' 439 = s 439) (hs : zX1 s) : zX1 s' := by
  unfold zX1 at *
  rw [h9, hs, cnt_congr (f := zic s') (g := zic s) (fun c _ => zic_congr h c)]
theorem zX2_ext {s s' : Nat → Int32} (h : ∀ j, j < 64 → s' j = s j) (h7 : s' 437 = s 437) (hs : zX2 s) : zX2 s' := by
  unfold zX2 at *
  rw [h7, cnt_congr (f := zic s') (g := zic s) (fun c _ => zic_congr h c)]
  exact hs
theorem zX3_ext {s s' : Nat → Int32} (h : ∀ j, 416 ≤ j → j < 434 → s' j = s j) (hs : zX3 s) : zX3 s' := by
  unfold zX3 at *
  rw [h 420 (by omega) (by omega), h 426 (by omega) (by omega), h 432 (by omega) (by omega), h 421 (by omega) (by omega), h 427 (by omega) (by omega), h 433 (by omega) (by omega)]
  exact hs
theorem zX4_ext {s s' : Nat → Int32} (h : ∀ k, k < 3 → s' (416 + 6 * k) = s (416 + 6 * k) ∧ s' (416 + 6 * k + 1) = s (416 + 6 * k + 1)) (hs : zX4 s) : zX4 s' := by
  intro i j hi hj hij
  have e : ∀ k, k < 3 → zpx s' k = zpx s k ∧ zpy s' k = zpy s k := fun k hk => by
    unfold zpx zpy
    rw [(h k hk).1, (h k hk).2]; exact ⟨rfl, rfl⟩
  rw [(e i hi).1, (e i hi).2, (e j hj).1, (e j hj).2]
  exact hs i j hi hj hij
theorem zXI_ext {s s' : Nat → Int32} (h : ∀ j, j < 441 → s' j = s j) (hs : zXI s) : zXI s' :=
  ⟨zX1_ext (fun j hj => h j (by omega)) (h _ (by omega)) hs.1, zX2_ext (fun j hj => h j (by omega)) (h _ (by omega)) hs.2.1, zX3_ext (fun j _ hj => h j (by omega)) hs.2.2.1, zX4_ext (fun k hk => ⟨h _ (by omega), h _ (by omega)⟩) hs.2.2.2⟩
-- a cell becomes water
theorem zml_ic {s : Nat → Int32} {c d : Nat} (hi : zic s c = true) : zic (zml s c) d = (zic s d && !decide (d = c)) := by
  have hc := zic_lt hi
  by_cases hd : d < 64
  · rw [zic_iff hd, zic_iff hd]
    have : zml s c d = if d = c then nI 0 else s d := by
      unfold zml
      rw [if_pos hi, upd_n _ _ (by omega), upd_n _ _ (by omega)]
      by_cases h : d = c
      · subst h; rw [upd_s, if_pos rfl]
      · rw [upd_n _ _ h, if_neg h]
    rw [this]
    by_cases h : d = c
    · rw [if_pos h]; simp only [h, decide_true, Bool.not_true, Bool.and_false]; decide
    · rw [if_neg h]; simp only [h, decide_false, Bool.not_false, Bool.and_true]
  · have h1 : zic s d = false := by unfold zic; simp [hd]
    have h2 : zic (zml s c) d = false := by unfold zic; simp [hd]
    rw [h1, h2]; rfl
theorem zml_cnt {s : Nat → Int32} {c : Nat} (hi : zic s c = true) : cnt (zic (zml s c)) 64 + 1 = cnt (zic s) 64 := by
  have hc := zic_lt hi
  have h1 := zc_split (zic s) (fun d => decide (d = c)) 64
  have h2 : cnt (fun i => zic s i && decide (i = c)) 64 = 1 := by
    rw [cnt_congr (g := fun d => decide (d = c)) (fun i _ => by
      by_cases h : i = c
      · subst h; simp [hi]
      · simp [h]), zc_one, if_pos hc]
  have h3 : cnt (zic (zml s c)) 64 = cnt (fun i => zic s i && !decide (i = c)) 64 := cnt_congr (fun i _ => zml_ic hi)
  omega
theorem zml_w {s : Nat → Int32} {c : Nat} (hi : zic s c = false) : zml s c = s := by unfold zml; rw [if_neg (by rw [hi]; decide)]
theorem zml_x12 {s : Nat → Int32} {c : Nat} (hc : c ≤ 64) (h1 : zX1 s) (h2 : zX2 s) : zX1 (zml s c) ∧ zX2 (zml s c) := by
  cases hi : zic s c with
  | false =>
    have : zml s c = s := by unfold zml; rw [if_neg (by rw [hi]; decide)]
    rw [this]; exact ⟨h1, h2⟩
  | true =>
    have hn := zml_cnt hi
    have hle := cnt_le (zic s) 64
    constructor
    · unfold zX1 at *
      have : zml s c 439 = s 439 + nI 1 := by unfold zml; rw [if_pos hi, upd_s]
      rw [this, h1, nI_add]
      congr 1
      omega
    · obtain ⟨k, k1, k2⟩ := h2
      exact ⟨k, by rw [zml_hi hc (by omega) (by omega)]; exact k1, by omega⟩
theorem zml_XI {s : Nat → Int32} {c : Nat} (hc : c ≤ 64) (h : zXI s) : zXI (zml s c) := by
  obtain ⟨h1, h2, h3, h4⟩ := h
  obtain ⟨g1, g2⟩ := zml_x12 hc h1 h2
  exact ⟨g1, g2, zX3_ext (fun j a b => zml_hi hc (by omega) (by omega)) h3, zX4_ext (fun k hk => ⟨zml_hi hc (by omega) (by omega), zml_hi hc (by omega) (by omega)⟩) h4⟩
-- a thaw
theorem zth_hi {s : Nat → Int32} {j : Nat} (h1 : 128 ≤ j) (h2 : j ≠ 438) (h3 : j ≠ 439) : zth s j = s j := by
  unfold zth
  rw [upd_n _ _ h2]
  unfold zmk
  rw [if_neg (by omega), if_neg (by omega), if_neg h3]
theorem zth_XI {s : Nat → Int32} (h : zXI s) : zXI (zth s) := by
  obtain ⟨h1, h2, h3, h4⟩ := h
  have hn := zth_cnt s
  have hle := cnt_le (zic s) 64
  refine ⟨?_, ?_, zX3_ext (fun j a b => zth_hi (by omega) (by omega) (by omega)) h3, zX4_ext (fun k hk => ⟨zth_hi (by omega) (by omega) (by omega), zth_hi (by omega) (by omega) (by omega)⟩) h4⟩
  · unfold zX1 at *
    have : zth s 439 = s 439 + nI (cnt (ztw s) 64) := by
      unfold zth zmk
      rw [upd_n _ _ (by omega), if_neg (by omega), if_neg (by omega), if_pos rfl]
    rw [this, h1, nI_add]
    congr 1
    omega
  · obtain ⟨k, k1, k2⟩ := h2
    exact ⟨k, by rw [zth_hi (by omega) (by omega) (by omega)]; exact k1, by omega⟩
-- a step
theorem zs1_off {s : Nat → Int32} {k l j : Nat} (hk : k < 3) (hO : zOW s) (hj : j < 416 ∨ 434 ≤ j) : zs1 s k l j = s j := by
  unfold zs1
  split
  · rfl
  · next ht =>
    obtain ⟨i1, i2, h3, h4, h5, h6⟩ := zto_pos ht
    obtain h7 | ⟨h7, h8⟩ := hO _ (zic_lt i1)
    · exact absurd h7 h3
    unfold zsT
    rw [upd_n _ _ (by omega), upd_n _ _ (by omega), upd_n _ _ (by omega), upd_n _ _ (by omega)]
theorem zpt_lo {s : Nat → Int32} {k l j : Nat} (hj : j < 64 ∨ 272 ≤ j) (hl : l < 144) : zpt s k l j = s j := by
  unfold zpt
  split
  · exact upd_n _ _ (by omega)
  · unfold zow
    rw [if_neg (by omega)]
    exact upd_n _ _ (by omega)
theorem zs3_x12 {s : Nat → Int32} {k l : Nat} (hl : l < 144) (h3 : zic s (zb1 l) = true ∨ zic s (zb2 l) = true) (h1 : zX1 s) (h2 : zX2 s) : zX1 (zs3 s k l) ∧ zX2 (zs3 s k l) := by
  unfold zs3
  split
  · split
    · exact ⟨zX1_ext (fun j hj => zpt_lo (by omega) hl) (zpt_lo (by omega) hl) h1, zX2_ext (fun j hj => zpt_lo (by omega) hl) (zpt_lo (by omega) hl) h2⟩
    · exact ⟨h1, h2⟩
  · have hb1 := zb1_64 l hl
    have hb2 := zb2_64 l hl
    obtain ⟨a1, a2⟩ := zml_x12 hb1 h1 h2
    obtain ⟨c1, c2⟩ := zml_x12 hb2 a1 a2
    have hle : cnt (zic (zml (zml s (zb1 l)) (zb2 l))) 64 + 1 ≤ cnt (zic s) 64 := by
      cases hi : zic s (zb1 l) with
      | true =>
        have q1 := zml_cnt hi
        cases hj : zic (zml s (zb1 l)) (zb2 l) with
        | true => have q2 := zml_cnt hj; omega
        | false =>
          rw [zml_w hj]; omega
      | false =>
        have e1 : zml s (zb1 l) = s := by unfold zml; rw [if_neg (by rw [hi]; decide)]
        rw [e1]
        have hj : zic s (zb2 l) = true := h3.elim (fun q => by rw [hi] at q; cases q) id
        have q2 := zml_cnt hj
        omega
    unfold zmm
    constructor
    · exact zX1_ext (fun j hj => upd_n _ _ (by omega)) (upd_n _ _ (by omega)) c1
    · obtain ⟨q, q1, q2⟩ := h2
      refine ⟨q + 1, ?_, ?_⟩
      · rw [upd_s, zml_hi hb2 (by omega) (by omega), zml_hi hb1 (by omega) (by omega), q1, nI_add]
      · rw [cnt_congr (g := zic (zml (zml s (zb1 l)) (zb2 l))) (fun c _ => zic_congr (fun j hj => upd_n _ _ (by omega)) c)]
        omega
theorem i32_ac {a b c d : Int32} : (a + d) + b + c = (a + b + c) + d ∧ a + (b + d) + c = (a + b + c) + d ∧ a + b + (c + d) = (a + b + c) + d := by
  refine ⟨?_, ?_, ?_⟩
  · rw [Int32.add_assoc a d b, Int32.add_comm d b, ← Int32.add_assoc a b d, Int32.add_assoc (a + b) d c, Int32.add_comm d c, ← Int32.add_assoc]
  · rw [← Int32.add_assoc a b d, Int32.add_assoc (a + b) d c, Int32.add_comm d c, ← Int32.add_assoc]
  · rw [← Int32.add_assoc]
theorem zs1_x3 {s : Nat → Int32} {k l : Nat} (hk : k < 3) (hO : zOW s) (h : zX3 s) : zX3 (zs1 s k l) := by
  unfold zs1
  split
  · exact h
  · next ht =>
    obtain ⟨i1, i2, h3, h4, h5, h6⟩ := zto_pos ht
    obtain h7 | ⟨h7, h8⟩ := hO _ (zic_lt i1)
    · exact absurd h7 h3
    generalize zon s (zb1 l) = o at *
    generalize zto s (nI k) l = t at *
    have e4 : ∀ q, q < 3 → zsT s k o t (416 + 6 * q + 4) = if q = k then s (416 + 6 * q + 4) + t else s (416 + 6 * q + 4) := fun q hq => by
      unfold zsT
      rw [upd_n _ _ (by omega), upd_n _ _ (by omega)]
      by_cases hqk : q = k
      · subst hqk; rw [upd_s, if_pos rfl]
      · rw [upd_n _ _ (by omega), upd_n _ _ (by omega), if_neg hqk]
    have e5 : ∀ q, q < 3 → zsT s k o t (416 + 6 * q + 5) = if q = o then s (416 + 6 * q + 5) + t else s (416 + 6 * q + 5) := fun q hq => by
      unfold zsT
      by_cases hqk : q = o
      · subst hqk; rw [upd_s, if_pos rfl]
      · rw [upd_n _ _ (by omega), upd_n _ _ (by omega), upd_n _ _ (by omega), upd_n _ _ (by omega), if_neg hqk]
    have p0 := e4 0 (by omega)
    have p1 := e4 1 (by omega)
    have p2 := e4 2 (by omega)
    have g0 := e5 0 (by omega)
    have g1 := e5 1 (by omega)
    have g2 := e5 2 (by omega)
    simp only [Nat.reduceMul, Nat.reduceAdd] at p0 p1 p2 g0 g1 g2
    unfold zX3 at *
    have hp : zsT s k o t 420 + zsT s k o t 426 + zsT s k o t 432 = (s 420 + s 426 + s 432) + t := by
      rw [p0, p1, p2]
      have : k = 0 ∨ k = 1 ∨ k = 2 := by omega
      rcases this with rfl | rfl | rfl
      · exact i32_ac.1
      · exact i32_ac.2.1
      · exact i32_ac.2.2
    have hg : zsT s k o t 421 + zsT s k o t 427 + zsT s k o t 433 = (s 421 + s 427 + s 433) + t := by
      rw [g0, g1, g2]
      have : o = 0 ∨ o = 1 ∨ o = 2 := by omega
      rcases this with rfl | rfl | rfl
      · exact i32_ac.1
      · exact i32_ac.2.1
      · exact i32_ac.2.2
    rw [hp, hg, h]
theorem zst_XI {s : Nat → Int32} {k d : Nat} (hk : k < 3) (hd : d < 4) (hs : zWF s) (h : zXI s) (hb : zba s k d = 0) : zXI (zst s k d) := by
  obtain ⟨h1, h2, h3, h4⟩ := h
  have hO := hs.1.2.1
  have hX := hs.2.1
  obtain ⟨hl, -⟩ := zba_0 hX hk hb
  have hice : zic s (zb1 (zlf (zpx s k) (zpy s k) d)) = true ∨ zic s (zb2 (zlf (zpx s k) (zpy s k) d)) = true := by
    unfold zba at hb
    split at hb
    · cases hb
    · split at hb
      · cases hb
      · split at hb
        · cases hb
        · next q =>
          rcases Bool.eq_false_or_eq_true (zic s (zb1 (zlf (zpx s k) (zpy s k) d))) with a | a
          · exact Or.inl a
          · rcases Bool.eq_false_or_eq_true (zic s (zb2 (zlf (zpx s k) (zpy s k) d))) with b | b
            · exact Or.inr b
            · exact absurd ⟨a, b⟩ q
  have htk : ztk s k (zdx (zpx s k) d) (zdy (zpy s k) d) = false := by
    unfold zba at hb
    split at hb
    · cases hb
    · split at hb
      · cases hb
      · next q => simpa using q
  have e2 : ∀ j, j < 272 ∨ 434 ≤ j → zs2 (zs1 s k (zlf (zpx s k) (zpy s k) d)) (zlf (zpx s k) (zpy s k) d) j = s j := fun j hj => by
    unfold zs2
    rw [upd_n _ _ (by omega)]
    exact zs1_off hk hO (by omega)
  have g1 := zX1_ext (s := s) (s' := zs2 (zs1 s k (zlf (zpx s k) (zpy s k) d)) (zlf (zpx s k) (zpy s k) d)) (fun j hj => e2 j (by omega)) (e2 _ (by omega)) h1
  have g2 := zX2_ext (s := s) (s' := zs2 (zs1 s k (zlf (zpx s k) (zpy s k) d)) (zlf (zpx s k) (zpy s k) d)) (fun j hj => e2 j (by omega)) (e2 _ (by omega)) h2
  obtain ⟨f1, f2⟩ := zs3_x12 (k := k) hl (by rw [zic_congr (fun j hj => e2 j (by omega)), zic_congr (fun j hj => e2 j (by omega))]; exact hice) g1 g2
  refine ⟨?_, ?_, ?_, ?_⟩
  · unfold zst zs4
    exact zX1_ext (fun j hj => by rw [upd_n _ _ (by omega), upd_n _ _ (by omega), upd_n _ _ (by omega)]) (by rw [upd_n _ _ (by omega), upd_n _ _ (by omega), upd_n _ _ (by omega)]) f1
  · unfold zst zs4
    exact zX2_ext (fun j hj => by rw [upd_n _ _ (by omega), upd_n _ _ (by omega), upd_n _ _ (by omega)]) (by rw [upd_n _ _ (by omega), upd_n _ _ (by omega), upd_n _ _ (by omega)]) f2
  · have q := zs1_x3 (l := zlf (zpx s k) (zpy s k) d) hk hO h3
    have ep : ∀ q i, q < 3 → (i = 4 ∨ i = 5) → zst s k d (416 + 6 * q + i) = zs1 s k (zlf (zpx s k) (zpy s k) d) (416 + 6 * q + i) := fun q i hq hi => by
      rw [zst_hi hl (by omega) (by omega) (by omega), zs4_at (by omega)]
    have a0 := ep 0 4 (by omega) (by omega)
    have a1 := ep 1 4 (by omega) (by omega)
    have a2 := ep 2 4 (by omega) (by omega)
    have b0 := ep 0 5 (by omega) (by omega)
    have b1 := ep 1 5 (by omega) (by omega)
    have b2 := ep 2 5 (by omega) (by omega)
    simp only [Nat.reduceMul, Nat.reduceAdd] at a0 a1 a2 b0 b1 b2
    unfold zX3 at *
    rw [a0, a1, a2, b0, b1, b2]
    exact q
  · obtain ⟨x1, x2, x3, x4⟩ := hX k hk
    obtain ⟨t1, t2, -, -⟩ := zlf_to x3 x4 hd (by omega)
    have ex : ∀ j, j < 3 → zpx (zst s k d) j = if j = k then zdx (zpx s k) d else zpx s j := by
      intro j hj
      unfold zpx
      rw [zst_hi hl (by omega) (by omega) (by omega)]
      unfold zs4
      rw [upd_n _ _ (by omega), upd_n _ _ (by omega)]
      by_cases h : j = k
      · subst h; rw [upd_s, if_pos rfl, nI_clamp (by omega)]; rfl
      · rw [upd_n _ _ (by omega), if_neg h]; exact congrArg _ (zs1_xy (i := 0) (by omega) hj)
    have ey : ∀ j, j < 3 → zpy (zst s k d) j = if j = k then zdy (zpy s k) d else zpy s j := by
      intro j hj
      unfold zpy
      rw [zst_hi hl (by omega) (by omega) (by omega)]
      unfold zs4
      rw [upd_n _ _ (by omega)]
      by_cases h : j = k
      · subst h; rw [upd_s, if_pos rfl, nI_clamp (by omega)]; rfl
      · rw [upd_n _ _ (by omega), upd_n _ _ (by omega), if_neg h]; exact congrArg _ (zs1_xy (i := 1) (by omega) hj)
    have hfree : ∀ j, j < 3 → j ≠ k → ¬ (zpx s j = zdx (zpx s k) d ∧ zpy s j = zdy (zpy s k) d) := by
      intro j hj hjk hq
      have hz : zt1 s k (zdx (zpx s k) d) (zdy (zpy s k) d) j = true := by
        unfold zt1
        simp [hjk, hq.1, hq.2]
      have : ztk s k (zdx (zpx s k) d) (zdy (zpy s k) d) = true := by
        unfold ztk
        have : j = 0 ∨ j = 1 ∨ j = 2 := by omega
        rcases this with rfl | rfl | rfl <;> simp [hz]
      rw [this] at htk
      cases htk
    intro i j hi hj hij
    rw [ex i hi, ex j hj, ey i hi, ey j hj]
    by_cases hik : i = k
    · rw [if_pos hik, if_pos hik, if_neg (by omega), if_neg (by omega)]
      exact fun q => hfree j hj (by omega) ⟨q.1.symm, q.2.symm⟩
    · rw [if_neg hik, if_neg hik]
      by_cases hjk : j = k
      · rw [if_pos hjk, if_pos hjk]
        exact hfree i hi hik
      · rw [if_neg hjk, if_neg hjk]
        exact h4 i j hi hj hij
theorem zgl_XI {k d : Nat} (hk : k < 3) (hd : d < 4) (n : Nat) {s : Nat → Int32} (hs : zWF s) (h : zXI s) : zXI (zgl k d n s).2 :=
  zgl_inv (I := zXI) (fun _ _ _ a b c e f => zst_XI a b c e f) hk hd n s hs h
theorem zpl_XI {f : Nat → Int32} {n : Nat} (h3 : zpn f n = 3) {s : Nat → Int32} (hs : zWF s) (h : zXI s) : zXI (zpl f n s).2 :=
  zpl_inv (I := zXI) (fun _ _ e => zth_XI e) (fun _ _ _ a b c e f => zst_XI a b c e f) h3 s hs h
theorem zXI_set {s : Nat → Int32} {k : Nat} {v : Int32} (hk : k < 3) (h : zXI s) : zXI (upd s (434 + k) v) := by
  obtain ⟨h1, h2, h3, h4⟩ := h
  exact ⟨zX1_ext (fun j hj => upd_n _ _ (by omega)) (upd_n _ _ (by omega)) h1, zX2_ext (fun j hj => upd_n _ _ (by omega)) (upd_n _ _ (by omega)) h2, zX3_ext (fun j a b => upd_n _ _ (by omega)) h3, zX4_ext (fun k hk => ⟨upd_n _ _ (by omega), upd_n _ _ (by omega)⟩) h4⟩
theorem zXI_pay {s : Nat → Int32} {k : Nat} {v w : Int32} (hk : k < 3) (h : zXI s) : zXI (upd (upd s (416 + 6 * k + 2) v) 440 w) := by
  obtain ⟨h1, h2, h3, h4⟩ := h
  refine ⟨zX1_ext (fun j hj => by rw [upd_n _ _ (by omega), upd_n _ _ (by omega)]) (by rw [upd_n _ _ (by omega), upd_n _ _ (by omega)]) h1, zX2_ext (fun j hj => by rw [upd_n _ _ (by omega), upd_n _ _ (by omega)]) (by rw [upd_n _ _ (by omega), upd_n _ _ (by omega)]) h2, ?_, zX4_ext (fun q hq => ⟨by rw [upd_n _ _ (by omega), upd_n _ _ (by omega)], by rw [upd_n _ _ (by omega), upd_n _ _ (by omega)]⟩) h4⟩
  unfold zX3 at *
  rw [upd_n _ _ (by omega), upd_n _ _ (by omega), upd_n _ _ (by omega), upd_n _ _ (by omega), upd_n _ _ (by omega), upd_n _ _ (by omega), upd_n _ _ (by omega), upd_n _ _ (by omega), upd_n _ _ (by omega), upd_n _ _ (by omega), upd_n _ _ (by omega), upd_n _ _ (by omega)]
  exact h3
-- the row-book
theorem zsvP_inv {I : (Nat → Int32) → Prop} (hext : ∀ s s', (∀ j, j < 441 → s' j = s j) → I s → I s') {n : Nat} {P s : Nat → Int32} (hn : n ≤ 6) (h : ∀ k, k < n → I (zsl P k)) (hs : I s) : ∀ k, k < zsvN n → I (zsl (zsvP n s P) k) := by
  intro k hk
  unfold zsvN at hk
  unfold zsvP
  by_cases h6 : n = 6
  · subst h6
    rw [if_pos rfl] at hk ⊢
    by_cases h5 : k = 5
    · subst h5
      exact hext s _ (fun j hj => by
        unfold zsl zfs
        rw [if_pos (by omega), show 441 * 5 + j - 2205 = j by omega]) hs
    · refine hext (zsl P (k + 1)) _ (fun j hj => ?_) (h (k + 1) (by omega))
      unfold zsl zfs zfl
      rw [if_neg (by omega), if_pos (by omega)]
      show P (441 + (441 * k + j)) = _
      rw [show 441 + (441 * k + j) = 441 * (k + 1) + j by omega]
  · rw [if_neg h6] at hk ⊢
    by_cases hkn : k = n
    · subst hkn
      exact hext s _ (fun j hj => by
        unfold zsl zfs
        rw [if_pos (by omega), show 441 * k + j - 441 * k = j by omega]) hs
    · refine hext (zsl P k) _ (fun j hj => ?_) (h k (by omega))
      unfold zsl zfs
      rw [if_neg (by omega)]
/-- the row-book's numbers: so many saved, the text's length, is there a snapshot -/
def zok (M : ZM) (n l kp : Nat) : Prop := (M 8 0 = nI n ∧ M 8 2 = nI l ∧ M 8 1 = nI kp) ∧ n ≤ 6 ∧ l ≤ 60 ∧ kp ≤ 1
/-- every row of the row-book is sound -/
def zIM (M : ZM) (n l kp : Nat) : Prop := zok M n l kp ∧ (zWF (M 0) ∧ zXI (M 0)) ∧ (∀ k, k < n → zWF (zsl (M 2) k) ∧ zXI (zsl (M 2) k)) ∧ (kp = 1 → zWF (M 3) ∧ zXI (M 3))
theorem zIM_save {M : ZM} {n l kp l' : Nat} {s' : Nat → Int32} (h : zIM M n l kp) (hl : l' ≤ 60) (hs : zWF s' ∧ zXI s') : zIM (zgS M n s' l') (zsvN n) l' kp := by
  obtain ⟨⟨⟨h1, h2, h3⟩, h4, h5, h6⟩, h7, h8, h9⟩ := h
  refine ⟨⟨⟨zgS_80 .., zgS_82 .., by rw [zgS_81]; exact h3⟩, by unfold zsvN; split <;> omega, hl, h6⟩, hs, ?_, h9⟩
  rw [zgS_2]
  exact zsvP_inv (I := fun s => zWF s ∧ zXI s) (fun s s' q r => ⟨zWF_ext q r.1, zXI_ext q r.2⟩) h4 h8 h7
theorem zIM_undo {M : ZM} {n l kp : Nat} (h : zIM M (n + 1) l kp) : zIM (zgU M n) n l kp := by
  obtain ⟨⟨⟨h1, h2, h3⟩, h4, h5, h6⟩, h7, h8, h9⟩ := h
  unfold zgU
  refine ⟨⟨⟨?_, ?_, ?_⟩, by omega, h5, h6⟩, ?_, ?_, ?_⟩ <;> simp (disch := omega) only [zms_s, zms_n, upd_s, upd_n]
  · exact h2
  · exact h3
  · exact h8 n (by omega)
  · exact fun k hk => h8 k (by omega)
  · exact h9
theorem zIM_keep {M : ZM} {n l kp : Nat} (h : zIM M n l kp) : zIM (zgK M) n l 1 := by
  obtain ⟨⟨⟨h1, h2, h3⟩, h4, h5, h6⟩, h7, h8, h9⟩ := h
  unfold zgK
  refine ⟨⟨⟨?_, ?_, ?_⟩, h4, h5, Nat.le_refl _⟩, ?_, ?_, ?_⟩ <;> simp (disch := omega) only [zms_s, zms_n, upd_s, upd_n]
  · exact h1
  · exact h2
  · exact h7
  · exact h8
  · exact fun _ => h7
theorem zIM_append {M : ZM} {n l kp : Nat} (c : Int32) (hl : l < 60) (h : zIM M n l kp) : zIM (zgA M l c) n (l + 1) kp := by
  obtain ⟨⟨⟨h1, h2, h3⟩, h4, h5, h6⟩, h7, h8, h9⟩ := h
  unfold zgA
  refine ⟨⟨⟨?_, ?_, ?_⟩, h4, hl, h6⟩, ?_, ?_, ?_⟩ <;> simp (disch := omega) only [zms_s, zms_n, upd_s, upd_n]
  · exact h1
  · exact h3
  · exact h7
  · exact h8
  · exact h9
theorem zIM_clear {M : ZM} {n l kp : Nat} (h : zIM M n l kp) : zIM (zgC M) n 0 kp := by
  obtain ⟨⟨⟨h1, h2, h3⟩, h4, h5, h6⟩, h7, h8, h9⟩ := h
  unfold zgC
  refine ⟨⟨⟨?_, ?_, ?_⟩, h4, Nat.zero_le _, h6⟩, ?_, ?_, ?_⟩ <;> simp (disch := omega) only [zms_s, zms_n, upd_s, upd_n]
  · exact h1
  · exact h3
  · exact h7
  · exact h8
  · exact h9
