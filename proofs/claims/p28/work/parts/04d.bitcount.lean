def js (k : Int32) (x : Int64) : Int64 := (x.toUInt64 >>> (k.toInt64.toUInt64 &&& Int64.toUInt64 63)).toInt64
def jC1 (x : Int64) : Int64 := x - (js 1 x &&& 6148914691236517205)
def jC2 (a : Int64) : Int64 := (a &&& 3689348814741910323) + (js (nI 2) a &&& 3689348814741910323)
def jC3 (b : Int64) : Int64 := (b + js (nI 4) b) &&& 1085102592571150095
def jC4 (k : Int32) (c : Int64) : Int64 := c + js k c
def jC (x : Int64) : Int32 := (jC4 (nI 32) (jC4 (nI 16) (jC4 (nI 8) (jC3 (jC2 (jC1 x)))))).toInt32 &&& nI 127
theorem s_bitCount0 {σ : xS} {x : Int64} : xC1 mJ13_bitCount_95d88 [.long x] σ = some (.inl (some (.int (jC x))), σ) := by
  simp only [e_J13_bitCount_95d88, r_J13_bitCount_95d88_0, r_J13_bitCount_95d88_1, r_J13_bitCount_95d88_2, r_J13_bitCount_95d88_3, r_J13_bitCount_95d88_4, r_J13_bitCount_95d88_7, r_J13_bitCount_95d88_8, r_J13_bitCount_95d88_9, r_J13_bitCount_95d88_10, r_J13_bitCount_95d88_11, r_J13_bitCount_95d88_14, r_J13_bitCount_95d88_15, r_J13_bitCount_95d88_16, r_J13_bitCount_95d88_17, r_J13_bitCount_95d88_18, r_J13_bitCount_95d88_21, r_J13_bitCount_95d88_22, r_J13_bitCount_95d88_23, r_J13_bitCount_95d88_24, r_J13_bitCount_95d88_25, r_J13_bitCount_95d88_26, r_J13_bitCount_95d88_27, r_J13_bitCount_95d88_28, r_J13_bitCount_95d88_29, r_J13_bitCount_95d88_32, r_J13_bitCount_95d88_33, r_J13_bitCount_95d88_34, r_J13_bitCount_95d88_35, r_J13_bitCount_95d88_36, r_J13_bitCount_95d88_38, r_J13_bitCount_95d88_39, r_J13_bitCount_95d88_40, r_J13_bitCount_95d88_41, r_J13_bitCount_95d88_42, r_J13_bitCount_95d88_43, r_J13_bitCount_95d88_45, r_J13_bitCount_95d88_46, r_J13_bitCount_95d88_47, r_J13_bitCount_95d88_48, r_J13_bitCount_95d88_49, r_J13_bitCount_95d88_50, r_J13_bitCount_95d88_52, r_J13_bitCount_95d88_53, r_J13_bitCount_95d88_54, r_J13_bitCount_95d88_55, r_J13_bitCount_95d88_56, r_J13_bitCount_95d88_57, r_J13_bitCount_95d88_59, r_J13_bitCount_95d88_60, lg0, lg1, lg2, lg3, lg4, lg5, lg6, lg7, lg8, lg9, lg10, lg11, lg12, lg13, lg14, lg15, lg16, lg17, lg18, lg19, lg20, lg21, lg22, lg23, lg24, ls0, ls1, ls2, ls3, ls4, ls5, ls6, ls7, ls8, ls9, ls10, ls11, ls12, ls13, ls14, ls15, ls16, ls17, ls18, ls19, ls20, ls21, ls22, ls23, ls24, lw0, lw1, lw2, lw3, lw4, lw5, lw6, lw7, lw8, lw9, lw10, lw11, lw13, lw14, lw15, lw16, lw17, lw18, lw19, lw20, lw21, lw22, lw23, lw24, lk0, lkI, lkA, lkL, lkD, lkF, gI1, gL1, gF1, gD1, gA1, xw0, xwI, xwA, xwL, xwD, xwF, vtS, vtN, Option.bind_some, Option.bind_none, nZ0, nZ1, zr0, zr1, zr10, zr01, true_or, or_true, if_true, if_false, yC_s, yV_s, Nat.reduceAdd, Nat.reduceLeDiff, Nat.zero_le]
  rfl
def nL (x : Int64) : Nat := x.toBitVec.toNat
theorem nL_js (k : Int32) (j : Nat) (x : Int64) (h : ((k.toInt64.toUInt64 &&& Int64.toUInt64 63).toBitVec % 64).toNat = j) : nL (js k x) = nL x / 2 ^ j := by
  show (x.toBitVec >>> ((k.toInt64.toUInt64 &&& Int64.toUInt64 63).toBitVec % 64)).toNat = _
  rw [BitVec.ushiftRight_eq', BitVec.toNat_ushiftRight, h, Nat.shiftRight_eq_div_pow]
  rfl
theorem nL_and (x y : Int64) : nL (x &&& y) = nL x &&& nL y := BitVec.toNat_and ..
theorem nL_add (x y : Int64) : nL (x + y) = (nL x + nL y) % 2 ^ 64 := BitVec.toNat_add ..
theorem nL_sub (x y : Int64) (h : nL y ≤ nL x) : nL (x - y) = nL x - nL y := BitVec.toNat_sub_of_le h
theorem nL_lt (x : Int64) : nL x < 2 ^ 64 := x.toBitVec.isLt
theorem nL_1 : nL 6148914691236517205 = mk8 0x55 8 := by decide +kernel
theorem nL_2 : nL 3689348814741910323 = mk8 0x33 8 := by decide +kernel
theorem nL_3 : nL 1085102592571150095 = mk8 0x0f 8 := by decide +kernel
theorem nL_tb (x : Int64) : cnt (tb x) 64 = cnt (fun i => (nL x).testBit i) 64 := rfl
theorem V_lt : ∀ L : List Nat, (∀ l ∈ L, l < 256) → V L < 256 ^ L.length
  | [], _ => Nat.one_pos
  | l :: t, h => by
    have h1 := V_lt t (fun x hx => h x (List.mem_cons_of_mem _ hx))
    have h2 := h l List.mem_cons_self
    show V t * 256 + l < 256 ^ (t.length + 1)
    rw [Nat.pow_succ]
    omega
theorem jC3_n (x : Int64) : nL (jC3 (jC2 (jC1 x))) = V ((lan (nL x) 8).map (fun l => p3 (p2 (p1 l)))) := by
  have hX := lan_V 8 (nL x) (nL_lt x)
  have hL := lan_lt 8 (nL x)
  have hn := lan_len 8 (nL x)
  have h1 := V_c1 (lan (nL x) 8) hL
  rw [hn, hX] at h1
  have e1 : nL (jC1 x) = V ((lan (nL x) 8).map p1) := by
    rw [← h1.1]
    unfold jC1 c1
    have e : nL (js 1 x &&& 6148914691236517205) = (nL x / 2) &&& mk8 0x55 8 := by
      rw [nL_and, nL_js 1 1 x (by decide +kernel), nL_1]
    rw [nL_sub _ _ (by rw [e]; exact h1.2), e]
  have hp1 : ∀ l ∈ (lan (nL x) 8).map p1, l < 256 := fun l hl => by
    obtain ⟨a, ha, rfl⟩ := List.mem_map.mp hl
    exact q1b a (hL a ha)
  have h2 := V_c2 _ hp1
  rw [List.length_map, hn] at h2
  have hp2 : ∀ l ∈ ((lan (nL x) 8).map p1).map p2, l < 69 ∧ l % 16 < 5 := fun l hl => by
    obtain ⟨a, ha, rfl⟩ := List.mem_map.mp hl
    obtain ⟨a2, ha2, rfl⟩ := List.mem_map.mp ha
    exact q5 a2 (hL a2 ha2)
  have b2 := V_lt _ (fun l hl => Nat.lt_trans (hp2 l hl).1 (by decide))
  rw [List.length_map, List.length_map, hn] at b2
  have e2 : nL (jC2 (jC1 x)) = V (((lan (nL x) 8).map p1).map p2) := by
    rw [← h2]
    unfold jC2 c2
    rw [nL_add, nL_and, nL_and, nL_js (nI 2) 2 _ (by decide +kernel), nL_2, e1]
    refine Nat.mod_eq_of_lt ?_
    have h3 : c2 8 (V ((lan (nL x) 8).map p1)) < 256 ^ 8 := by rw [h2]; exact b2
    exact h3
  have h3 := V_c3 _ hp2
  rw [List.length_map, List.length_map, hn] at h3
  have e3 : nL (jC3 (jC2 (jC1 x))) = V ((((lan (nL x) 8).map p1).map p2).map p3) := by
    rw [← h3]
    unfold jC3 c3
    rw [nL_and, nL_add, nL_js (nI 4) 4 _ (by decide +kernel), nL_3, e2]
    congr 1
    refine Nat.mod_eq_of_lt ?_
    have b3 : V (((lan (nL x) 8).map p1).map p2) < 2 ^ 63 := by
      have key : ∀ L : List Nat, (∀ l ∈ L, l < 128) → 2 * V L < 256 ^ L.length := by
        intro L
        induction L with
        | nil => intro _; decide
        | cons l t ih =>
          intro hl
          have := ih (fun x hx => hl x (List.mem_cons_of_mem _ hx))
          have h9 := hl l List.mem_cons_self
          show 2 * (V t * 256 + l) < 256 ^ (t.length + 1)
          rw [Nat.pow_succ]
          omega
      have h9 := key _ (fun l hl => Nat.lt_trans (hp2 l hl).1 (by decide))
      rw [List.length_map, List.length_map, hn] at h9
      omega
    omega
  rw [e3, List.map_map, List.map_map]
  rfl
theorem nL_jC4 (k : Int32) (j : Nat) (x : Int64) (h : ((k.toInt64.toUInt64 &&& Int64.toUInt64 63).toBitVec % 64).toNat = j) : nL (jC4 k x) = (nL x + nL x / 2 ^ j) % 2 ^ 64 := by
  unfold jC4
  rw [nL_add, nL_js k j x h]
theorem jD1 (v0 v1 v2 v3 v4 v5 v6 v7 : Nat) (g0 : v0 ≤ 8) (g1 : v1 ≤ 8) (g2 : v2 ≤ 8) (g3 : v3 ≤ 8) (g4 : v4 ≤ 8) (g5 : v5 ≤ 8) (g6 : v6 ≤ 8) (g7 : v7 ≤ 8) (A : Nat)
    (hA : A = v0 + 256 * (v1 + 256 * (v2 + 256 * (v3 + 256 * (v4 + 256 * (v5 + 256 * (v6 + 256 * v7))))))) :
    (A + A / 2 ^ 8) % 2 ^ 64 = (v0+v1) + 256 * ((v1+v2) + 256 * ((v2+v3) + 256 * ((v3+v4) + 256 * ((v4+v5) + 256 * ((v5+v6) + 256 * ((v6+v7) + 256 * v7)))))) := by
  have e : A / 2 ^ 8 = v1 + 256 * (v2 + 256 * (v3 + 256 * (v4 + 256 * (v5 + 256 * (v6 + 256 * v7))))) := by
    rw [show A = (v0) + 2 ^ 8 * (v1 + 256 * (v2 + 256 * (v3 + 256 * (v4 + 256 * (v5 + 256 * (v6 + 256 * v7)))))) from by omega, Nat.add_mul_div_left _ _ (by decide), Nat.div_eq_of_lt (by omega), Nat.zero_add]
  rw [e, Nat.mod_eq_of_lt (b := 2 ^ 64) (by omega)]
  clear e
  omega
theorem jD2 (w0 w1 w2 w3 w4 w5 w6 w7 : Nat) (g0 : w0 ≤ 16) (g1 : w1 ≤ 16) (g2 : w2 ≤ 16) (g3 : w3 ≤ 16) (g4 : w4 ≤ 16) (g5 : w5 ≤ 16) (g6 : w6 ≤ 16) (g7 : w7 ≤ 16) (A : Nat)
    (hA : A = w0 + 256 * (w1 + 256 * (w2 + 256 * (w3 + 256 * (w4 + 256 * (w5 + 256 * (w6 + 256 * w7))))))) :
    (A + A / 2 ^ 16) % 2 ^ 64 = (w0+w2) + 256 * ((w1+w3) + 256 * ((w2+w4) + 256 * ((w3+w5) + 256 * ((w4+w6) + 256 * ((w5+w7) + 256 * (w6 + 256 * w7)))))) := by
  have e : A / 2 ^ 16 = w2 + 256 * (w3 + 256 * (w4 + 256 * (w5 + 256 * (w6 + 256 * w7)))) := by
    rw [show A = (w0 + 256 * w1) + 2 ^ 16 * (w2 + 256 * (w3 + 256 * (w4 + 256 * (w5 + 256 * (w6 + 256 * w7))))) from by omega, Nat.add_mul_div_left _ _ (by decide), Nat.div_eq_of_lt (by omega), Nat.zero_add]
  rw [e, Nat.mod_eq_of_lt (b := 2 ^ 64) (by omega)]
  clear e
  omega
theorem jD3 (w0 w1 w2 w3 w4 w5 w6 w7 : Nat) (g0 : w0 ≤ 32) (g1 : w1 ≤ 32) (g2 : w2 ≤ 32) (g3 : w3 ≤ 32) (g4 : w4 ≤ 32) (g5 : w5 ≤ 32) (g6 : w6 ≤ 32) (g7 : w7 ≤ 32) (A : Nat)
    (hA : A = w0 + 256 * (w1 + 256 * (w2 + 256 * (w3 + 256 * (w4 + 256 * (w5 + 256 * (w6 + 256 * w7))))))) :
    (A + A / 2 ^ 32) % 2 ^ 64 % 128 = (w0 + w4) % 128 := by
  have e : A / 2 ^ 32 = w4 + 256 * (w5 + 256 * (w6 + 256 * w7)) := by
    rw [show A = (w0 + 256 * (w1 + 256 * (w2 + 256 * w3))) + 2 ^ 32 * (w4 + 256 * (w5 + 256 * (w6 + 256 * w7))) from by omega, Nat.add_mul_div_left _ _ (by decide), Nat.div_eq_of_lt (by omega), Nat.zero_add]
  rw [e, Nat.mod_eq_of_lt (b := 2 ^ 64) (by omega)]
  clear e
  rw [show A + (w4 + 256 * (w5 + 256 * (w6 + 256 * w7))) = (w0 + w4) + 128 * (2 * ((w1+w5) + 256 * ((w2 + w6) + 256 * ((w3 + w7) + 256 * (w4 + 256 * (w5 + 256 * (w6 + 256 * w7))))))) from by omega, Nat.add_mul_mod_self_left]
theorem jC_cnt (x : Int64) : jC x = nI (cnt (tb x) 64) := by
  have h3 := jC3_n x
  have hc := lan_cnt 8 (nL x)
  have hL := lan_lt 8 (nL x)
  rw [nL_tb, ← hc]
  have h7 : ∀ (f : Int64), f.toInt32 &&& nI 127 = nI (nL f % 128) := by
    intro f
    rw [pk_and _ 7 (by decide +kernel)]
    congr 1
    show (f.toBitVec.signExtend 32).toNat % 2 ^ 7 = _
    rw [BitVec.signExtend_eq_setWidth_of_le _ (by decide), BitVec.toNat_setWidth]
    show nL f % 2 ^ 32 % 2 ^ 7 = _
    omega
  unfold jC
  rw [h7, nL_jC4 (nI 32) 32 _ (by decide +kernel), nL_jC4 (nI 16) 16 _ (by decide +kernel), nL_jC4 (nI 8) 8 _ (by decide +kernel), h3]
  congr 1
  simp only [lan, List.map_cons, List.map_nil, List.sum_cons, List.sum_nil, V] at hL ⊢
  have b : ∀ l, l < 256 → p3 (p2 (p1 l)) ≤ 8 := q6
  have g : ∀ X : Nat, p3 (p2 (p1 (X % 256))) ≤ 8 := fun X => b _ (Nat.mod_lt _ (by decide))
  have g0 := g (nL x)
  have g1 := g (nL x / 256)
  have g2 := g (nL x / 256 / 256)
  have g3 := g (nL x / 256 / 256 / 256)
  have g4 := g (nL x / 256 / 256 / 256 / 256)
  have g5 := g (nL x / 256 / 256 / 256 / 256 / 256)
  have g6 := g (nL x / 256 / 256 / 256 / 256 / 256 / 256)
  have g7 := g (nL x / 256 / 256 / 256 / 256 / 256 / 256 / 256)
  generalize p3 (p2 (p1 (nL x % 256))) = v0 at *
  generalize p3 (p2 (p1 (nL x / 256 % 256))) = v1 at *
  generalize p3 (p2 (p1 (nL x / 256 / 256 % 256))) = v2 at *
  generalize p3 (p2 (p1 (nL x / 256 / 256 / 256 % 256))) = v3 at *
  generalize p3 (p2 (p1 (nL x / 256 / 256 / 256 / 256 % 256))) = v4 at *
  generalize p3 (p2 (p1 (nL x / 256 / 256 / 256 / 256 / 256 % 256))) = v5 at *
  generalize p3 (p2 (p1 (nL x / 256 / 256 / 256 / 256 / 256 / 256 % 256))) = v6 at *
  generalize p3 (p2 (p1 (nL x / 256 / 256 / 256 / 256 / 256 / 256 / 256 % 256))) = v7 at *
  clear hL h3 hc b g h7
  rw [jD1 v0 v1 v2 v3 v4 v5 v6 v7 g0 g1 g2 g3 g4 g5 g6 g7 _ (by omega),
    jD2 _ _ _ _ _ _ _ _ (by omega) (by omega) (by omega) (by omega) (by omega) (by omega) (by omega) (by omega) _ rfl,
    jD3 _ _ _ _ _ _ _ _ (by omega) (by omega) (by omega) (by omega) (by omega) (by omega) (by omega) (by omega) _ rfl]
  omega
/-- Long.bitCount -/
theorem s_bitCount {σ : xS} {x : Int64} : xC1 mJ13_bitCount_95d88 [.long x] σ = some (.inl (some (.int (nI (cnt (tb x) 64)))), σ) := by
  rw [s_bitCount0, jC_cnt]
