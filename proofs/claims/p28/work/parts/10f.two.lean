/-! ===== two objects: what is said of the one at place 0 holds of the one at place 70 ===== -/
theorem rnV_rn (v : Value) : rnV (rnV v) = v := by
  cases v <;> first | rfl | (show Value.ref (zsw (zsw _)) = _; rw [zsw_sw])
theorem rnT_rn (l : List Value) : rnT (rnT l) = l := by
  unfold rnT
  rw [List.map_map]
  refine Eq.trans (List.map_congr_left (g := id) (fun v _ => rnV_rn v)) (List.map_id l)
theorem rnC_rn (c : xC) : rnC (rnC c) = c := by
  cases c with
  | inr o =>
    show Sum.inr (o.1, rnT (rnT o.2)) = _
    rw [rnT_rn]
  | inl q =>
    obtain ⟨t, n, f | f | f | f | f⟩ := q
    · rfl
    · rfl
    · rfl
    · rfl
    · show (Sum.inl (t, n, Sum.inr (Sum.inr (Sum.inr (Sum.inr (fun j => ((f j).map zsw).map zsw))))) : xC) = _
      have : (fun j => ((f j).map zsw).map zsw) = f := funext (fun j => by
        cases f j with
        | none => rfl
        | some k => show some (zsw (zsw k)) = _; rw [zsw_sw])
      rw [this]
theorem zhc_lo (C : ZC) (M M' : ZM) (e e' : ZE) {q : Nat} (h : q < 70) : zhc C M e q = zhc C M' e' q := by
  unfold zhc
  split
  · rfl
  · split
    · rfl
    · split
      · rfl
      · split
        · rfl
        · rfl
theorem zhc_hi (C : ZC) (M : ZM) (e : ZE) {q : Nat} (h : 70 ≤ q) : zhc C M e q = e.2 q := by
  unfold zhc
  rw [if_neg (by omega), if_neg (by omega), if_neg (by omega), if_neg (by omega), if_neg (by omega)]
theorem zhc_some (C : ZC) (M : ZM) (e : ZE) {q : Nat} (h : q < 70) : ∃ c, zhc C M e q = some c ∧ ∀ x, c ≠ .inl (9, x) := by
  have hp : ∀ i P r, ∀ x, zpc i P r ≠ .inl (9, x) := by
    intro i P r x hx
    match r, hx with
    | 0, hx => cases hx
    | 1, hx => cases hx
    | 2, hx => cases hx
    | 3, hx => cases hx
    | k + 4, hx => cases hx
  have hc : ∀ r, ∀ x, zcc C r ≠ .inl (9, x) := by
    intro r x hx
    match r, hx with
    | 0, hx => cases hx
    | 1, hx => cases hx
    | 2, hx => cases hx
    | 3, hx => cases hx
    | 4, hx => cases hx
    | 5, hx => cases hx
    | k + 6, hx => cases hx
  unfold zhc
  split
  · exact ⟨_, rfl, hc 0⟩
  · split
    · exact ⟨_, rfl, hp _ _ _⟩
    · split
      · exact ⟨_, rfl, hc _⟩
      · split
        · exact ⟨_, rfl, hp _ _ _⟩
        · exact ⟨_, rfl, hc _⟩
def zMz : ZM := fun _ _ => 0
/-- the rest, the second object in it -/
def zer2 (Cq : ZC) (e : ZE) : ZE := (e.1, fun q => if q < 140 then (zhc Cq zMz e (q - 70)).map rnC else e.2 q)
/-- the two objects -/
def zZ (Co Cq : ZC) (e : ZE) : xS := zH Co zMz (zer2 Cq e)
/-- behind the two objects lies the script alone -/
def zEo (e : ZE) (L : Nat) (xs : Nat → Int32) : Prop := e.1.1 = 140 ∧ e.2 = fun q => if q = 1000 then some (.inl (9, L, .inl xs)) else none
theorem zer2_2 (Cq : ZC) (e e' : ZE) (h : e'.2 = e.2) : (zer2 Cq e').2 = (zer2 Cq e).2 := by
  funext q
  show (if q < 140 then (zhc Cq zMz e' (q - 70)).map rnC else e'.2 q) = (if q < 140 then (zhc Cq zMz e (q - 70)).map rnC else e.2 q)
  split
  · rw [zhc_lo Cq zMz zMz e' e (by omega)]
  · rw [h]
theorem zZ_rn {Co Cq : ZC} {e : ZE} {L : Nat} {xs : Nat → Int32} (he : zEo e L xs) : rnS (zZ Cq Co e) = zZ Co Cq e := by
  refine Prod.ext (funext fun k => ?_) rfl
  show (zhc Cq zMz (zer2 Co e) (zsw k)).map rnC = zhc Co zMz (zer2 Cq e) k
  by_cases h1 : k < 70
  · have hz : zsw k = k + 70 := if_pos h1
    rw [hz, zhc_hi _ _ _ (by omega)]
    show (if k + 70 < 140 then (zhc Co zMz e (k + 70 - 70)).map rnC else e.2 (k + 70)).map rnC = _
    rw [if_pos (by omega), Nat.add_sub_cancel, zhc_lo Co zMz zMz (zer2 Cq e) e h1]
    cases zhc Co zMz e k with
    | none => rfl
    | some c => show some (rnC (rnC c)) = _; rw [rnC_rn]
  · by_cases h2 : k < 140
    · have hz : zsw k = k - 70 := by unfold zsw; rw [if_neg h1, if_pos h2]
      rw [hz, zhc_hi Co _ _ (by omega), zhc_lo Cq zMz zMz (zer2 Co e) e (by omega)]
      show _ = (if k < 140 then (zhc Cq zMz e (k - 70)).map rnC else e.2 k)
      rw [if_pos h2]
    · rw [zsw_big (by omega), zhc_hi _ _ _ (by omega), zhc_hi _ _ _ (by omega)]
      show (if k < 140 then _ else e.2 k).map rnC = (if k < 140 then _ else e.2 k)
      rw [if_neg h2, if_neg h2, he.2]
      dsimp only
      split <;> rfl
theorem rnC_9 {c : xC} (h : ∀ x, c ≠ .inl (9, x)) : ∀ x, rnC c ≠ .inl (9, x) := by
  intro x hx
  have := congrArg rnC hx
  rw [rnC_rn] at this
  obtain ⟨n, f | f | f | f | f⟩ := x <;> exact h _ this
theorem zZ_WF {Co Cq : ZC} {e : ZE} {L : Nat} {xs : Nat → Int32} (he : zEo e L xs) : xWF (zZ Co Cq e) := by
  have hn : (zZ Co Cq e).2.1 = 140 := he.1
  refine ⟨by omega, fun i hi => ?_, fun i c hi hc => ?_⟩
  · rw [hn] at hi
    show ∃ c, zhc Co zMz (zer2 Cq e) i = some c ∧ _
    by_cases h1 : i < 70
    · exact zhc_some _ _ _ h1
    · rw [zhc_hi _ _ _ (by omega)]
      show ∃ c, (if i < 140 then (zhc Cq zMz e (i - 70)).map rnC else e.2 i) = some c ∧ _
      rw [if_pos hi]
      obtain ⟨c, h2, h3⟩ := zhc_some Cq zMz e (q := i - 70) (by omega)
      exact ⟨rnC c, by rw [h2]; rfl, rnC_9 h3⟩
  · rw [hn] at hi
    change zhc Co zMz (zer2 Cq e) i = some c at hc
    rw [zhc_hi _ _ _ (by omega)] at hc
    change (if i < 140 then _ else e.2 i) = some c at hc
    rw [if_neg (by omega), he.2] at hc
    dsimp only at hc
    split at hc
    · next h => exact ⟨h, L, xs, (Option.some.inj hc).symm⟩
    · cases hc
theorem zE_Eo {e e' : ZE} {k L : Nat} {xs : Nat → Int32} (he : zEo e L xs) (h : zE e e' k) : zEo e' L xs := ⟨h.2.1.trans he.1, h.1.trans he.2⟩
section Z10F
variable {ν k : Nat} {a : List Value} {M M' : ZM} {v : Value} {Co Cq : ZC} {e : ZE} {L : Nat} {xs : Nat → Int32}
/-- of the first object -/
theorem zT_o (h : zC ν a k M v M') (hK : zKR Co M) : ∃ Co' e', xC1 ν (.ref 0 :: a) (zZ Co Cq e) = some (.inl (some v), zZ Co' Cq e') ∧ zKR Co' M' ∧ zE e e' k := by
  obtain ⟨C', e'', q, k1, E1, E2, E3, E4⟩ := h Co (zer2 Cq e) hK
  have hz : zH C' M' e'' = zZ C' Cq (e''.1, e.2) := by
    have h2 := zer2_2 Cq e (e''.1, e.2) rfl
    show zH C' zMz e'' = zH C' zMz (zer2 Cq (e''.1, e.2))
    have : e'' = zer2 Cq (e''.1, e.2) := Prod.ext rfl (E1.trans h2.symm)
    rw [← this]
  rw [hz] at q
  exact ⟨C', (e''.1, e.2), q, k1, rfl, E2, E3, E4⟩
/-- of the second -/
theorem zT_q (h : zC ν a k M v M') (hK : zKR Cq M) (he : zEo e L xs) (ha : rnT a = a) (hv : rnV v = v) : ∃ Cq' e', xC1 ν (.ref 70 :: a) (zZ Co Cq e) = some (.inl (some v), zZ Co Cq' e') ∧ zKR Cq' M' ∧ zE e e' k := by
  obtain ⟨C', e', q, k1, E1⟩ := zT_o (Co := Cq) (Cq := Co) (e := e) h hK
  refine ⟨C', e', ?_, k1, E1⟩
  have h1 := xC1_r (zZ_WF he) (by show 140 ≤ e.1.1; rw [he.1]; exact Nat.le_refl _) q
  rw [zZ_rn he] at h1
  have h2 : rnT (.ref 0 :: a) = .ref 70 :: a := by
    show Value.ref (zsw 0) :: rnT a = _
    rw [ha]; rfl
  rw [h2] at h1
  rw [h1]
  show some (Sum.inl (some (rnV v)), rnS (zZ C' Co e')) = _
  rw [hv, zZ_rn (zE_Eo he E1)]
end Z10F
section Z10F2
variable {M : ZM} {n l kp : Nat}
-- what is looked at
theorem o_calm (hI : zIM M n l kp) : zC mX6_calm [] 0 M (.int (nI (zca (M 0)))) M := fun C e h =>
  ⟨C, e, k_calm (zKR_R h).1 (zKR_R h).2, h, zE_rf e 0⟩
theorem o_best {k : Nat} (hk : k < 3) : zC mL_best [.int (nI k)] 0 M (.int (zbo k (M 0) 4).1) M := fun C e h => by
  obtain ⟨C', q, k1⟩ := l_best (e := e) h hk
  exact ⟨C', e, q, k1, zE_rf e 0⟩
theorem o_count {w : Nat} (hw : w < 12) : zC mL_count [.int (nI w)] 0 M (.int (zvN (M 0) (M 8 0) w)) M := fun C e h => by
  obtain ⟨C', q, k1⟩ := l_count (e := e) h hw
  exact ⟨C', e, q, k1, zE_rf e 0⟩
theorem o_digest (hM : zok M n l kp) : zC mX6_digest [] 0 M (.long (zhD (M 0) (M 8 0) (nI kp) (M 4) l)) M := fun C e h => by
  obtain ⟨C', q, k1⟩ := l_digest (e := e) hM h
  exact ⟨C', e, q, k1, zE_rf e 0⟩
end Z10F2
