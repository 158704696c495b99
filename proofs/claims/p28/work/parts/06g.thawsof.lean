/-! ===== when a cell is water, when all is calm ===== -/
theorem zth_ic {s : Nat → Int32} {c : Nat} (hc : c < 64) : zic (zth s) c = (zic s c && !ztw s c) := by
  rw [zic_iff hc, zic_iff hc]
  have : zth s c = if ztw s c = true then nI 0 else s c := by
    unfold zth
    rw [upd_n _ _ (by omega)]
    unfold zmk
    rw [if_pos hc]
    simp [hc]
  rw [this]
  cases h : ztw s c with
  | true => simp; decide
  | false => simp
theorem zth_cnt (s : Nat → Int32) : cnt (zic (zth s)) 64 + cnt (ztw s) 64 = cnt (zic s) 64 := by
  have h1 := zc_split (zic s) (ztw s) 64
  have h2 : cnt (zic (zth s)) 64 = cnt (fun i => zic s i && !ztw s i) 64 := cnt_congr (fun i hi => zth_ic hi)
  have h3 : cnt (ztw s) 64 = cnt (fun i => zic s i && ztw s i) 64 := cnt_congr (fun i _ => by
    cases h : ztw s i with
    | true => rw [ztw_ice h]; rfl
    | false => simp)
  omega
/-- behind so many thaws nothing thaws -/
def zcm (s : Nat → Int32) (j : Nat) : Bool := decide (cnt (ztw (thn s j)) 64 = 0)
def zca (s : Nat → Int32) : Nat := zfst (zcm s) 65
theorem zcm_le (s : Nat → Int32) : ∀ j, (∀ i, i < j → zcm s i = false) → cnt (zic (thn s j)) 64 + j ≤ 64
  | 0, _ => cnt_le _ _
  | j + 1, h => by
    have ih := zcm_le s j (fun i hi => h i (by omega))
    have h1 := zth_cnt (thn s j)
    have h2 := h j (by omega)
    unfold zcm at h2
    have h3 : cnt (ztw (thn s j)) 64 ≠ 0 := of_decide_eq_false h2
    show cnt (zic (zth (thn s j))) 64 + (j + 1) ≤ 64
    omega
theorem zca_le (s : Nat → Int32) : zca s ≤ 64 := by
  refine Nat.le_of_not_lt (fun h => ?_)
  have := zcm_le s 65 (fun i hi => zfst_min (zcm s) 65 i (by unfold zca at h; omega))
  omega
theorem zca_p (s : Nat → Int32) : zcm s (zca s) = true := zfst_p (zcm s) 65 (by have := zca_le s; unfold zca at this; omega)
theorem zca_min (s : Nat → Int32) {j : Nat} (h : j < zca s) : zcm s j = false := zfst_min (zcm s) 65 j h
/-- the thaws that are looked at for a cell -/
def zcq (s : Nat → Int32) (c : Nat) (j : Nat) : Bool := zcm s j || !zic (thn s (j + 1)) c
def zcw (s : Nat → Int32) (c : Nat) : Nat := zfst (zcq s c) 65
theorem zcw_le (s : Nat → Int32) (c : Nat) : zcw s c ≤ 64 := by
  have h := zca_le s
  have : zcw s c ≤ zca s := zfst_of (by unfold zcq; rw [zca_p]; rfl)
  omega
theorem zcw_p (s : Nat → Int32) (c : Nat) : zcq s c (zcw s c) = true := zfst_p (zcq s c) 65 (by have := zcw_le s c; unfold zcw at this; omega)
theorem zcw_min {s : Nat → Int32} {c j : Nat} (h : j < zcw s c) : zcm s j = false ∧ zic (thn s (j + 1)) c = true := by
  have := zfst_min (zcq s c) 65 j h
  simpa [zcq] using this
/-- behind how many thaws a cell is water -/
def zwa (s : Nat → Int32) (c : Nat) : Int32 := if zic s c = true then (if zic (thn s (zcw s c + 1)) c = true then -1 else nI (zcw s c + 1)) else nI 0
theorem zcm_t {s : Nat → Int32} {j : Nat} (h : zcm s j = true) : cnt (ztw (thn s j)) 64 = 0 := of_decide_eq_true h
theorem zcm_f {s : Nat → Int32} {j : Nat} (h : zcm s j = false) : 0 < cnt (ztw (thn s j)) 64 := by
  have : cnt (ztw (thn s j)) 64 ≠ 0 := of_decide_eq_false h
  omega
section Z6G
variable {C : ZC} {M : ZM} {e : ZE} {σ : xS}
end Z6G
