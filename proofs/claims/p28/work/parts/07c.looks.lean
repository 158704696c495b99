/-! ===== the model: numbers of cells, lines, skaters, rinks, the state ===== -/
/-- the cells of the rink with a lowest cell -/
noncomputable def zrs (s : Nat → Int32) (c : Nat) : Nat := cnt (fun d => decide (zlo s d = c)) 64
theorem zrt_lab {s : Nat → Int32} {c : Nat} (hc : c < 64) : decide (nI (zlo s c) = nI c) = zrt s c := by
  have h1 := zlo_64 (s := s) (c := c)
  unfold zrt
  cases hi : zic s c with
  | true => simp only [nI_eq (a := zlo s c) (b := c) (by omega) (by omega), Bool.true_and]
  | false =>
    rw [zlo_w hi]
    simp only [Bool.false_and]
    exact decide_eq_false (fun h => by rw [nI_eq (by omega) (by omega)] at h; omega)
theorem zrs_lab (s : Nat → Int32) (c : Nat) (hc : c < 64) : cnt (fun d => decide (nI (zlo s d) = nI c)) 64 = zrs s c :=
  cnt_congr (fun i _ => by
    have h1 := zlo_64 (s := s) (c := i)
    simp only [nI_eq (a := zlo s i) (b := c) (by omega) (by omega)])
noncomputable def zvC (s : Nat → Int32) (c w : Nat) : Int32 := match w with
  | 0 => s c
  | 1 => s (64 + c)
  | 2 => if zic s c = true then nI (zlo s c) else -1
  | 3 => if zic s c = true then nI (zrs s (zlo s c)) else nI 0
  | 4 => nI (zwb s c)
  | _ => zwa s c
def zvL (s : Nat → Int32) (l w : Nat) : Int32 := match w with
  | 0 => s (272 + l)
  | 1 => s (128 + l)
  | _ => nI (zN (zic s (zb1 l)) + zN (zic s (zb2 l)))
noncomputable def zvS (s : Nat → Int32) (k w : Nat) : Int32 := match w with
  | 0 => s (416 + 6 * k)
  | 1 => s (416 + 6 * k + 1)
  | 2 => s (416 + 6 * k + 2)
  | 3 => nI (zoc s k)
  | 4 => nI (zsum (fun c => if zrt s c = true ∧ s (64 + c) = nI k then zrs s c else 0) 64)
  | 5 => nI (cnt (fun c => zrt s c && decide (s (64 + c) = nI k)) 64)
  | 6 => s (416 + 6 * k + 3)
  | 7 => s (416 + 6 * k + 4)
  | _ => s (416 + 6 * k + 5)
noncomputable def zvR (s : Nat → Int32) (c w : Nat) : Int32 := match w with
  | 0 => nI c
  | 1 => nI (zrs s c)
  | _ => s (64 + c)
noncomputable def zvN (s : Nat → Int32) (p : Int32) (w : Nat) : Int32 := match w with
  | 0 => nI (cnt (zic s) 64)
  | 1 => nI (cnt (zrt s) 64)
  | 2 => zjc s 144
  | 3 => nI (cnt (fun c => zrt s c && !decide (s (64 + c) = -1)) 64)
  | 4 => nI (cnt (fun l => decide (s (128 + l) = nI 1)) 144)
  | 5 => s 437
  | 6 => s 438
  | 7 => s 439
  | 8 => s 418 + s 424 + s 430
  | 9 => s 440
  | 10 => nI (zmx (fun c => if zrt s c = true then zrs s c else 0) 64)
  | _ => p
/-- labels are in place -/
def zLab (M : ZM) : Prop := M 5 = fun c => nI (zlo (M 0) c)
section Z7C
variable {C : ZC} {M : ZM} {e : ZE} {σ : xS}
end Z7C
