/-! ===== the model's counts, copies ===== -/
section Z6B
variable {C : ZC} {M : ZM} {e : ZE} {σ : xS}
/-- the greatest of some numbers -/
def zmx (f : Nat → Nat) : Nat → Nat
  | 0 => 0
  | n + 1 => if zmx f n < f n then f n else zmx f n
theorem zmx_le {f : Nat → Nat} {b : Nat} (h : ∀ i, f i ≤ b) : ∀ n, zmx f n ≤ b
  | 0 => Nat.zero_le _
  | n + 1 => by
    have := zmx_le h n
    have := h n
    simp only [zmx]; split <;> omega
theorem zmx_congr {f g : Nat → Nat} : ∀ {n : Nat}, (∀ i, i < n → f i = g i) → zmx f n = zmx g n
  | 0, _ => rfl
  | n + 1, h => by simp only [zmx]; rw [zmx_congr (fun i hi => h i (by omega)), h n (by omega)]
def zsz (L : Nat → Int32) (c : Nat) : Nat := if L c = nI c then cnt (fun d => decide (L d = nI c)) 64 else 0
theorem zsz_le (L : Nat → Int32) (c : Nat) : zsz L c ≤ 64 := by
  unfold zsz; split
  · exact cnt_le _ _
  · omega
def zsk (L s : Nat → Int32) (v : Int32) (c : Nat) : Nat := if L c = nI c ∧ s (64 + c) = v then cnt (fun d => decide (L d = nI c)) 64 else 0
/-- the lowest cell of the rink of a rank -/
def zrk (p : Nat → Bool) (r : Nat) : Nat := zfst (fun c => p c && decide (cnt p c = r)) 64
theorem zrk_cnt {p : Nat → Bool} {r : Nat} : ∀ k, k ≤ zrk p r → cnt p k ≤ r
  | 0, _ => Nat.zero_le _
  | k + 1, h => by
    have ih := zrk_cnt (p := p) (r := r) k (by omega)
    have hm := zfst_min (fun c => p c && decide (cnt p c = r)) 64 k (by unfold zrk at h; omega)
    simp only [Bool.and_eq_false_iff, decide_eq_false_iff_not] at hm
    simp only [cnt]
    split
    · next hp => rcases hm with hm | hm
                 · rw [hm] at hp; cases hp
                 · omega
    · omega
/-- k numbers of s from the place b on -/
def zfs (b k : Nat) (s P : Nat → Int32) : Nat → Int32 := fun j => if b ≤ j ∧ j < b + k then s (j - b) else P j
theorem zfs_0 (b : Nat) (s P : Nat → Int32) : zfs b 0 s P = P := by
  funext j; unfold zfs; rw [if_neg (by omega)]
theorem zfs_s (b k : Nat) (s P : Nat → Int32) : upd (zfs b k s P) (b + k) (s k) = zfs b (k + 1) s P := by
  funext j; unfold zfs upd
  by_cases h1 : j = b + k
  · subst h1; rw [if_pos rfl, if_pos (by omega), Nat.add_sub_cancel_left]
  · rw [if_neg h1]
    dsimp only
    by_cases h2 : b ≤ j ∧ j < b + k
    · rw [if_pos h2, if_pos (by omega)]
    · rw [if_neg h2, if_neg (by omega)]
end Z6B
