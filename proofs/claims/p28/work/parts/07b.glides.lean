/-! ===== the model: glides, the best glide ===== -/
noncomputable def zgl (k d : Nat) : Nat → (Nat → Int32) → Nat × (Nat → Int32)
  | 0, s => (0, s)
  | n + 1, s => if zba s k d = 0 then ((zgl k d n (zst s k d)).1 + 1, (zgl k d n (zst s k d)).2) else (0, s)
theorem zgl_le (k d : Nat) : ∀ n s, (zgl k d n s).1 ≤ n
  | 0, _ => Nat.le_refl _
  | n + 1, s => by
    simp only [zgl]
    split
    · have := zgl_le k d n (zst s k d); simp only; omega
    · exact Nat.zero_le _
theorem zgl_WF {k d : Nat} (hk : k < 3) (hd : d < 4) : ∀ n s, zWF s → zWF (zgl k d n s).2
  | 0, _, h => h
  | n + 1, s, h => by
    simp only [zgl]
    split
    · exact zgl_WF hk hd n _ (zst_WF hk hd h (by assumption))
    · exact h
def zoc (s : Nat → Int32) (k : Nat) : Nat := cnt (fun c => decide (s (64 + c) = nI k)) 64
noncomputable def zbi (k d : Nat) (h : Int32) : Nat → Nat → (Nat → Int32) → Int32 × Int32 → Int32 × Int32
  | 0, _, _, a => a
  | n + 1, j, s, a => if zba s k d = 0 then zbi k d h n (j + 1) (zst s k d) (if a.1 = -1 ∨ a.2 < nI (zoc (zst s k d) k) - h then (nI (10 * d + j), nI (zoc (zst s k d) k) - h) else a) else a
noncomputable def zbo (k : Nat) (s : Nat → Int32) : Nat → Int32 × Int32
  | 0 => (-1, nI 0)
  | d + 1 => zbi k d (nI (zoc s k)) 8 1 s (zbo k s d)
theorem zms_aside (M : ZM) : zms (zms M 1 (M 0)) 0 (M 0) = zms M 1 (M 0) := by
  have := zms_id (zms M 1 (M 0)) 0
  rwa [zms_n _ _ (by omega)] at this
theorem zba_le (s : Nat → Int32) (k d : Nat) : zba s k d ≤ 4 := by
  unfold zba
  split
  · omega
  · split
    · omega
    · split
      · omega
      · split <;> omega
section Z7B
variable {C : ZC} {M : ZM} {e : ZE} {σ : xS}
end Z7B
