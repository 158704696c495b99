/-! ===== the model's digest, its end ===== -/
section Z7K
variable {C : ZC} {B : ZM} {e : ZE} {σ : xS}
theorem zDL_lab {B M : ZM} (h : zDJ B M) : zDL B (zms M 5 (fun c => nI (zlo (M 0) c))) := by
  refine ⟨zDJ_set _ h (by omega), ?_⟩
  unfold zLab
  rw [zms_s, zms_n M _ (b := 0) (by omega)]
end Z7K
