/-! ===== operations: pay ===== -/
theorem zWF_pay {s : Nat → Int32} {k j : Nat} (hk : k < 3) (h1 : 1 ≤ j) (h9 : j ≤ 99) (hf : ¬ nI 9999 < s 440 + nI j) (hs : zWF s) : zWF (upd (upd s (416 + 6 * k + 2) (s (416 + 6 * k + 2) + nI j)) 440 (s 440 + nI j)) := by
  obtain ⟨p0, p1, p2, w0, w1, w2, w3, w4⟩ := hs.2.2.2
  have h6 : zW6 (upd (upd s (416 + 6 * k + 2) (s (416 + 6 * k + 2) + nI j)) 440 (s 440 + nI j)) := by
    unfold zW6
    rw [upd_n _ _ (by omega), upd_n _ _ (by omega), upd_n _ _ (by omega), upd_n _ _ (by omega), upd_n _ _ (by omega), upd_n _ _ (by omega)]
    exact hs.2.2.1
  rw [w3, nI_add] at hf
  have hle : p0 + p1 + p2 + j ≤ 9999 := Nat.le_of_not_lt (fun q => hf (nI_lt q (by omega)))
  refine zWF_of (fun i hi => by rw [upd_n _ _ (by omega), upd_n _ _ (by omega)]) (fun q hq => ⟨by rw [upd_n _ _ (by omega), upd_n _ _ (by omega)], by rw [upd_n _ _ (by omega), upd_n _ _ (by omega)]⟩) hs h6 ?_
  have hk3 : k = 0 ∨ k = 1 ∨ k = 2 := by omega
  unfold zW7
  rw [upd_s, w3, nI_add]
  rcases hk3 with rfl | rfl | rfl
  · exact ⟨p0 + j, p1, p2, by rw [upd_n _ _ (by omega)]; show upd s 418 (s 418 + nI j) 418 = _; rw [upd_s, w0, nI_add], by rw [upd_n _ _ (by omega), upd_n _ _ (by omega)]; exact w1, by rw [upd_n _ _ (by omega), upd_n _ _ (by omega)]; exact w2, by rw [show p0 + p1 + p2 + j = p0 + j + p1 + p2 by omega], by omega⟩
  · exact ⟨p0, p1 + j, p2, by rw [upd_n _ _ (by omega), upd_n _ _ (by omega)]; exact w0, by rw [upd_n _ _ (by omega)]; show upd s 424 (s 424 + nI j) 424 = _; rw [upd_s, w1, nI_add], by rw [upd_n _ _ (by omega), upd_n _ _ (by omega)]; exact w2, by rw [show p0 + p1 + p2 + j = p0 + (p1 + j) + p2 by omega], by omega⟩
  · exact ⟨p0, p1, p2 + j, by rw [upd_n _ _ (by omega), upd_n _ _ (by omega)]; exact w0, by rw [upd_n _ _ (by omega), upd_n _ _ (by omega)]; exact w1, by rw [upd_n _ _ (by omega)]; show upd s 430 (s 430 + nI j) 430 = _; rw [upd_s, w2, nI_add], by rw [show p0 + p1 + p2 + j = p0 + p1 + (p2 + j) by omega], by omega⟩
