/-! ===== the law and its catchers: rows, by program (wip/tools/gen_law.py) ===== -/
def hl9 (σ : xS) (a : Nat) : Option (Nat × (Nat → Int32)) := match hint σ 0 a with
  | some q => some q
  | none => hint σ 9 a
section Y9
variable {μ pc : Nat} {en : xMe} {ls : xL} {st : List Value} {σ τ : xS}
theorem y_iald9 {a : Nat} {i : Int32} (he : xM[μ]? = some en) (hd : decode en.2.1 pc = .ok (.iaload, 1)) (hk : 3 ≤ en.2.2.2.2.2.2.2) : xR μ pc ls (.int i :: .ref a :: st) σ = (hl9 σ a).bind (fun q => if xin i q.1 = true then xR μ (pc + 1) ls (.int (q.2 i.toNatClampNeg) :: st) σ else none) := by
  rw [y0 he hd]
  show xK μ pc (match hint σ 0 a with
    | some q => if xin i q.1 = true then xnx (pc + 1) ls (.int (q.2 i.toNatClampNeg) :: st) σ else none
    | none => (hint σ 9 a).bind fun q => if 3 ≤ en.2.2.2.2.2.2.2 ∧ xin i q.1 = true then xnx (pc + 1) ls (.int (q.2 i.toNatClampNeg) :: st) σ else none) = _
  unfold hl9
  cases hint σ 0 a with
  | some q => exact yk_if
  | none =>
    cases hint σ 9 a with
    | none => rfl
    | some q =>
      show xK μ pc (if 3 ≤ en.2.2.2.2.2.2.2 ∧ xin i q.1 = true then _ else none) = (if xin i q.1 = true then _ else none)
      by_cases h : xin i q.1 = true
      · rw [if_pos ⟨hk, h⟩, if_pos h]; rfl
      · rw [if_neg (fun g => h g.2), if_neg h]; rfl
theorem y_alen9 {a : Nat} (he : xM[μ]? = some en) (hd : decode en.2.1 pc = .ok (.arraylength, 1)) (hk : 3 ≤ en.2.2.2.2.2.2.2) : xR μ pc ls (.ref a :: st) σ = (hint σ 9 a).bind (fun q => xR μ (pc + 1) ls (.int (nI q.1) :: st) σ) := by
  rw [y0 he hd]
  show xK μ pc ((hint σ 9 a).bind fun q => if 3 ≤ en.2.2.2.2.2.2.2 then xnx (pc + 1) ls (.int (nI q.1) :: st) σ else none) = _
  rw [yk_b]
  congr 1
  funext q
  rw [if_pos hk]
  rfl
theorem y_cL {k ν n p1 p2 p3 p4 : Nat} {f : xMe} {as st0 : List Value} (he : xM[μ]? = some en) (hd : decode en.2.1 pc = .ok (.invokestatic k, 3)) (hq : xfind xCL en.2.2.2.2.1 k = some (11, ν, n, p1, p2, p3, p4)) (hp : xpop n st0 = some (as, st)) (hf : xM[ν]? = some f) (hrm : (f.2.2.2.2.2.1 + 1 ≤ en.2.2.2.2.2.1 ∧ 8 + (f.2.2.1 + 11) + f.2.2.2.2.2.2.1 ≤ en.2.2.2.2.2.2.1)) (hs : (xspr as).length ≤ f.2.2.1) (hk : en.2.2.2.2.2.2.2 ≠ 2) : xR μ pc ls st0 σ = yC (xwid st) (xC1 ν as σ) (fun v τ => xR μ (pc + 3) ls (v.toList ++ st) τ) := by
  rw [y0 he hd]
  show xK μ pc ((xfind xCL en.2.2.2.2.1 k).bind _) = _
  rw [hq]
  show xK μ pc ((xpop n st0).bind _) = _
  rw [hp]
  exact yk_cal hf hrm hs he hk
theorem y_cM {k ν n p1 p2 p3 p4 : Nat} {f : xMe} {as st0 : List Value} (he : xM[μ]? = some en) (hd : decode en.2.1 pc = .ok (.invokestatic k, 3)) (hq : xfind xCL en.2.2.2.2.1 k = some (12, ν, n, p1, p2, p3, p4)) (hp : xpop n st0 = some (as, st)) (hf : xM[ν]? = some f) (hrm : (f.2.2.2.2.2.1 + 1 ≤ en.2.2.2.2.2.1 ∧ 8 + (f.2.2.1 + 11) + f.2.2.2.2.2.2.1 ≤ en.2.2.2.2.2.2.1)) (hs : (xspr as).length ≤ f.2.2.1) (hk : en.2.2.2.2.2.2.2 ≠ 2) (h3 : 3 ≤ en.2.2.2.2.2.2.2) : xR μ pc ls st0 σ = yC (xwid st) (xC1 ν as σ) (fun v τ => xR μ (pc + 3) ls (v.toList ++ st) τ) := by
  rw [y0 he hd]
  show xK μ pc ((xfind xCL en.2.2.2.2.1 k).bind _) = _
  rw [hq]
  show xK μ pc ((xpop n st0).bind _) = _
  rw [hp]
  show xK μ pc (if 3 ≤ en.2.2.2.2.2.2.2 then _ else none) = _
  rw [if_pos h3]
  exact yk_cal hf hrm hs he hk
theorem yk_calT {ν pc2 : Nat} {f : xMe} {as : List Value} (hf : xM[ν]? = some f) (hrm : (f.2.2.2.2.2.1 + 1 ≤ en.2.2.2.2.2.1 ∧ 8 + (f.2.2.1 + 11) + f.2.2.2.2.2.2.1 ≤ en.2.2.2.2.2.2.1)) (hs : (xspr as).length ≤ f.2.2.1) (hw : xwid st ≤ 8) : xK μ pc (xcal en ν as pc2 ls st σ) = (match xC1 ν as σ with
      | none => none
      | some (.inl v, σ2) => xR μ pc2 ls (v.toList ++ st) σ2
      | some (.inr x, σ2) => (match xcat μ pc x ls with
        | some (pc2, l2) => xR μ pc2 l2 [] σ2
        | none => none)) := by
  unfold xcal
  simp only [hf, Option.bind_some]
  rw [if_pos ⟨hw, hrm.1, hrm.2, hs⟩]
  rfl
theorem y_cT {k ν n p1 p2 p3 p4 a ci : Nat} {f : xMe} {r : vw_C} {as as2 st0 : List Value} (he : xM[μ]? = some en) (hd : decode en.2.1 pc = .ok (.invokevirtual k, 3)) (hq : xfind xCL en.2.2.2.2.1 k = some (10, ν, n, p1, p2, p3, p4)) (ha : as = .ref a :: as2) (hp : xpop n st0 = some (as2, .ref a :: st)) (hr : vwCl[ci]? = some r) (hn : r.1 = f.1.cls) (hf : xM[ν]? = some f) (hrm : (f.2.2.2.2.2.1 + 1 ≤ en.2.2.2.2.2.1 ∧ 8 + (f.2.2.1 + 11) + f.2.2.2.2.2.2.1 ≤ en.2.2.2.2.2.2.1)) (hs : (xspr as).length ≤ f.2.2.1) (hw : xwid st ≤ 8) (hc : hcls σ a = some ci) : xR μ pc ls st0 σ = (match xC1 ν as σ with
      | none => none
      | some (.inl v, σ2) => xR μ (pc + 3) ls (v.toList ++ st) σ2
      | some (.inr x, σ2) => (match xcat μ pc x ls with
        | some (pc2, l2) => xR μ pc2 l2 [] σ2
        | none => none)) := by
  subst ha
  rw [y0 he hd]
  show xK μ pc ((xfind xCL en.2.2.2.2.1 k).bind _) = _
  rw [hq]
  show xK μ pc ((xpop n st0).bind _) = _
  rw [hp]
  show xK μ pc ((xM[ν]?).bind fun f => if (hcls σ a).bind (fun c => (vwCl[c]?).map (fun r => r.1)) = some f.1.cls then xcal en ν (.ref a :: as2) (pc + 3) ls st σ else none) = _
  rw [hf, Option.bind_some, ← hn, hc, Option.bind_some, hr, if_pos (show Option.map (fun (r : vw_C) => r.1) (some r) = some r.1 from rfl)]
  exact yk_calT hf hrm hs hw
end Y9
set_option maxRecDepth 100000 in
theorem cl_8_9 : xfind xCL 8 9 = some (10, 114, 3, 757, 758, 759, 22) := rfl
set_option maxRecDepth 100000 in
theorem cl_8_19 : xfind xCL 8 19 = some (10, 100, 2, 698, 699, 700, 22) := rfl
set_option maxRecDepth 100000 in
theorem cl_8_25 : xfind xCL 8 25 = some (10, 102, 2, 709, 710, 711, 22) := rfl
set_option maxRecDepth 100000 in
theorem cl_8_28 : xfind xCL 8 28 = some (10, 104, 2, 718, 719, 720, 22) := rfl
set_option maxRecDepth 100000 in
theorem cl_8_31 : xfind xCL 8 31 = some (10, 119, 3, 775, 776, 777, 22) := rfl
set_option maxRecDepth 100000 in
theorem cl_8_34 : xfind xCL 8 34 = some (10, 121, 4, 782, 783, 784, 22) := rfl
set_option maxRecDepth 100000 in
theorem cl_8_38 : xfind xCL 8 38 = some (10, 127, 2, 806, 807, 808, 22) := rfl
set_option maxRecDepth 100000 in
theorem cl_8_41 : xfind xCL 8 41 = some (10, 124, 2, 794, 795, 796, 22) := rfl
set_option maxRecDepth 100000 in
theorem cl_8_44 : xfind xCL 8 44 = some (10, 81, 1, 521, 522, 523, 22) := rfl
set_option maxRecDepth 100000 in
theorem cl_8_48 : xfind xCL 8 48 = some (10, 129, 2, 813, 814, 815, 22) := rfl
set_option maxRecDepth 100000 in
theorem cl_8_51 : xfind xCL 8 51 = some (10, 110, 1, 740, 741, 742, 22) := rfl
set_option maxRecDepth 100000 in
theorem cl_8_54 : xfind xCL 8 54 = some (10, 83, 0, 596, 597, 598, 22) := rfl
set_option maxRecDepth 100000 in
theorem cl_8_58 : xfind xCL 8 58 = some (10, 90, 0, 628, 629, 630, 22) := rfl
set_option maxRecDepth 100000 in
theorem cl_8_61 : xfind xCL 8 61 = some (10, 92, 0, 651, 652, 653, 22) := rfl
set_option maxRecDepth 100000 in
theorem cl_8_64 : xfind xCL 8 64 = some (10, 134, 1, 834, 835, 836, 22) := rfl
set_option maxRecDepth 100000 in
theorem cl_8_67 : xfind xCL 8 67 = some (10, 131, 4, 821, 822, 823, 22) := rfl
set_option maxRecDepth 100000 in
theorem cl_8_70 : xfind xCL 8 70 = some (10, 95, 1, 664, 665, 666, 22) := rfl
set_option maxRecDepth 100000 in
theorem cl_8_73 : xfind xCL 8 73 = some (1, 98, 0, 690, 691, 692, 22) := rfl
set_option maxRecDepth 100000 in
theorem cl_8_76 : xfind xCL 8 76 = some (11, 99, 3, 695, 696, 21, 0) := rfl
set_option maxRecDepth 100000 in
theorem cl_8_81 : xfind xCL 8 81 = some (11, 101, 3, 706, 707, 21, 0) := rfl
set_option maxRecDepth 100000 in
theorem cl_8_83 : xfind xCL 8 83 = some (11, 103, 3, 715, 716, 21, 0) := rfl
set_option maxRecDepth 100000 in
theorem cl_8_85 : xfind xCL 8 85 = some (11, 91, 1, 648, 649, 21, 0) := rfl
set_option maxRecDepth 100000 in
theorem cl_8_88 : xfind xCL 8 88 = some (1, 108, 0, 733, 734, 735, 22) := rfl
set_option maxRecDepth 100000 in
theorem cl_8_91 : xfind xCL 8 91 = some (11, 89, 1, 624, 625, 21, 0) := rfl
set_option maxRecDepth 100000 in
theorem cl_8_93 : xfind xCL 8 93 = some (1, 6, 0, 204, 205, 206, 22) := rfl
set_option maxRecDepth 100000 in
theorem cl_8_96 : xfind xCL 8 96 = some (11, 109, 2, 737, 738, 21, 0) := rfl
set_option maxRecDepth 100000 in
theorem cl_8_99 : xfind xCL 8 99 = some (1, 7, 0, 208, 209, 210, 22) := rfl
set_option maxRecDepth 100000 in
theorem cl_8_102 : xfind xCL 8 102 = some (11, 82, 1, 593, 594, 21, 0) := rfl
set_option maxRecDepth 100000 in
theorem cl_8_104 : xfind xCL 8 104 = some (11, 113, 4, 754, 755, 21, 0) := rfl
set_option maxRecDepth 100000 in
theorem cl_8_107 : xfind xCL 8 107 = some (11, 118, 4, 772, 773, 21, 0) := rfl
set_option maxRecDepth 100000 in
theorem cl_8_110 : xfind xCL 8 110 = some (11, 120, 5, 779, 780, 21, 0) := rfl
set_option maxRecDepth 100000 in
theorem cl_8_113 : xfind xCL 8 113 = some (11, 80, 2, 517, 518, 21, 0) := rfl
set_option maxRecDepth 100000 in
theorem cl_8_115 : xfind xCL 8 115 = some (11, 123, 3, 791, 792, 21, 0) := rfl
set_option maxRecDepth 100000 in
theorem cl_8_117 : xfind xCL 8 117 = some (11, 126, 3, 803, 804, 21, 0) := rfl
set_option maxRecDepth 100000 in
theorem cl_8_119 : xfind xCL 8 119 = some (11, 128, 3, 810, 811, 21, 0) := rfl
set_option maxRecDepth 100000 in
theorem cl_8_121 : xfind xCL 8 121 = some (11, 130, 5, 818, 819, 21, 0) := rfl
set_option maxRecDepth 100000 in
theorem cl_8_123 : xfind xCL 8 123 = some (1, 11, 0, 222, 223, 224, 22) := rfl
set_option maxRecDepth 100000 in
theorem cl_8_126 : xfind xCL 8 126 = some (1, 74, 0, 826, 493, 494, 22) := rfl
set_option maxRecDepth 100000 in
theorem cl_8_130 : xfind xCL 8 130 = some (1, 77, 0, 827, 505, 506, 22) := rfl
set_option maxRecDepth 100000 in
theorem cl_8_134 : xfind xCL 8 134 = some (11, 94, 2, 660, 661, 21, 0) := rfl
set_option maxRecDepth 100000 in
theorem cl_8_136 : xfind xCL 8 136 = some (11, 133, 2, 831, 832, 21, 0) := rfl
set_option maxRecDepth 100000 in
theorem cl_8_138 : xfind xCL 8 138 = some (2, 0, 0, 40, 41, 22, 0) := rfl
set_option maxRecDepth 100000 in
theorem cl_8_139 : xfind xCL 8 139 = some (1, 18, 0, 248, 249, 250, 22) := rfl
set_option maxRecDepth 100000 in
theorem cl_8_143 : xfind xCL 8 143 = some (12, 117, 1, 769, 770, 21, 0) := rfl
set_option maxRecDepth 100000 in
theorem cl_8_147 : xfind xCL 8 147 = some (12, 79, 2, 512, 513, 21, 0) := rfl
set_option maxRecDepth 100000 in
theorem cl_8_150 : xfind xCL 8 150 = some (12, 97, 2, 687, 688, 21, 0) := rfl
set_option maxRecDepth 100000 in
theorem cl_8_154 : xfind xCL 8 154 = some (12, 132, 2, 828, 829, 21, 0) := rfl
theorem kl_8_7 : xfind xKL 8 7 = some (.int (47287), 515) := rfl
theorem kl_8_8 : xfind xKL 8 8 = some (.int (2147483647), 516) := rfl
theorem kl_8_153 : xfind xKL 8 153 = some (.int (100000), 838) := rfl
theorem nl_8_10 : xfind xNL 8 10 = some (5, 38) := by decide +kernel
theorem r_L_cell_0 {ls : xL} {st : List Value} {σ : xS}  : xR mL_cell 0 ls (st) σ = gI (lget ls 1) (fun x => xR mL_cell 1 ls (.int x :: st) σ) := y_iload_n xe_L_cell dL_cell_0
theorem r_L_cell_1 {ls : xL} {st : List Value} {σ : xS}  : xR mL_cell 1 ls (st) σ = gA (lget ls 0) (fun x => xR mL_cell 2 ls (.ref x :: st) σ) := y_aload_n xe_L_cell dL_cell_1
theorem r_L_cell_2 {ls : xL} {st : List Value} {σ : xS} {a : Nat} : xR mL_cell 2 ls (.ref a :: st) σ = (hint σ 9 a).bind (fun q => xR mL_cell 3 ls (.int (nI q.1) :: st) σ) := y_alen9 xe_L_cell dL_cell_2 (by decide)
theorem r_L_cell_3 {ls : xL} {st : List Value} {σ : xS} {x y : Int32} : xR mL_cell 3 ls (.int y :: .int x :: st) σ = if y ≤ x then xR mL_cell 12 ls (st) σ else xR mL_cell 6 ls (st) σ := y_icmp_ge xe_L_cell dL_cell_3 (by decide)
theorem r_L_cell_6 {ls : xL} {st : List Value} {σ : xS}  : xR mL_cell 6 ls (st) σ = gA (lget ls 0) (fun x => xR mL_cell 7 ls (.ref x :: st) σ) := y_aload_n xe_L_cell dL_cell_6
theorem r_L_cell_7 {ls : xL} {st : List Value} {σ : xS}  : xR mL_cell 7 ls (st) σ = gI (lget ls 1) (fun x => xR mL_cell 8 ls (.int x :: st) σ) := y_iload_n xe_L_cell dL_cell_7
theorem r_L_cell_8 {ls : xL} {st : List Value} {σ : xS} {a : Nat} {i : Int32} : xR mL_cell 8 ls (.int i :: .ref a :: st) σ = (hl9 σ a).bind (fun q => if xin i q.1 = true then xR mL_cell 9 ls (.int (q.2 i.toNatClampNeg) :: st) σ else none) := y_iald9 xe_L_cell dL_cell_8 (by decide)
theorem r_L_cell_9 {ls : xL} {st : List Value} {σ : xS}  : xR mL_cell 9 ls (st) σ = xR mL_cell 22 ls (st) σ := y_goto xe_L_cell dL_cell_9 (by decide)
theorem r_L_cell_12 {ls : xL} {st : List Value} {σ : xS}  : xR mL_cell 12 ls (st) σ = xR mL_cell 14 ls (.int (47287) :: st) σ := y_ldc xe_L_cell dL_cell_12 kl_8_7
theorem r_L_cell_14 {ls : xL} {st : List Value} {σ : xS}  : xR mL_cell 14 ls (st) σ = gI (lget ls 1) (fun x => xR mL_cell 15 ls (.int x :: st) σ) := y_iload_n xe_L_cell dL_cell_14
theorem r_L_cell_15 {ls : xL} {st : List Value} {σ : xS}  : xR mL_cell 15 ls (st) σ = xR mL_cell 17 ls (.int (nI 17) :: st) σ := y_bipush xe_L_cell dL_cell_15 (by decide +kernel)
theorem r_L_cell_17 {ls : xL} {st : List Value} {σ : xS} {x y : Int32} : xR mL_cell 17 ls (.int y :: .int x :: st) σ = xR mL_cell 18 ls (.int (x + y) :: st) σ := y_iadd xe_L_cell dL_cell_17
theorem r_L_cell_18 {ls : xL} {st : List Value} {σ : xS} {x y : Int32} : xR mL_cell 18 ls (.int y :: .int x :: st) σ = xR mL_cell 19 ls (.int (x * y) :: st) σ := y_imul xe_L_cell dL_cell_18
theorem r_L_cell_19 {ls : xL} {st : List Value} {σ : xS}  : xR mL_cell 19 ls (st) σ = xR mL_cell 21 ls (.int (nI 43) :: st) σ := y_bipush xe_L_cell dL_cell_19 (by decide +kernel)
theorem r_L_cell_21 {ls : xL} {st : List Value} {σ : xS} {x y : Int32} : xR mL_cell 21 ls (.int y :: .int x :: st) σ = xR mL_cell 22 ls (.int (x + y) :: st) σ := y_iadd xe_L_cell dL_cell_21
theorem r_L_cell_22 {ls : xL} {st : List Value} {σ : xS}  : xR mL_cell 22 ls (st) σ = xR mL_cell 24 ls (.int (2147483647) :: st) σ := y_ldc xe_L_cell dL_cell_22 kl_8_8
theorem r_L_cell_24 {ls : xL} {st : List Value} {σ : xS} {x y : Int32} : xR mL_cell 24 ls (.int y :: .int x :: st) σ = xR mL_cell 25 ls (.int (x &&& y) :: st) σ := y_iand xe_L_cell dL_cell_24
theorem r_L_cell_25 {ls : xL} {σ : xS} {x : Int32} : xR mL_cell 25 ls ([.int x]) σ = some (.inl (some (.int x)), σ) := y_iret xe_L_cell dL_cell_25 rfl
theorem r_L_count_0 {ls : xL} {st : List Value} {σ : xS}  : xR mL_count 0 ls (st) σ = gA (lget ls 0) (fun x => xR mL_count 1 ls (.ref x :: st) σ) := y_aload_n xe_L_count dL_count_0
theorem r_L_count_1 {ls : xL} {st : List Value} {σ : xS}  : xR mL_count 1 ls (st) σ = gI (lget ls 1) (fun x => xR mL_count 2 ls (.int x :: st) σ) := y_iload_n xe_L_count dL_count_1
theorem r_L_count_2 {ls : xL} {σ : xS} {a : Nat} {x0 : Int32} (hc : hcls σ a = some 5) : xR mL_count 2 ls [.int x0, .ref a] σ = (match xC1 mX6_count [.ref a, .int x0] σ with
      | none => none
      | some (.inl v, σ2) => xR mL_count 5 ls (v.toList ++ []) σ2
      | some (.inr x, σ2) => (match xcat mL_count 2 x ls with
        | some (pc2, l2) => xR mL_count pc2 l2 [] σ2
        | none => none)) := y_cT (as := [.ref a, .int x0]) (as2 := [.int x0]) (r := (vwCl[5]?).getD default) xe_L_count dL_count_2 cl_8_44 rfl rfl rfl rfl xe_X6_count ⟨Nat.le_of_ble_eq_true rfl, Nat.le_of_ble_eq_true rfl⟩ (Nat.le_of_ble_eq_true rfl) (Nat.le_of_ble_eq_true rfl) hc
theorem r_L_count_5 {ls : xL} {σ : xS} {x : Int32} : xR mL_count 5 ls ([.int x]) σ = some (.inl (some (.int x)), σ) := y_iret xe_L_count dL_count_5 rfl
theorem r_L_count_7 {ls : xL} {st : List Value} {σ : xS}  : xR mL_count 7 ls (st) σ = xR mL_count 9 ls (.int (-2) :: st) σ := y_bipush xe_L_count dL_count_7 (by decide +kernel)
theorem r_L_count_9 {ls : xL} {σ : xS} {x : Int32} : xR mL_count 9 ls ([.int x]) σ = some (.inl (some (.int x)), σ) := y_iret xe_L_count dL_count_9 rfl
theorem r_L_play_0 {ls : xL} {st : List Value} {σ : xS}  : xR mL_play 0 ls (st) σ = gA (lget ls 0) (fun x => xR mL_play 1 ls (.ref x :: st) σ) := y_aload_n xe_L_play dL_play_0
theorem r_L_play_1 {ls : xL} {σ : xS} {a : Nat}  (hc : hcls σ a = some 5) : xR mL_play 1 ls [.ref a] σ = (match xC1 mX6_play [.ref a] σ with
      | none => none
      | some (.inl v, σ2) => xR mL_play 4 ls (v.toList ++ []) σ2
      | some (.inr x, σ2) => (match xcat mL_play 1 x ls with
        | some (pc2, l2) => xR mL_play pc2 l2 [] σ2
        | none => none)) := y_cT (as := [.ref a]) (as2 := []) (r := (vwCl[5]?).getD default) xe_L_play dL_play_1 cl_8_54 rfl rfl rfl rfl xe_X6_play ⟨Nat.le_of_ble_eq_true rfl, Nat.le_of_ble_eq_true rfl⟩ (Nat.le_of_ble_eq_true rfl) (Nat.le_of_ble_eq_true rfl) hc
theorem r_L_play_4 {ls : xL} {σ : xS} {x : Int32} : xR mL_play 4 ls ([.int x]) σ = some (.inl (some (.int x)), σ) := y_iret xe_L_play dL_play_4 rfl
theorem r_L_play_6 {ls : xL} {st : List Value} {σ : xS}  : xR mL_play 6 ls (st) σ = xR mL_play 8 ls (.int (-2) :: st) σ := y_bipush xe_L_play dL_play_6 (by decide +kernel)
theorem r_L_play_8 {ls : xL} {σ : xS} {x : Int32} : xR mL_play 8 ls ([.int x]) σ = some (.inl (some (.int x)), σ) := y_iret xe_L_play dL_play_8 rfl
theorem r_L_goBack_0 {ls : xL} {st : List Value} {σ : xS}  : xR mL_goBack 0 ls (st) σ = gA (lget ls 0) (fun x => xR mL_goBack 1 ls (.ref x :: st) σ) := y_aload_n xe_L_goBack dL_goBack_0
theorem r_L_goBack_1 {ls : xL} {σ : xS} {a : Nat}  (hc : hcls σ a = some 5) : xR mL_goBack 1 ls [.ref a] σ = (match xC1 mX6_goBack [.ref a] σ with
      | none => none
      | some (.inl v, σ2) => xR mL_goBack 4 ls (v.toList ++ []) σ2
      | some (.inr x, σ2) => (match xcat mL_goBack 1 x ls with
        | some (pc2, l2) => xR mL_goBack pc2 l2 [] σ2
        | none => none)) := y_cT (as := [.ref a]) (as2 := []) (r := (vwCl[5]?).getD default) xe_L_goBack dL_goBack_1 cl_8_58 rfl rfl rfl rfl xe_X6_goBack ⟨Nat.le_of_ble_eq_true rfl, Nat.le_of_ble_eq_true rfl⟩ (Nat.le_of_ble_eq_true rfl) (Nat.le_of_ble_eq_true rfl) hc
theorem r_L_goBack_4 {ls : xL} {σ : xS} {x : Int32} : xR mL_goBack 4 ls ([.int x]) σ = some (.inl (some (.int x)), σ) := y_iret xe_L_goBack dL_goBack_4 rfl
theorem r_L_goBack_6 {ls : xL} {st : List Value} {σ : xS}  : xR mL_goBack 6 ls (st) σ = xR mL_goBack 8 ls (.int (-2) :: st) σ := y_bipush xe_L_goBack dL_goBack_6 (by decide +kernel)
theorem r_L_goBack_8 {ls : xL} {σ : xS} {x : Int32} : xR mL_goBack 8 ls ([.int x]) σ = some (.inl (some (.int x)), σ) := y_iret xe_L_goBack dL_goBack_8 rfl
theorem r_L_undo_0 {ls : xL} {st : List Value} {σ : xS}  : xR mL_undo 0 ls (st) σ = gA (lget ls 0) (fun x => xR mL_undo 1 ls (.ref x :: st) σ) := y_aload_n xe_L_undo dL_undo_0
theorem r_L_undo_1 {ls : xL} {σ : xS} {a : Nat}  (hc : hcls σ a = some 5) : xR mL_undo 1 ls [.ref a] σ = (match xC1 mX6_undo [.ref a] σ with
      | none => none
      | some (.inl v, σ2) => xR mL_undo 4 ls (v.toList ++ []) σ2
      | some (.inr x, σ2) => (match xcat mL_undo 1 x ls with
        | some (pc2, l2) => xR mL_undo pc2 l2 [] σ2
        | none => none)) := y_cT (as := [.ref a]) (as2 := []) (r := (vwCl[5]?).getD default) xe_L_undo dL_undo_1 cl_8_61 rfl rfl rfl rfl xe_X6_undo ⟨Nat.le_of_ble_eq_true rfl, Nat.le_of_ble_eq_true rfl⟩ (Nat.le_of_ble_eq_true rfl) (Nat.le_of_ble_eq_true rfl) hc
theorem r_L_undo_4 {ls : xL} {σ : xS} {x : Int32} : xR mL_undo 4 ls ([.int x]) σ = some (.inl (some (.int x)), σ) := y_iret xe_L_undo dL_undo_4 rfl
theorem r_L_undo_6 {ls : xL} {st : List Value} {σ : xS}  : xR mL_undo 6 ls (st) σ = xR mL_undo 8 ls (.int (-2) :: st) σ := y_bipush xe_L_undo dL_undo_6 (by decide +kernel)
theorem r_L_undo_8 {ls : xL} {σ : xS} {x : Int32} : xR mL_undo 8 ls ([.int x]) σ = some (.inl (some (.int x)), σ) := y_iret xe_L_undo dL_undo_8 rfl
theorem r_L_best_0 {ls : xL} {st : List Value} {σ : xS}  : xR mL_best 0 ls (st) σ = gA (lget ls 0) (fun x => xR mL_best 1 ls (.ref x :: st) σ) := y_aload_n xe_L_best dL_best_0
theorem r_L_best_1 {ls : xL} {st : List Value} {σ : xS}  : xR mL_best 1 ls (st) σ = gI (lget ls 1) (fun x => xR mL_best 2 ls (.int x :: st) σ) := y_iload_n xe_L_best dL_best_1
theorem r_L_best_2 {ls : xL} {σ : xS} {a : Nat} {x0 : Int32} (hc : hcls σ a = some 5) : xR mL_best 2 ls [.int x0, .ref a] σ = (match xC1 mX6_best [.ref a, .int x0] σ with
      | none => none
      | some (.inl v, σ2) => xR mL_best 5 ls (v.toList ++ []) σ2
      | some (.inr x, σ2) => (match xcat mL_best 2 x ls with
        | some (pc2, l2) => xR mL_best pc2 l2 [] σ2
        | none => none)) := y_cT (as := [.ref a, .int x0]) (as2 := [.int x0]) (r := (vwCl[5]?).getD default) xe_L_best dL_best_2 cl_8_70 rfl rfl rfl rfl xe_X6_best ⟨Nat.le_of_ble_eq_true rfl, Nat.le_of_ble_eq_true rfl⟩ (Nat.le_of_ble_eq_true rfl) (Nat.le_of_ble_eq_true rfl) hc
theorem r_L_best_5 {ls : xL} {σ : xS} {x : Int32} : xR mL_best 5 ls ([.int x]) σ = some (.inl (some (.int x)), σ) := y_iret xe_L_best dL_best_5 rfl
theorem r_L_best_7 {ls : xL} {st : List Value} {σ : xS}  : xR mL_best 7 ls (st) σ = xR mL_best 9 ls (.int (-3) :: st) σ := y_bipush xe_L_best dL_best_7 (by decide +kernel)
theorem r_L_best_9 {ls : xL} {σ : xS} {x : Int32} : xR mL_best 9 ls ([.int x]) σ = some (.inl (some (.int x)), σ) := y_iret xe_L_best dL_best_9 rfl
theorem r_L_acts_0 {ls : xL} {st : List Value} {σ : xS}  : xR mL_acts 0 ls (st) σ = gI (lget ls 1) (fun x => xR mL_acts 1 ls (.int x :: st) σ) := y_iload_n xe_L_acts dL_acts_0
theorem r_L_acts_1 {ls : xL} {st : List Value} {σ : xS}  : xR mL_acts 1 ls (st) σ = xR mL_acts 3 ls (.int (nI 32) :: st) σ := y_bipush xe_L_acts dL_acts_1 (by decide +kernel)
theorem r_L_acts_3 {ls : xL} {st : List Value} {σ : xS} {x y : Int32} : xR mL_acts 3 ls (.int y :: .int x :: st) σ = if y = 0 then none else xR mL_acts 4 ls (.int (x / y) :: st) σ := y_idiv xe_L_acts dL_acts_3
theorem r_L_acts_4 {ls : xL} {st : List Value} {σ : xS} {x : Int32} : xR mL_acts 4 ls (.int x :: st) σ = (lst1 ls 2 (some (.int x))).bind (fun l => xR mL_acts 5 l (st) σ) := y_istore_n xe_L_acts dL_acts_4
theorem r_L_acts_5 {ls : xL} {st : List Value} {σ : xS}  : xR mL_acts 5 ls (st) σ = gI (lget ls 1) (fun x => xR mL_acts 6 ls (.int x :: st) σ) := y_iload_n xe_L_acts dL_acts_5
theorem r_L_acts_6 {ls : xL} {st : List Value} {σ : xS}  : xR mL_acts 6 ls (st) σ = xR mL_acts 8 ls (.int (nI 32) :: st) σ := y_bipush xe_L_acts dL_acts_6 (by decide +kernel)
theorem r_L_acts_8 {ls : xL} {st : List Value} {σ : xS} {x y : Int32} : xR mL_acts 8 ls (.int y :: .int x :: st) σ = if y = 0 then none else xR mL_acts 9 ls (.int (x - x / y * y) :: st) σ := y_irem xe_L_acts dL_acts_8
theorem r_L_acts_9 {ls : xL} {st : List Value} {σ : xS} {x : Int32} : xR mL_acts 9 ls (.int x :: st) σ = (yts 9 310 0 13 #[71, 76, 76, 92, 108, 108, 123, 123, 123, 128, 133, 138, 138, 138] x).bind (fun t => xR mL_acts t ls st σ) := y_tsw xe_L_acts dL_acts_9 (by decide) (by decide)
theorem r_L_acts_80 {ls : xL} {st : List Value} {σ : xS}  : xR mL_acts 80 ls (st) σ = gA (lget ls 0) (fun x => xR mL_acts 81 ls (.ref x :: st) σ) := y_aload_n xe_L_acts dL_acts_80
theorem r_L_acts_81 {ls : xL} {st : List Value} {σ : xS} {a : Nat}  : xR mL_acts 81 ls (.ref a :: st) σ = yV (hcls σ a) 5 (xwid st) (xC1 mX6_thaw [.ref a] σ) (fun v τ => xR mL_acts 84 ls (v.toList ++ st) τ) := y_cV (as := [.ref a]) (as2 := []) (r := (vwCl[5]?).getD default) xe_L_acts dL_acts_81 cl_8_73 rfl rfl rfl rfl xe_X6_thaw ⟨Nat.le_of_ble_eq_true rfl, Nat.le_of_ble_eq_true rfl⟩ (Nat.le_of_ble_eq_true rfl) (by decide)
theorem r_L_acts_84 {ls : xL} {σ : xS} {x : Int32} : xR mL_acts 84 ls ([.int x]) σ = some (.inl (some (.int x)), σ) := y_iret xe_L_acts dL_acts_84 rfl
theorem r_L_acts_85 {ls : xL} {st : List Value} {σ : xS}  : xR mL_acts 85 ls (st) σ = gA (lget ls 0) (fun x => xR mL_acts 86 ls (.ref x :: st) σ) := y_aload_n xe_L_acts dL_acts_85
theorem r_L_acts_86 {ls : xL} {st : List Value} {σ : xS}  : xR mL_acts 86 ls (st) σ = gI (lget ls 2) (fun x => xR mL_acts 87 ls (.int x :: st) σ) := y_iload_n xe_L_acts dL_acts_86
theorem r_L_acts_87 {ls : xL} {st : List Value} {σ : xS}  : xR mL_acts 87 ls (st) σ = xR mL_acts 89 ls (.int (nI 8) :: st) σ := y_bipush xe_L_acts dL_acts_87 (by decide +kernel)
theorem r_L_acts_89 {ls : xL} {st : List Value} {σ : xS} {x y : Int32} : xR mL_acts 89 ls (.int y :: .int x :: st) σ = if y = 0 then none else xR mL_acts 90 ls (.int (x - x / y * y) :: st) σ := y_irem xe_L_acts dL_acts_89
theorem r_L_acts_90 {ls : xL} {st : List Value} {σ : xS}  : xR mL_acts 90 ls (st) σ = gI (lget ls 2) (fun x => xR mL_acts 91 ls (.int x :: st) σ) := y_iload_n xe_L_acts dL_acts_90
theorem r_L_acts_91 {ls : xL} {st : List Value} {σ : xS}  : xR mL_acts 91 ls (st) σ = xR mL_acts 93 ls (.int (nI 8) :: st) σ := y_bipush xe_L_acts dL_acts_91 (by decide +kernel)
theorem r_L_acts_93 {ls : xL} {st : List Value} {σ : xS} {x y : Int32} : xR mL_acts 93 ls (.int y :: .int x :: st) σ = if y = 0 then none else xR mL_acts 94 ls (.int (x / y) :: st) σ := y_idiv xe_L_acts dL_acts_93
theorem r_L_acts_94 {ls : xL} {st : List Value} {σ : xS}  : xR mL_acts 94 ls (st) σ = xR mL_acts 96 ls (.int (nI 8) :: st) σ := y_bipush xe_L_acts dL_acts_94 (by decide +kernel)
theorem r_L_acts_96 {ls : xL} {st : List Value} {σ : xS} {x y : Int32} : xR mL_acts 96 ls (.int y :: .int x :: st) σ = if y = 0 then none else xR mL_acts 97 ls (.int (x - x / y * y) :: st) σ := y_irem xe_L_acts dL_acts_96
theorem r_L_acts_97 {ls : xL} {st : List Value} {σ : xS} {x0 : Nat} {x1 : Int32} {x2 : Int32} : xR mL_acts 97 ls (.int x2 :: .int x1 :: .ref x0 :: st) σ = yC (xwid st) (xC1 mL_hole [.ref x0, .int x1, .int x2] σ) (fun v τ => xR mL_acts 100 ls (v.toList ++ st) τ) := y_cL (as := [.ref x0, .int x1, .int x2]) xe_L_acts dL_acts_97 cl_8_76 rfl xe_L_hole ⟨Nat.le_of_ble_eq_true rfl, Nat.le_of_ble_eq_true rfl⟩ (Nat.le_of_ble_eq_true rfl) (by decide)
theorem r_L_acts_100 {ls : xL} {σ : xS} {x : Int32} : xR mL_acts 100 ls ([.int x]) σ = some (.inl (some (.int x)), σ) := y_iret xe_L_acts dL_acts_100 rfl
theorem r_L_acts_101 {ls : xL} {st : List Value} {σ : xS}  : xR mL_acts 101 ls (st) σ = gA (lget ls 0) (fun x => xR mL_acts 102 ls (.ref x :: st) σ) := y_aload_n xe_L_acts dL_acts_101
theorem r_L_acts_102 {ls : xL} {st : List Value} {σ : xS}  : xR mL_acts 102 ls (st) σ = gI (lget ls 2) (fun x => xR mL_acts 103 ls (.int x :: st) σ) := y_iload_n xe_L_acts dL_acts_102
theorem r_L_acts_103 {ls : xL} {st : List Value} {σ : xS}  : xR mL_acts 103 ls (st) σ = xR mL_acts 104 ls (.int (nI 3) :: st) σ := y_iconst xe_L_acts dL_acts_103 (by decide +kernel)
theorem r_L_acts_104 {ls : xL} {st : List Value} {σ : xS} {x y : Int32} : xR mL_acts 104 ls (.int y :: .int x :: st) σ = if y = 0 then none else xR mL_acts 105 ls (.int (x - x / y * y) :: st) σ := y_irem xe_L_acts dL_acts_104
theorem r_L_acts_105 {ls : xL} {st : List Value} {σ : xS}  : xR mL_acts 105 ls (st) σ = xR mL_acts 106 ls (.int (nI 1) :: st) σ := y_iconst xe_L_acts dL_acts_105 (by decide +kernel)
theorem r_L_acts_106 {ls : xL} {st : List Value} {σ : xS}  : xR mL_acts 106 ls (st) σ = gI (lget ls 2) (fun x => xR mL_acts 107 ls (.int x :: st) σ) := y_iload_n xe_L_acts dL_acts_106
theorem r_L_acts_107 {ls : xL} {st : List Value} {σ : xS}  : xR mL_acts 107 ls (st) σ = xR mL_acts 108 ls (.int (nI 4) :: st) σ := y_iconst xe_L_acts dL_acts_107 (by decide +kernel)
theorem r_L_acts_108 {ls : xL} {st : List Value} {σ : xS} {x y : Int32} : xR mL_acts 108 ls (.int y :: .int x :: st) σ = if y = 0 then none else xR mL_acts 109 ls (.int (x / y) :: st) σ := y_idiv xe_L_acts dL_acts_108
theorem r_L_acts_109 {ls : xL} {st : List Value} {σ : xS}  : xR mL_acts 109 ls (st) σ = xR mL_acts 111 ls (.int (nI 99) :: st) σ := y_bipush xe_L_acts dL_acts_109 (by decide +kernel)
theorem r_L_acts_111 {ls : xL} {st : List Value} {σ : xS} {x y : Int32} : xR mL_acts 111 ls (.int y :: .int x :: st) σ = if y = 0 then none else xR mL_acts 112 ls (.int (x - x / y * y) :: st) σ := y_irem xe_L_acts dL_acts_111
theorem r_L_acts_112 {ls : xL} {st : List Value} {σ : xS} {x y : Int32} : xR mL_acts 112 ls (.int y :: .int x :: st) σ = xR mL_acts 113 ls (.int (x + y) :: st) σ := y_iadd xe_L_acts dL_acts_112
theorem r_L_acts_113 {ls : xL} {st : List Value} {σ : xS} {x0 : Nat} {x1 : Int32} {x2 : Int32} : xR mL_acts 113 ls (.int x2 :: .int x1 :: .ref x0 :: st) σ = yC (xwid st) (xC1 mL_pay [.ref x0, .int x1, .int x2] σ) (fun v τ => xR mL_acts 116 ls (v.toList ++ st) τ) := y_cL (as := [.ref x0, .int x1, .int x2]) xe_L_acts dL_acts_113 cl_8_81 rfl xe_L_pay ⟨Nat.le_of_ble_eq_true rfl, Nat.le_of_ble_eq_true rfl⟩ (Nat.le_of_ble_eq_true rfl) (by decide)
theorem r_L_acts_116 {ls : xL} {σ : xS} {x : Int32} : xR mL_acts 116 ls ([.int x]) σ = some (.inl (some (.int x)), σ) := y_iret xe_L_acts dL_acts_116 rfl
theorem r_L_acts_117 {ls : xL} {st : List Value} {σ : xS}  : xR mL_acts 117 ls (st) σ = gA (lget ls 0) (fun x => xR mL_acts 118 ls (.ref x :: st) σ) := y_aload_n xe_L_acts dL_acts_117
theorem r_L_acts_118 {ls : xL} {st : List Value} {σ : xS}  : xR mL_acts 118 ls (st) σ = gI (lget ls 2) (fun x => xR mL_acts 119 ls (.int x :: st) σ) := y_iload_n xe_L_acts dL_acts_118
theorem r_L_acts_119 {ls : xL} {st : List Value} {σ : xS}  : xR mL_acts 119 ls (st) σ = xR mL_acts 120 ls (.int (nI 3) :: st) σ := y_iconst xe_L_acts dL_acts_119 (by decide +kernel)
theorem r_L_acts_120 {ls : xL} {st : List Value} {σ : xS} {x y : Int32} : xR mL_acts 120 ls (.int y :: .int x :: st) σ = if y = 0 then none else xR mL_acts 121 ls (.int (x - x / y * y) :: st) σ := y_irem xe_L_acts dL_acts_120
theorem r_L_acts_121 {ls : xL} {st : List Value} {σ : xS}  : xR mL_acts 121 ls (st) σ = xR mL_acts 122 ls (.int (nI 1) :: st) σ := y_iconst xe_L_acts dL_acts_121 (by decide +kernel)
theorem r_L_acts_122 {ls : xL} {st : List Value} {σ : xS}  : xR mL_acts 122 ls (st) σ = gI (lget ls 2) (fun x => xR mL_acts 123 ls (.int x :: st) σ) := y_iload_n xe_L_acts dL_acts_122
theorem r_L_acts_123 {ls : xL} {st : List Value} {σ : xS}  : xR mL_acts 123 ls (st) σ = xR mL_acts 124 ls (.int (nI 3) :: st) σ := y_iconst xe_L_acts dL_acts_123 (by decide +kernel)
theorem r_L_acts_124 {ls : xL} {st : List Value} {σ : xS} {x y : Int32} : xR mL_acts 124 ls (.int y :: .int x :: st) σ = if y = 0 then none else xR mL_acts 125 ls (.int (x / y) :: st) σ := y_idiv xe_L_acts dL_acts_124
theorem r_L_acts_125 {ls : xL} {st : List Value} {σ : xS}  : xR mL_acts 125 ls (st) σ = xR mL_acts 126 ls (.int (nI 4) :: st) σ := y_iconst xe_L_acts dL_acts_125 (by decide +kernel)
theorem r_L_acts_126 {ls : xL} {st : List Value} {σ : xS} {x y : Int32} : xR mL_acts 126 ls (.int y :: .int x :: st) σ = if y = 0 then none else xR mL_acts 127 ls (.int (x - x / y * y) :: st) σ := y_irem xe_L_acts dL_acts_126
theorem r_L_acts_127 {ls : xL} {st : List Value} {σ : xS} {x y : Int32} : xR mL_acts 127 ls (.int y :: .int x :: st) σ = xR mL_acts 128 ls (.int (x + y) :: st) σ := y_iadd xe_L_acts dL_acts_127
theorem r_L_acts_128 {ls : xL} {st : List Value} {σ : xS} {x0 : Nat} {x1 : Int32} {x2 : Int32} : xR mL_acts 128 ls (.int x2 :: .int x1 :: .ref x0 :: st) σ = yC (xwid st) (xC1 mL_set [.ref x0, .int x1, .int x2] σ) (fun v τ => xR mL_acts 131 ls (v.toList ++ st) τ) := y_cL (as := [.ref x0, .int x1, .int x2]) xe_L_acts dL_acts_128 cl_8_83 rfl xe_L_set ⟨Nat.le_of_ble_eq_true rfl, Nat.le_of_ble_eq_true rfl⟩ (Nat.le_of_ble_eq_true rfl) (by decide)
theorem r_L_acts_131 {ls : xL} {σ : xS} {x : Int32} : xR mL_acts 131 ls ([.int x]) σ = some (.inl (some (.int x)), σ) := y_iret xe_L_acts dL_acts_131 rfl
theorem r_L_acts_132 {ls : xL} {st : List Value} {σ : xS}  : xR mL_acts 132 ls (st) σ = gA (lget ls 0) (fun x => xR mL_acts 133 ls (.ref x :: st) σ) := y_aload_n xe_L_acts dL_acts_132
theorem r_L_acts_133 {ls : xL} {st : List Value} {σ : xS} {x0 : Nat} : xR mL_acts 133 ls (.ref x0 :: st) σ = yC (xwid st) (xC1 mL_undo [.ref x0] σ) (fun v τ => xR mL_acts 136 ls (v.toList ++ st) τ) := y_cL (as := [.ref x0]) xe_L_acts dL_acts_133 cl_8_85 rfl xe_L_undo ⟨Nat.le_of_ble_eq_true rfl, Nat.le_of_ble_eq_true rfl⟩ (Nat.le_of_ble_eq_true rfl) (by decide)
theorem r_L_acts_136 {ls : xL} {σ : xS} {x : Int32} : xR mL_acts 136 ls ([.int x]) σ = some (.inl (some (.int x)), σ) := y_iret xe_L_acts dL_acts_136 rfl
theorem r_L_acts_137 {ls : xL} {st : List Value} {σ : xS}  : xR mL_acts 137 ls (st) σ = gA (lget ls 0) (fun x => xR mL_acts 138 ls (.ref x :: st) σ) := y_aload_n xe_L_acts dL_acts_137
theorem r_L_acts_138 {ls : xL} {st : List Value} {σ : xS} {a : Nat}  : xR mL_acts 138 ls (.ref a :: st) σ = yV (hcls σ a) 5 (xwid st) (xC1 mX6_keep [.ref a] σ) (fun v τ => xR mL_acts 141 ls (v.toList ++ st) τ) := y_cV (as := [.ref a]) (as2 := []) (r := (vwCl[5]?).getD default) xe_L_acts dL_acts_138 cl_8_88 rfl rfl rfl rfl xe_X6_keep ⟨Nat.le_of_ble_eq_true rfl, Nat.le_of_ble_eq_true rfl⟩ (Nat.le_of_ble_eq_true rfl) (by decide)
theorem r_L_acts_141 {ls : xL} {σ : xS} {x : Int32} : xR mL_acts 141 ls ([.int x]) σ = some (.inl (some (.int x)), σ) := y_iret xe_L_acts dL_acts_141 rfl
theorem r_L_acts_142 {ls : xL} {st : List Value} {σ : xS}  : xR mL_acts 142 ls (st) σ = gA (lget ls 0) (fun x => xR mL_acts 143 ls (.ref x :: st) σ) := y_aload_n xe_L_acts dL_acts_142
theorem r_L_acts_143 {ls : xL} {st : List Value} {σ : xS} {x0 : Nat} : xR mL_acts 143 ls (.ref x0 :: st) σ = yC (xwid st) (xC1 mL_goBack [.ref x0] σ) (fun v τ => xR mL_acts 146 ls (v.toList ++ st) τ) := y_cL (as := [.ref x0]) xe_L_acts dL_acts_143 cl_8_91 rfl xe_L_goBack ⟨Nat.le_of_ble_eq_true rfl, Nat.le_of_ble_eq_true rfl⟩ (Nat.le_of_ble_eq_true rfl) (by decide)
theorem r_L_acts_146 {ls : xL} {σ : xS} {x : Int32} : xR mL_acts 146 ls ([.int x]) σ = some (.inl (some (.int x)), σ) := y_iret xe_L_acts dL_acts_146 rfl
theorem r_L_acts_147 {ls : xL} {st : List Value} {σ : xS}  : xR mL_acts 147 ls (st) σ = gA (lget ls 0) (fun x => xR mL_acts 148 ls (.ref x :: st) σ) := y_aload_n xe_L_acts dL_acts_147
theorem r_L_acts_148 {ls : xL} {st : List Value} {σ : xS} {a : Nat}  : xR mL_acts 148 ls (.ref a :: st) σ = yV (hcls σ a) 5 (xwid st) (xC1 mX6_clearBuffer [.ref a] σ) (fun v τ => xR mL_acts 151 ls (v.toList ++ st) τ) := y_cV (as := [.ref a]) (as2 := []) (r := (vwCl[5]?).getD default) xe_L_acts dL_acts_148 cl_8_93 rfl rfl rfl rfl xe_X6_clearBuffer ⟨Nat.le_of_ble_eq_true rfl, Nat.le_of_ble_eq_true rfl⟩ (Nat.le_of_ble_eq_true rfl) (by decide)
theorem r_L_acts_151 {ls : xL} {st : List Value} {σ : xS} {x : Int32} : xR mL_acts 151 ls (.int x :: st) σ = (lst1 ls 3 (some (.int x))).bind (fun l => xR mL_acts 152 l (st) σ) := y_istore_n xe_L_acts dL_acts_151
theorem r_L_acts_152 {ls : xL} {st : List Value} {σ : xS}  : xR mL_acts 152 ls (st) σ = xR mL_acts 153 ls (.int (nI 0) :: st) σ := y_iconst xe_L_acts dL_acts_152 (by decide +kernel)
theorem r_L_acts_153 {ls : xL} {st : List Value} {σ : xS} {x : Int32} : xR mL_acts 153 ls (.int x :: st) σ = (lst1 ls 4 (some (.int x))).bind (fun l => xR mL_acts 155 l (st) σ) := y_istore xe_L_acts dL_acts_153
theorem r_L_acts_155 {ls : xL} {st : List Value} {σ : xS}  : xR mL_acts 155 ls (st) σ = gI (lget ls 4) (fun x => xR mL_acts 157 ls (.int x :: st) σ) := y_iload xe_L_acts dL_acts_155
theorem r_L_acts_157 {ls : xL} {st : List Value} {σ : xS}  : xR mL_acts 157 ls (st) σ = xR mL_acts 158 ls (.int (nI 1) :: st) σ := y_iconst xe_L_acts dL_acts_157 (by decide +kernel)
theorem r_L_acts_158 {ls : xL} {st : List Value} {σ : xS}  : xR mL_acts 158 ls (st) σ = gI (lget ls 2) (fun x => xR mL_acts 159 ls (.int x :: st) σ) := y_iload_n xe_L_acts dL_acts_158
theorem r_L_acts_159 {ls : xL} {st : List Value} {σ : xS}  : xR mL_acts 159 ls (st) σ = xR mL_acts 160 ls (.int (nI 4) :: st) σ := y_iconst xe_L_acts dL_acts_159 (by decide +kernel)
theorem r_L_acts_160 {ls : xL} {st : List Value} {σ : xS} {x y : Int32} : xR mL_acts 160 ls (.int y :: .int x :: st) σ = if y = 0 then none else xR mL_acts 161 ls (.int (x - x / y * y) :: st) σ := y_irem xe_L_acts dL_acts_160
theorem r_L_acts_161 {ls : xL} {st : List Value} {σ : xS} {x y : Int32} : xR mL_acts 161 ls (.int y :: .int x :: st) σ = xR mL_acts 162 ls (.int (x + y) :: st) σ := y_iadd xe_L_acts dL_acts_161
theorem r_L_acts_162 {ls : xL} {st : List Value} {σ : xS} {x y : Int32} : xR mL_acts 162 ls (.int y :: .int x :: st) σ = if y ≤ x then xR mL_acts 296 ls (st) σ else xR mL_acts 165 ls (st) σ := y_icmp_ge xe_L_acts dL_acts_162 (by decide)
theorem r_L_acts_165 {ls : xL} {st : List Value} {σ : xS}  : xR mL_acts 165 ls (st) σ = gI (lget ls 2) (fun x => xR mL_acts 166 ls (.int x :: st) σ) := y_iload_n xe_L_acts dL_acts_165
theorem r_L_acts_166 {ls : xL} {st : List Value} {σ : xS}  : xR mL_acts 166 ls (st) σ = xR mL_acts 167 ls (.int (nI 4) :: st) σ := y_iconst xe_L_acts dL_acts_166 (by decide +kernel)
theorem r_L_acts_167 {ls : xL} {st : List Value} {σ : xS} {x y : Int32} : xR mL_acts 167 ls (.int y :: .int x :: st) σ = if y = 0 then none else xR mL_acts 168 ls (.int (x / y) :: st) σ := y_idiv xe_L_acts dL_acts_167
theorem r_L_acts_168 {ls : xL} {st : List Value} {σ : xS}  : xR mL_acts 168 ls (st) σ = xR mL_acts 169 ls (.int (nI 4) :: st) σ := y_iconst xe_L_acts dL_acts_168 (by decide +kernel)
theorem r_L_acts_169 {ls : xL} {st : List Value} {σ : xS}  : xR mL_acts 169 ls (st) σ = gI (lget ls 4) (fun x => xR mL_acts 171 ls (.int x :: st) σ) := y_iload xe_L_acts dL_acts_169
theorem r_L_acts_171 {ls : xL} {st : List Value} {σ : xS} {x y : Int32} : xR mL_acts 171 ls (.int y :: .int x :: st) σ = xR mL_acts 172 ls (.int (x * y) :: st) σ := y_imul xe_L_acts dL_acts_171
theorem r_L_acts_172 {ls : xL} {st : List Value} {σ : xS} {x y : Int32} : xR mL_acts 172 ls (.int y :: .int x :: st) σ = xR mL_acts 173 ls (.int (x >>> (y &&& 31)) :: st) σ := y_ishr xe_L_acts dL_acts_172
theorem r_L_acts_173 {ls : xL} {st : List Value} {σ : xS} {x : Int32} : xR mL_acts 173 ls (.int x :: st) σ = (lst1 ls 5 (some (.int x))).bind (fun l => xR mL_acts 175 l (st) σ) := y_istore xe_L_acts dL_acts_173
theorem r_L_acts_175 {ls : xL} {st : List Value} {σ : xS}  : xR mL_acts 175 ls (st) σ = gI (lget ls 4) (fun x => xR mL_acts 177 ls (.int x :: st) σ) := y_iload xe_L_acts dL_acts_175
theorem r_L_acts_177 {ls : xL} {st : List Value} {σ : xS} {x : Int32} : xR mL_acts 177 ls (.int x :: st) σ = if x ≤ 0 then xR mL_acts 189 ls (st) σ else xR mL_acts 180 ls (st) σ := y_if_le xe_L_acts dL_acts_177 (by decide)
theorem r_L_acts_180 {ls : xL} {st : List Value} {σ : xS}  : xR mL_acts 180 ls (st) σ = gA (lget ls 0) (fun x => xR mL_acts 181 ls (.ref x :: st) σ) := y_aload_n xe_L_acts dL_acts_180
theorem r_L_acts_181 {ls : xL} {st : List Value} {σ : xS}  : xR mL_acts 181 ls (st) σ = xR mL_acts 183 ls (.int (nI 59) :: st) σ := y_bipush xe_L_acts dL_acts_181 (by decide +kernel)
theorem r_L_acts_183 {ls : xL} {st : List Value} {σ : xS} {x0 : Nat} {x1 : Int32} : xR mL_acts 183 ls (.int x1 :: .ref x0 :: st) σ = yC (xwid st) (xC1 mL_append [.ref x0, .int x1] σ) (fun v τ => xR mL_acts 186 ls (v.toList ++ st) τ) := y_cL (as := [.ref x0, .int x1]) xe_L_acts dL_acts_183 cl_8_96 rfl xe_L_append ⟨Nat.le_of_ble_eq_true rfl, Nat.le_of_ble_eq_true rfl⟩ (Nat.le_of_ble_eq_true rfl) (by decide)
theorem r_L_acts_186 {ls : xL} {st : List Value} {σ : xS}  : xR mL_acts 186 ls (st) σ = xR mL_acts 190 ls (st) σ := y_goto xe_L_acts dL_acts_186 (by decide)
theorem r_L_acts_189 {ls : xL} {st : List Value} {σ : xS}  : xR mL_acts 189 ls (st) σ = xR mL_acts 190 ls (.int (nI 0) :: st) σ := y_iconst xe_L_acts dL_acts_189 (by decide +kernel)
theorem r_L_acts_190 {ls : xL} {st : List Value} {σ : xS} {x : Int32} : xR mL_acts 190 ls (.int x :: st) σ = (lst1 ls 3 (some (.int x))).bind (fun l => xR mL_acts 191 l (st) σ) := y_istore_n xe_L_acts dL_acts_190
theorem r_L_acts_191 {ls : xL} {st : List Value} {σ : xS}  : xR mL_acts 191 ls (st) σ = gI (lget ls 5) (fun x => xR mL_acts 193 ls (.int x :: st) σ) := y_iload xe_L_acts dL_acts_191
theorem r_L_acts_193 {ls : xL} {st : List Value} {σ : xS}  : xR mL_acts 193 ls (st) σ = xR mL_acts 195 ls (.int (nI 16) :: st) σ := y_bipush xe_L_acts dL_acts_193 (by decide +kernel)
theorem r_L_acts_195 {ls : xL} {st : List Value} {σ : xS} {x y : Int32} : xR mL_acts 195 ls (.int y :: .int x :: st) σ = if y = 0 then none else xR mL_acts 196 ls (.int (x - x / y * y) :: st) σ := y_irem xe_L_acts dL_acts_195
theorem r_L_acts_196 {ls : xL} {st : List Value} {σ : xS}  : xR mL_acts 196 ls (st) σ = xR mL_acts 198 ls (.int (nI 15) :: st) σ := y_bipush xe_L_acts dL_acts_196 (by decide +kernel)
theorem r_L_acts_198 {ls : xL} {st : List Value} {σ : xS} {x y : Int32} : xR mL_acts 198 ls (.int y :: .int x :: st) σ = if ¬ x = y then xR mL_acts 211 ls (st) σ else xR mL_acts 201 ls (st) σ := y_icmp_ne xe_L_acts dL_acts_198 (by decide)
theorem r_L_acts_201 {ls : xL} {st : List Value} {σ : xS}  : xR mL_acts 201 ls (st) σ = gA (lget ls 0) (fun x => xR mL_acts 202 ls (.ref x :: st) σ) := y_aload_n xe_L_acts dL_acts_201
theorem r_L_acts_202 {ls : xL} {st : List Value} {σ : xS}  : xR mL_acts 202 ls (st) σ = xR mL_acts 204 ls (.int (nI 116) :: st) σ := y_bipush xe_L_acts dL_acts_202 (by decide +kernel)
theorem r_L_acts_204 {ls : xL} {st : List Value} {σ : xS} {x0 : Nat} {x1 : Int32} : xR mL_acts 204 ls (.int x1 :: .ref x0 :: st) σ = yC (xwid st) (xC1 mL_append [.ref x0, .int x1] σ) (fun v τ => xR mL_acts 207 ls (v.toList ++ st) τ) := y_cL (as := [.ref x0, .int x1]) xe_L_acts dL_acts_204 cl_8_96 rfl xe_L_append ⟨Nat.le_of_ble_eq_true rfl, Nat.le_of_ble_eq_true rfl⟩ (Nat.le_of_ble_eq_true rfl) (by decide)
theorem r_L_acts_207 {ls : xL} {st : List Value} {σ : xS} {x : Int32} : xR mL_acts 207 ls (.int x :: st) σ = (lst1 ls 3 (some (.int x))).bind (fun l => xR mL_acts 208 l (st) σ) := y_istore_n xe_L_acts dL_acts_207
theorem r_L_acts_208 {ls : xL} {st : List Value} {σ : xS}  : xR mL_acts 208 ls (st) σ = xR mL_acts 290 ls (st) σ := y_goto xe_L_acts dL_acts_208 (by decide)
theorem r_L_acts_211 {ls : xL} {st : List Value} {σ : xS}  : xR mL_acts 211 ls (st) σ = gA (lget ls 0) (fun x => xR mL_acts 212 ls (.ref x :: st) σ) := y_aload_n xe_L_acts dL_acts_211
theorem r_L_acts_212 {ls : xL} {st : List Value} {σ : xS}  : xR mL_acts 212 ls (st) σ = xR mL_acts 214 ls (.int (nI 48) :: st) σ := y_bipush xe_L_acts dL_acts_212 (by decide +kernel)
theorem r_L_acts_214 {ls : xL} {st : List Value} {σ : xS}  : xR mL_acts 214 ls (st) σ = gI (lget ls 5) (fun x => xR mL_acts 216 ls (.int x :: st) σ) := y_iload xe_L_acts dL_acts_214
theorem r_L_acts_216 {ls : xL} {st : List Value} {σ : xS}  : xR mL_acts 216 ls (st) σ = xR mL_acts 217 ls (.int (nI 3) :: st) σ := y_iconst xe_L_acts dL_acts_216 (by decide +kernel)
theorem r_L_acts_217 {ls : xL} {st : List Value} {σ : xS} {x y : Int32} : xR mL_acts 217 ls (.int y :: .int x :: st) σ = if y = 0 then none else xR mL_acts 218 ls (.int (x - x / y * y) :: st) σ := y_irem xe_L_acts dL_acts_217
theorem r_L_acts_218 {ls : xL} {st : List Value} {σ : xS} {x y : Int32} : xR mL_acts 218 ls (.int y :: .int x :: st) σ = xR mL_acts 219 ls (.int (x + y) :: st) σ := y_iadd xe_L_acts dL_acts_218
theorem r_L_acts_219 {ls : xL} {st : List Value} {σ : xS} {x0 : Nat} {x1 : Int32} : xR mL_acts 219 ls (.int x1 :: .ref x0 :: st) σ = yC (xwid st) (xC1 mL_append [.ref x0, .int x1] σ) (fun v τ => xR mL_acts 222 ls (v.toList ++ st) τ) := y_cL (as := [.ref x0, .int x1]) xe_L_acts dL_acts_219 cl_8_96 rfl xe_L_append ⟨Nat.le_of_ble_eq_true rfl, Nat.le_of_ble_eq_true rfl⟩ (Nat.le_of_ble_eq_true rfl) (by decide)
theorem r_L_acts_222 {ls : xL} {st : List Value} {σ : xS} {x : Int32} : xR mL_acts 222 ls (.int x :: st) σ = (lst1 ls 3 (some (.int x))).bind (fun l => xR mL_acts 223 l (st) σ) := y_istore_n xe_L_acts dL_acts_222
theorem r_L_acts_223 {ls : xL} {st : List Value} {σ : xS}  : xR mL_acts 223 ls (st) σ = gA (lget ls 0) (fun x => xR mL_acts 224 ls (.ref x :: st) σ) := y_aload_n xe_L_acts dL_acts_223
theorem r_L_acts_224 {ls : xL} {st : List Value} {σ : xS}  : xR mL_acts 224 ls (st) σ = gI (lget ls 5) (fun x => xR mL_acts 226 ls (.int x :: st) σ) := y_iload xe_L_acts dL_acts_224
theorem r_L_acts_226 {ls : xL} {st : List Value} {σ : xS}  : xR mL_acts 226 ls (st) σ = xR mL_acts 227 ls (.int (nI 4) :: st) σ := y_iconst xe_L_acts dL_acts_226 (by decide +kernel)
theorem r_L_acts_227 {ls : xL} {st : List Value} {σ : xS} {x y : Int32} : xR mL_acts 227 ls (.int y :: .int x :: st) σ = if y = 0 then none else xR mL_acts 228 ls (.int (x / y) :: st) σ := y_idiv xe_L_acts dL_acts_227
theorem r_L_acts_228 {ls : xL} {st : List Value} {σ : xS}  : xR mL_acts 228 ls (st) σ = xR mL_acts 229 ls (.int (nI 4) :: st) σ := y_iconst xe_L_acts dL_acts_228 (by decide +kernel)
theorem r_L_acts_229 {ls : xL} {st : List Value} {σ : xS} {x y : Int32} : xR mL_acts 229 ls (.int y :: .int x :: st) σ = if y = 0 then none else xR mL_acts 230 ls (.int (x - x / y * y) :: st) σ := y_irem xe_L_acts dL_acts_229
theorem r_L_acts_230 {ls : xL} {st : List Value} {σ : xS} {x : Int32} : xR mL_acts 230 ls (.int x :: st) σ = if ¬ x = 0 then xR mL_acts 238 ls (st) σ else xR mL_acts 233 ls (st) σ := y_if_ne xe_L_acts dL_acts_230 (by decide)
theorem r_L_acts_233 {ls : xL} {st : List Value} {σ : xS}  : xR mL_acts 233 ls (st) σ = xR mL_acts 235 ls (.int (nI 110) :: st) σ := y_bipush xe_L_acts dL_acts_233 (by decide +kernel)
theorem r_L_acts_235 {ls : xL} {st : List Value} {σ : xS}  : xR mL_acts 235 ls (st) σ = xR mL_acts 270 ls (st) σ := y_goto xe_L_acts dL_acts_235 (by decide)
theorem r_L_acts_238 {ls : xL} {st : List Value} {σ : xS}  : xR mL_acts 238 ls (st) σ = gI (lget ls 5) (fun x => xR mL_acts 240 ls (.int x :: st) σ) := y_iload xe_L_acts dL_acts_238
theorem r_L_acts_240 {ls : xL} {st : List Value} {σ : xS}  : xR mL_acts 240 ls (st) σ = xR mL_acts 241 ls (.int (nI 4) :: st) σ := y_iconst xe_L_acts dL_acts_240 (by decide +kernel)
theorem r_L_acts_241 {ls : xL} {st : List Value} {σ : xS} {x y : Int32} : xR mL_acts 241 ls (.int y :: .int x :: st) σ = if y = 0 then none else xR mL_acts 242 ls (.int (x / y) :: st) σ := y_idiv xe_L_acts dL_acts_241
theorem r_L_acts_242 {ls : xL} {st : List Value} {σ : xS}  : xR mL_acts 242 ls (st) σ = xR mL_acts 243 ls (.int (nI 4) :: st) σ := y_iconst xe_L_acts dL_acts_242 (by decide +kernel)
theorem r_L_acts_243 {ls : xL} {st : List Value} {σ : xS} {x y : Int32} : xR mL_acts 243 ls (.int y :: .int x :: st) σ = if y = 0 then none else xR mL_acts 244 ls (.int (x - x / y * y) :: st) σ := y_irem xe_L_acts dL_acts_243
theorem r_L_acts_244 {ls : xL} {st : List Value} {σ : xS}  : xR mL_acts 244 ls (st) σ = xR mL_acts 245 ls (.int (nI 1) :: st) σ := y_iconst xe_L_acts dL_acts_244 (by decide +kernel)
theorem r_L_acts_245 {ls : xL} {st : List Value} {σ : xS} {x y : Int32} : xR mL_acts 245 ls (.int y :: .int x :: st) σ = if ¬ x = y then xR mL_acts 253 ls (st) σ else xR mL_acts 248 ls (st) σ := y_icmp_ne xe_L_acts dL_acts_245 (by decide)
theorem r_L_acts_248 {ls : xL} {st : List Value} {σ : xS}  : xR mL_acts 248 ls (st) σ = xR mL_acts 250 ls (.int (nI 101) :: st) σ := y_bipush xe_L_acts dL_acts_248 (by decide +kernel)
theorem r_L_acts_250 {ls : xL} {st : List Value} {σ : xS}  : xR mL_acts 250 ls (st) σ = xR mL_acts 270 ls (st) σ := y_goto xe_L_acts dL_acts_250 (by decide)
theorem r_L_acts_253 {ls : xL} {st : List Value} {σ : xS}  : xR mL_acts 253 ls (st) σ = gI (lget ls 5) (fun x => xR mL_acts 255 ls (.int x :: st) σ) := y_iload xe_L_acts dL_acts_253
theorem r_L_acts_255 {ls : xL} {st : List Value} {σ : xS}  : xR mL_acts 255 ls (st) σ = xR mL_acts 256 ls (.int (nI 4) :: st) σ := y_iconst xe_L_acts dL_acts_255 (by decide +kernel)
theorem r_L_acts_256 {ls : xL} {st : List Value} {σ : xS} {x y : Int32} : xR mL_acts 256 ls (.int y :: .int x :: st) σ = if y = 0 then none else xR mL_acts 257 ls (.int (x / y) :: st) σ := y_idiv xe_L_acts dL_acts_256
theorem r_L_acts_257 {ls : xL} {st : List Value} {σ : xS}  : xR mL_acts 257 ls (st) σ = xR mL_acts 258 ls (.int (nI 4) :: st) σ := y_iconst xe_L_acts dL_acts_257 (by decide +kernel)
theorem r_L_acts_258 {ls : xL} {st : List Value} {σ : xS} {x y : Int32} : xR mL_acts 258 ls (.int y :: .int x :: st) σ = if y = 0 then none else xR mL_acts 259 ls (.int (x - x / y * y) :: st) σ := y_irem xe_L_acts dL_acts_258
theorem r_L_acts_259 {ls : xL} {st : List Value} {σ : xS}  : xR mL_acts 259 ls (st) σ = xR mL_acts 260 ls (.int (nI 2) :: st) σ := y_iconst xe_L_acts dL_acts_259 (by decide +kernel)
theorem r_L_acts_260 {ls : xL} {st : List Value} {σ : xS} {x y : Int32} : xR mL_acts 260 ls (.int y :: .int x :: st) σ = if ¬ x = y then xR mL_acts 268 ls (st) σ else xR mL_acts 263 ls (st) σ := y_icmp_ne xe_L_acts dL_acts_260 (by decide)
theorem r_L_acts_263 {ls : xL} {st : List Value} {σ : xS}  : xR mL_acts 263 ls (st) σ = xR mL_acts 265 ls (.int (nI 115) :: st) σ := y_bipush xe_L_acts dL_acts_263 (by decide +kernel)
theorem r_L_acts_265 {ls : xL} {st : List Value} {σ : xS}  : xR mL_acts 265 ls (st) σ = xR mL_acts 270 ls (st) σ := y_goto xe_L_acts dL_acts_265 (by decide)
theorem r_L_acts_268 {ls : xL} {st : List Value} {σ : xS}  : xR mL_acts 268 ls (st) σ = xR mL_acts 270 ls (.int (nI 119) :: st) σ := y_bipush xe_L_acts dL_acts_268 (by decide +kernel)
theorem r_L_acts_270 {ls : xL} {st : List Value} {σ : xS} {x0 : Nat} {x1 : Int32} : xR mL_acts 270 ls (.int x1 :: .ref x0 :: st) σ = yC (xwid st) (xC1 mL_append [.ref x0, .int x1] σ) (fun v τ => xR mL_acts 273 ls (v.toList ++ st) τ) := y_cL (as := [.ref x0, .int x1]) xe_L_acts dL_acts_270 cl_8_96 rfl xe_L_append ⟨Nat.le_of_ble_eq_true rfl, Nat.le_of_ble_eq_true rfl⟩ (Nat.le_of_ble_eq_true rfl) (by decide)
theorem r_L_acts_273 {ls : xL} {st : List Value} {σ : xS} {x : Int32} : xR mL_acts 273 ls (.int x :: st) σ = (lst1 ls 3 (some (.int x))).bind (fun l => xR mL_acts 274 l (st) σ) := y_istore_n xe_L_acts dL_acts_273
theorem r_L_acts_274 {ls : xL} {st : List Value} {σ : xS}  : xR mL_acts 274 ls (st) σ = gA (lget ls 0) (fun x => xR mL_acts 275 ls (.ref x :: st) σ) := y_aload_n xe_L_acts dL_acts_274
theorem r_L_acts_275 {ls : xL} {st : List Value} {σ : xS}  : xR mL_acts 275 ls (st) σ = xR mL_acts 277 ls (.int (nI 49) :: st) σ := y_bipush xe_L_acts dL_acts_275 (by decide +kernel)
theorem r_L_acts_277 {ls : xL} {st : List Value} {σ : xS}  : xR mL_acts 277 ls (st) σ = gI (lget ls 5) (fun x => xR mL_acts 279 ls (.int x :: st) σ) := y_iload xe_L_acts dL_acts_277
theorem r_L_acts_279 {ls : xL} {st : List Value} {σ : xS}  : xR mL_acts 279 ls (st) σ = xR mL_acts 281 ls (.int (nI 16) :: st) σ := y_bipush xe_L_acts dL_acts_279 (by decide +kernel)
theorem r_L_acts_281 {ls : xL} {st : List Value} {σ : xS} {x y : Int32} : xR mL_acts 281 ls (.int y :: .int x :: st) σ = if y = 0 then none else xR mL_acts 282 ls (.int (x / y) :: st) σ := y_idiv xe_L_acts dL_acts_281
theorem r_L_acts_282 {ls : xL} {st : List Value} {σ : xS}  : xR mL_acts 282 ls (st) σ = xR mL_acts 284 ls (.int (nI 8) :: st) σ := y_bipush xe_L_acts dL_acts_282 (by decide +kernel)
theorem r_L_acts_284 {ls : xL} {st : List Value} {σ : xS} {x y : Int32} : xR mL_acts 284 ls (.int y :: .int x :: st) σ = if y = 0 then none else xR mL_acts 285 ls (.int (x - x / y * y) :: st) σ := y_irem xe_L_acts dL_acts_284
theorem r_L_acts_285 {ls : xL} {st : List Value} {σ : xS} {x y : Int32} : xR mL_acts 285 ls (.int y :: .int x :: st) σ = xR mL_acts 286 ls (.int (x + y) :: st) σ := y_iadd xe_L_acts dL_acts_285
theorem r_L_acts_286 {ls : xL} {st : List Value} {σ : xS} {x0 : Nat} {x1 : Int32} : xR mL_acts 286 ls (.int x1 :: .ref x0 :: st) σ = yC (xwid st) (xC1 mL_append [.ref x0, .int x1] σ) (fun v τ => xR mL_acts 289 ls (v.toList ++ st) τ) := y_cL (as := [.ref x0, .int x1]) xe_L_acts dL_acts_286 cl_8_96 rfl xe_L_append ⟨Nat.le_of_ble_eq_true rfl, Nat.le_of_ble_eq_true rfl⟩ (Nat.le_of_ble_eq_true rfl) (by decide)
theorem r_L_acts_289 {ls : xL} {st : List Value} {σ : xS} {x : Int32} : xR mL_acts 289 ls (.int x :: st) σ = (lst1 ls 3 (some (.int x))).bind (fun l => xR mL_acts 290 l (st) σ) := y_istore_n xe_L_acts dL_acts_289
theorem r_L_acts_290 {ls : xL} {st : List Value} {σ : xS}  : xR mL_acts 290 ls (st) σ = gI (lget ls 4) (fun x => (lst1 ls 4 (some (.int (x + (nI 1))))).bind (fun l => xR mL_acts 293 l (st) σ)) := y_iinc xe_L_acts dL_acts_290 (by decide +kernel)
theorem r_L_acts_293 {ls : xL} {st : List Value} {σ : xS}  : xR mL_acts 293 ls (st) σ = xR mL_acts 155 ls (st) σ := y_goto xe_L_acts dL_acts_293 (by decide)
theorem r_L_acts_296 {ls : xL} {st : List Value} {σ : xS}  : xR mL_acts 296 ls (st) σ = gI (lget ls 3) (fun x => xR mL_acts 297 ls (.int x :: st) σ) := y_iload_n xe_L_acts dL_acts_296
theorem r_L_acts_297 {ls : xL} {st : List Value} {σ : xS}  : xR mL_acts 297 ls (st) σ = xR mL_acts 298 ls (.int (nI 1) :: st) σ := y_iconst xe_L_acts dL_acts_297 (by decide +kernel)
theorem r_L_acts_298 {ls : xL} {st : List Value} {σ : xS} {x y : Int32} : xR mL_acts 298 ls (.int y :: .int x :: st) σ = if x < y then xR mL_acts 309 ls (st) σ else xR mL_acts 301 ls (st) σ := y_icmp_lt xe_L_acts dL_acts_298 (by decide)
theorem r_L_acts_301 {ls : xL} {st : List Value} {σ : xS}  : xR mL_acts 301 ls (st) σ = gA (lget ls 0) (fun x => xR mL_acts 302 ls (.ref x :: st) σ) := y_aload_n xe_L_acts dL_acts_301
theorem r_L_acts_302 {ls : xL} {st : List Value} {σ : xS} {a : Nat}  : xR mL_acts 302 ls (.ref a :: st) σ = yV (hcls σ a) 5 (xwid st) (xC1 mX6_firstError [.ref a] σ) (fun v τ => xR mL_acts 305 ls (v.toList ++ st) τ) := y_cV (as := [.ref a]) (as2 := []) (r := (vwCl[5]?).getD default) xe_L_acts dL_acts_302 cl_8_99 rfl rfl rfl rfl xe_X6_firstError ⟨Nat.le_of_ble_eq_true rfl, Nat.le_of_ble_eq_true rfl⟩ (Nat.le_of_ble_eq_true rfl) (by decide)
theorem r_L_acts_305 {ls : xL} {st : List Value} {σ : xS}  : xR mL_acts 305 ls (st) σ = gI (lget ls 3) (fun x => xR mL_acts 306 ls (.int x :: st) σ) := y_iload_n xe_L_acts dL_acts_305
theorem r_L_acts_306 {ls : xL} {st : List Value} {σ : xS} {x y : Int32} : xR mL_acts 306 ls (.int y :: .int x :: st) σ = if x = y then xR mL_acts 314 ls (st) σ else xR mL_acts 309 ls (st) σ := y_icmp_eq xe_L_acts dL_acts_306 (by decide)
theorem r_L_acts_309 {ls : xL} {st : List Value} {σ : xS}  : xR mL_acts 309 ls (st) σ = xR mL_acts 311 ls (.int (-9) :: st) σ := y_bipush xe_L_acts dL_acts_309 (by decide +kernel)
theorem r_L_acts_311 {ls : xL} {st : List Value} {σ : xS}  : xR mL_acts 311 ls (st) σ = xR mL_acts 318 ls (st) σ := y_goto xe_L_acts dL_acts_311 (by decide)
theorem r_L_acts_314 {ls : xL} {st : List Value} {σ : xS}  : xR mL_acts 314 ls (st) σ = gA (lget ls 0) (fun x => xR mL_acts 315 ls (.ref x :: st) σ) := y_aload_n xe_L_acts dL_acts_314
theorem r_L_acts_315 {ls : xL} {st : List Value} {σ : xS} {x0 : Nat} : xR mL_acts 315 ls (.ref x0 :: st) σ = yC (xwid st) (xC1 mL_play [.ref x0] σ) (fun v τ => xR mL_acts 318 ls (v.toList ++ st) τ) := y_cL (as := [.ref x0]) xe_L_acts dL_acts_315 cl_8_102 rfl xe_L_play ⟨Nat.le_of_ble_eq_true rfl, Nat.le_of_ble_eq_true rfl⟩ (Nat.le_of_ble_eq_true rfl) (by decide)
theorem r_L_acts_318 {ls : xL} {σ : xS} {x : Int32} : xR mL_acts 318 ls ([.int x]) σ = some (.inl (some (.int x)), σ) := y_iret xe_L_acts dL_acts_318 rfl
theorem r_L_acts_319 {ls : xL} {st : List Value} {σ : xS}  : xR mL_acts 319 ls (st) σ = gA (lget ls 0) (fun x => xR mL_acts 320 ls (.ref x :: st) σ) := y_aload_n xe_L_acts dL_acts_319
theorem r_L_acts_320 {ls : xL} {st : List Value} {σ : xS}  : xR mL_acts 320 ls (st) σ = gI (lget ls 2) (fun x => xR mL_acts 321 ls (.int x :: st) σ) := y_iload_n xe_L_acts dL_acts_320
theorem r_L_acts_321 {ls : xL} {st : List Value} {σ : xS}  : xR mL_acts 321 ls (st) σ = xR mL_acts 322 ls (.int (nI 3) :: st) σ := y_iconst xe_L_acts dL_acts_321 (by decide +kernel)
theorem r_L_acts_322 {ls : xL} {st : List Value} {σ : xS} {x y : Int32} : xR mL_acts 322 ls (.int y :: .int x :: st) σ = if y = 0 then none else xR mL_acts 323 ls (.int (x - x / y * y) :: st) σ := y_irem xe_L_acts dL_acts_322
theorem r_L_acts_323 {ls : xL} {st : List Value} {σ : xS}  : xR mL_acts 323 ls (st) σ = gI (lget ls 2) (fun x => xR mL_acts 324 ls (.int x :: st) σ) := y_iload_n xe_L_acts dL_acts_323
theorem r_L_acts_324 {ls : xL} {st : List Value} {σ : xS}  : xR mL_acts 324 ls (st) σ = xR mL_acts 325 ls (.int (nI 3) :: st) σ := y_iconst xe_L_acts dL_acts_324 (by decide +kernel)
theorem r_L_acts_325 {ls : xL} {st : List Value} {σ : xS} {x y : Int32} : xR mL_acts 325 ls (.int y :: .int x :: st) σ = if y = 0 then none else xR mL_acts 326 ls (.int (x / y) :: st) σ := y_idiv xe_L_acts dL_acts_325
theorem r_L_acts_326 {ls : xL} {st : List Value} {σ : xS}  : xR mL_acts 326 ls (st) σ = xR mL_acts 327 ls (.int (nI 4) :: st) σ := y_iconst xe_L_acts dL_acts_326 (by decide +kernel)
theorem r_L_acts_327 {ls : xL} {st : List Value} {σ : xS} {x y : Int32} : xR mL_acts 327 ls (.int y :: .int x :: st) σ = if y = 0 then none else xR mL_acts 328 ls (.int (x - x / y * y) :: st) σ := y_irem xe_L_acts dL_acts_327
theorem r_L_acts_328 {ls : xL} {st : List Value} {σ : xS}  : xR mL_acts 328 ls (st) σ = xR mL_acts 329 ls (.int (nI 1) :: st) σ := y_iconst xe_L_acts dL_acts_328 (by decide +kernel)
theorem r_L_acts_329 {ls : xL} {st : List Value} {σ : xS}  : xR mL_acts 329 ls (st) σ = gI (lget ls 2) (fun x => xR mL_acts 330 ls (.int x :: st) σ) := y_iload_n xe_L_acts dL_acts_329
theorem r_L_acts_330 {ls : xL} {st : List Value} {σ : xS}  : xR mL_acts 330 ls (st) σ = xR mL_acts 332 ls (.int (nI 12) :: st) σ := y_bipush xe_L_acts dL_acts_330 (by decide +kernel)
theorem r_L_acts_332 {ls : xL} {st : List Value} {σ : xS} {x y : Int32} : xR mL_acts 332 ls (.int y :: .int x :: st) σ = if y = 0 then none else xR mL_acts 333 ls (.int (x / y) :: st) σ := y_idiv xe_L_acts dL_acts_332
theorem r_L_acts_333 {ls : xL} {st : List Value} {σ : xS}  : xR mL_acts 333 ls (st) σ = xR mL_acts 335 ls (.int (nI 8) :: st) σ := y_bipush xe_L_acts dL_acts_333 (by decide +kernel)
theorem r_L_acts_335 {ls : xL} {st : List Value} {σ : xS} {x y : Int32} : xR mL_acts 335 ls (.int y :: .int x :: st) σ = if y = 0 then none else xR mL_acts 336 ls (.int (x - x / y * y) :: st) σ := y_irem xe_L_acts dL_acts_335
theorem r_L_acts_336 {ls : xL} {st : List Value} {σ : xS} {x y : Int32} : xR mL_acts 336 ls (.int y :: .int x :: st) σ = xR mL_acts 337 ls (.int (x + y) :: st) σ := y_iadd xe_L_acts dL_acts_336
theorem r_L_acts_337 {ls : xL} {st : List Value} {σ : xS} {x0 : Nat} {x1 : Int32} {x2 : Int32} {x3 : Int32} : xR mL_acts 337 ls (.int x3 :: .int x2 :: .int x1 :: .ref x0 :: st) σ = yC (xwid st) (xC1 mL_glide [.ref x0, .int x1, .int x2, .int x3] σ) (fun v τ => xR mL_acts 340 ls (v.toList ++ st) τ) := y_cL (as := [.ref x0, .int x1, .int x2, .int x3]) xe_L_acts dL_acts_337 cl_8_104 rfl xe_L_glide ⟨Nat.le_of_ble_eq_true rfl, Nat.le_of_ble_eq_true rfl⟩ (Nat.le_of_ble_eq_true rfl) (by decide)
theorem r_L_acts_340 {ls : xL} {σ : xS} {x : Int32} : xR mL_acts 340 ls ([.int x]) σ = some (.inl (some (.int x)), σ) := y_iret xe_L_acts dL_acts_340 rfl
theorem r_L_hole_0 {ls : xL} {st : List Value} {σ : xS}  : xR mL_hole 0 ls (st) σ = gA (lget ls 0) (fun x => xR mL_hole 1 ls (.ref x :: st) σ) := y_aload_n xe_L_hole dL_hole_0
theorem r_L_hole_1 {ls : xL} {st : List Value} {σ : xS}  : xR mL_hole 1 ls (st) σ = gI (lget ls 1) (fun x => xR mL_hole 2 ls (.int x :: st) σ) := y_iload_n xe_L_hole dL_hole_1
theorem r_L_hole_2 {ls : xL} {st : List Value} {σ : xS}  : xR mL_hole 2 ls (st) σ = gI (lget ls 2) (fun x => xR mL_hole 3 ls (.int x :: st) σ) := y_iload_n xe_L_hole dL_hole_2
theorem r_L_hole_3 {ls : xL} {σ : xS} {a : Nat} {x0 : Int32} {x1 : Int32} (hc : hcls σ a = some 5) : xR mL_hole 3 ls [.int x1, .int x0, .ref a] σ = (match xC1 mX6_hole [.ref a, .int x0, .int x1] σ with
      | none => none
      | some (.inl v, σ2) => xR mL_hole 6 ls (v.toList ++ []) σ2
      | some (.inr x, σ2) => (match xcat mL_hole 3 x ls with
        | some (pc2, l2) => xR mL_hole pc2 l2 [] σ2
        | none => none)) := y_cT (as := [.ref a, .int x0, .int x1]) (as2 := [.int x0, .int x1]) (r := (vwCl[5]?).getD default) xe_L_hole dL_hole_3 cl_8_19 rfl rfl rfl rfl xe_X6_hole ⟨Nat.le_of_ble_eq_true rfl, Nat.le_of_ble_eq_true rfl⟩ (Nat.le_of_ble_eq_true rfl) (Nat.le_of_ble_eq_true rfl) hc
theorem r_L_hole_6 {ls : xL} {σ : xS} {x : Int32} : xR mL_hole 6 ls ([.int x]) σ = some (.inl (some (.int x)), σ) := y_iret xe_L_hole dL_hole_6 rfl
theorem r_L_hole_8 {ls : xL} {st : List Value} {σ : xS}  : xR mL_hole 8 ls (st) σ = xR mL_hole 10 ls (.int (-3) :: st) σ := y_bipush xe_L_hole dL_hole_8 (by decide +kernel)
theorem r_L_hole_10 {ls : xL} {σ : xS} {x : Int32} : xR mL_hole 10 ls ([.int x]) σ = some (.inl (some (.int x)), σ) := y_iret xe_L_hole dL_hole_10 rfl
theorem r_L_hole_12 {ls : xL} {st : List Value} {σ : xS}  : xR mL_hole 12 ls (st) σ = xR mL_hole 14 ls (.int (-2) :: st) σ := y_bipush xe_L_hole dL_hole_12 (by decide +kernel)
theorem r_L_hole_14 {ls : xL} {σ : xS} {x : Int32} : xR mL_hole 14 ls ([.int x]) σ = some (.inl (some (.int x)), σ) := y_iret xe_L_hole dL_hole_14 rfl
theorem r_L_pay_0 {ls : xL} {st : List Value} {σ : xS}  : xR mL_pay 0 ls (st) σ = gA (lget ls 0) (fun x => xR mL_pay 1 ls (.ref x :: st) σ) := y_aload_n xe_L_pay dL_pay_0
theorem r_L_pay_1 {ls : xL} {st : List Value} {σ : xS}  : xR mL_pay 1 ls (st) σ = gI (lget ls 1) (fun x => xR mL_pay 2 ls (.int x :: st) σ) := y_iload_n xe_L_pay dL_pay_1
theorem r_L_pay_2 {ls : xL} {st : List Value} {σ : xS}  : xR mL_pay 2 ls (st) σ = gI (lget ls 2) (fun x => xR mL_pay 3 ls (.int x :: st) σ) := y_iload_n xe_L_pay dL_pay_2
theorem r_L_pay_3 {ls : xL} {σ : xS} {a : Nat} {x0 : Int32} {x1 : Int32} (hc : hcls σ a = some 5) : xR mL_pay 3 ls [.int x1, .int x0, .ref a] σ = (match xC1 mX6_pay [.ref a, .int x0, .int x1] σ with
      | none => none
      | some (.inl v, σ2) => xR mL_pay 6 ls (v.toList ++ []) σ2
      | some (.inr x, σ2) => (match xcat mL_pay 3 x ls with
        | some (pc2, l2) => xR mL_pay pc2 l2 [] σ2
        | none => none)) := y_cT (as := [.ref a, .int x0, .int x1]) (as2 := [.int x0, .int x1]) (r := (vwCl[5]?).getD default) xe_L_pay dL_pay_3 cl_8_25 rfl rfl rfl rfl xe_X6_pay ⟨Nat.le_of_ble_eq_true rfl, Nat.le_of_ble_eq_true rfl⟩ (Nat.le_of_ble_eq_true rfl) (Nat.le_of_ble_eq_true rfl) hc
theorem r_L_pay_6 {ls : xL} {σ : xS} {x : Int32} : xR mL_pay 6 ls ([.int x]) σ = some (.inl (some (.int x)), σ) := y_iret xe_L_pay dL_pay_6 rfl
theorem r_L_pay_8 {ls : xL} {st : List Value} {σ : xS}  : xR mL_pay 8 ls (st) σ = xR mL_pay 10 ls (.int (-3) :: st) σ := y_bipush xe_L_pay dL_pay_8 (by decide +kernel)
theorem r_L_pay_10 {ls : xL} {σ : xS} {x : Int32} : xR mL_pay 10 ls ([.int x]) σ = some (.inl (some (.int x)), σ) := y_iret xe_L_pay dL_pay_10 rfl
theorem r_L_pay_12 {ls : xL} {st : List Value} {σ : xS}  : xR mL_pay 12 ls (st) σ = xR mL_pay 14 ls (.int (-2) :: st) σ := y_bipush xe_L_pay dL_pay_12 (by decide +kernel)
theorem r_L_pay_14 {ls : xL} {σ : xS} {x : Int32} : xR mL_pay 14 ls ([.int x]) σ = some (.inl (some (.int x)), σ) := y_iret xe_L_pay dL_pay_14 rfl
theorem r_L_pay_16 {ls : xL} {st : List Value} {σ : xS}  : xR mL_pay 16 ls (st) σ = xR mL_pay 18 ls (.int (-4) :: st) σ := y_bipush xe_L_pay dL_pay_16 (by decide +kernel)
theorem r_L_pay_18 {ls : xL} {σ : xS} {x : Int32} : xR mL_pay 18 ls ([.int x]) σ = some (.inl (some (.int x)), σ) := y_iret xe_L_pay dL_pay_18 rfl
theorem r_L_set_0 {ls : xL} {st : List Value} {σ : xS}  : xR mL_set 0 ls (st) σ = gA (lget ls 0) (fun x => xR mL_set 1 ls (.ref x :: st) σ) := y_aload_n xe_L_set dL_set_0
theorem r_L_set_1 {ls : xL} {st : List Value} {σ : xS}  : xR mL_set 1 ls (st) σ = gI (lget ls 1) (fun x => xR mL_set 2 ls (.int x :: st) σ) := y_iload_n xe_L_set dL_set_1
theorem r_L_set_2 {ls : xL} {st : List Value} {σ : xS}  : xR mL_set 2 ls (st) σ = gI (lget ls 2) (fun x => xR mL_set 3 ls (.int x :: st) σ) := y_iload_n xe_L_set dL_set_2
theorem r_L_set_3 {ls : xL} {σ : xS} {a : Nat} {x0 : Int32} {x1 : Int32} (hc : hcls σ a = some 5) : xR mL_set 3 ls [.int x1, .int x0, .ref a] σ = (match xC1 mX6_set [.ref a, .int x0, .int x1] σ with
      | none => none
      | some (.inl v, σ2) => xR mL_set 6 ls (v.toList ++ []) σ2
      | some (.inr x, σ2) => (match xcat mL_set 3 x ls with
        | some (pc2, l2) => xR mL_set pc2 l2 [] σ2
        | none => none)) := y_cT (as := [.ref a, .int x0, .int x1]) (as2 := [.int x0, .int x1]) (r := (vwCl[5]?).getD default) xe_L_set dL_set_3 cl_8_28 rfl rfl rfl rfl xe_X6_set ⟨Nat.le_of_ble_eq_true rfl, Nat.le_of_ble_eq_true rfl⟩ (Nat.le_of_ble_eq_true rfl) (Nat.le_of_ble_eq_true rfl) hc
theorem r_L_set_6 {ls : xL} {σ : xS} {x : Int32} : xR mL_set 6 ls ([.int x]) σ = some (.inl (some (.int x)), σ) := y_iret xe_L_set dL_set_6 rfl
theorem r_L_set_8 {ls : xL} {st : List Value} {σ : xS}  : xR mL_set 8 ls (st) σ = xR mL_set 10 ls (.int (-3) :: st) σ := y_bipush xe_L_set dL_set_8 (by decide +kernel)
theorem r_L_set_10 {ls : xL} {σ : xS} {x : Int32} : xR mL_set 10 ls ([.int x]) σ = some (.inl (some (.int x)), σ) := y_iret xe_L_set dL_set_10 rfl
theorem r_L_set_12 {ls : xL} {st : List Value} {σ : xS}  : xR mL_set 12 ls (st) σ = xR mL_set 14 ls (.int (-2) :: st) σ := y_bipush xe_L_set dL_set_12 (by decide +kernel)
theorem r_L_set_14 {ls : xL} {σ : xS} {x : Int32} : xR mL_set 14 ls ([.int x]) σ = some (.inl (some (.int x)), σ) := y_iret xe_L_set dL_set_14 rfl
theorem r_L_append_0 {ls : xL} {st : List Value} {σ : xS}  : xR mL_append 0 ls (st) σ = gA (lget ls 0) (fun x => xR mL_append 1 ls (.ref x :: st) σ) := y_aload_n xe_L_append dL_append_0
theorem r_L_append_1 {ls : xL} {st : List Value} {σ : xS}  : xR mL_append 1 ls (st) σ = gI (lget ls 1) (fun x => xR mL_append 2 ls (.int x :: st) σ) := y_iload_n xe_L_append dL_append_1
theorem r_L_append_2 {ls : xL} {σ : xS} {a : Nat} {x0 : Int32} (hc : hcls σ a = some 5) : xR mL_append 2 ls [.int x0, .ref a] σ = (match xC1 mX6_append [.ref a, .int x0] σ with
      | none => none
      | some (.inl v, σ2) => xR mL_append 5 ls (v.toList ++ []) σ2
      | some (.inr x, σ2) => (match xcat mL_append 2 x ls with
        | some (pc2, l2) => xR mL_append pc2 l2 [] σ2
        | none => none)) := y_cT (as := [.ref a, .int x0]) (as2 := [.int x0]) (r := (vwCl[5]?).getD default) xe_L_append dL_append_2 cl_8_51 rfl rfl rfl rfl xe_X6_append ⟨Nat.le_of_ble_eq_true rfl, Nat.le_of_ble_eq_true rfl⟩ (Nat.le_of_ble_eq_true rfl) (Nat.le_of_ble_eq_true rfl) hc
theorem r_L_append_5 {ls : xL} {σ : xS} {x : Int32} : xR mL_append 5 ls ([.int x]) σ = some (.inl (some (.int x)), σ) := y_iret xe_L_append dL_append_5 rfl
theorem r_L_append_7 {ls : xL} {st : List Value} {σ : xS}  : xR mL_append 7 ls (st) σ = xR mL_append 9 ls (.int (-2) :: st) σ := y_bipush xe_L_append dL_append_7 (by decide +kernel)
theorem r_L_append_9 {ls : xL} {σ : xS} {x : Int32} : xR mL_append 9 ls ([.int x]) σ = some (.inl (some (.int x)), σ) := y_iret xe_L_append dL_append_9 rfl
theorem r_L_append_11 {ls : xL} {st : List Value} {σ : xS}  : xR mL_append 11 ls (st) σ = xR mL_append 13 ls (.int (-3) :: st) σ := y_bipush xe_L_append dL_append_11 (by decide +kernel)
theorem r_L_append_13 {ls : xL} {σ : xS} {x : Int32} : xR mL_append 13 ls ([.int x]) σ = some (.inl (some (.int x)), σ) := y_iret xe_L_append dL_append_13 rfl
theorem r_L_glide_0 {ls : xL} {st : List Value} {σ : xS}  : xR mL_glide 0 ls (st) σ = gA (lget ls 0) (fun x => xR mL_glide 1 ls (.ref x :: st) σ) := y_aload_n xe_L_glide dL_glide_0
theorem r_L_glide_1 {ls : xL} {st : List Value} {σ : xS}  : xR mL_glide 1 ls (st) σ = gI (lget ls 1) (fun x => xR mL_glide 2 ls (.int x :: st) σ) := y_iload_n xe_L_glide dL_glide_1
theorem r_L_glide_2 {ls : xL} {st : List Value} {σ : xS}  : xR mL_glide 2 ls (st) σ = gI (lget ls 2) (fun x => xR mL_glide 3 ls (.int x :: st) σ) := y_iload_n xe_L_glide dL_glide_2
theorem r_L_glide_3 {ls : xL} {st : List Value} {σ : xS}  : xR mL_glide 3 ls (st) σ = gI (lget ls 3) (fun x => xR mL_glide 4 ls (.int x :: st) σ) := y_iload_n xe_L_glide dL_glide_3
theorem r_L_glide_4 {ls : xL} {σ : xS} {a : Nat} {x0 : Int32} {x1 : Int32} {x2 : Int32} (hc : hcls σ a = some 5) : xR mL_glide 4 ls [.int x2, .int x1, .int x0, .ref a] σ = (match xC1 mX6_glide [.ref a, .int x0, .int x1, .int x2] σ with
      | none => none
      | some (.inl v, σ2) => xR mL_glide 7 ls (v.toList ++ []) σ2
      | some (.inr x, σ2) => (match xcat mL_glide 4 x ls with
        | some (pc2, l2) => xR mL_glide pc2 l2 [] σ2
        | none => none)) := y_cT (as := [.ref a, .int x0, .int x1, .int x2]) (as2 := [.int x0, .int x1, .int x2]) (r := (vwCl[5]?).getD default) xe_L_glide dL_glide_4 cl_8_9 rfl rfl rfl rfl xe_X6_glide ⟨Nat.le_of_ble_eq_true rfl, Nat.le_of_ble_eq_true rfl⟩ (Nat.le_of_ble_eq_true rfl) (Nat.le_of_ble_eq_true rfl) hc
theorem r_L_glide_7 {ls : xL} {σ : xS} {x : Int32} : xR mL_glide 7 ls ([.int x]) σ = some (.inl (some (.int x)), σ) := y_iret xe_L_glide dL_glide_7 rfl
theorem r_L_glide_10 {ls : xL} {st : List Value} {σ : xS}  : xR mL_glide 10 ls (st) σ = xR mL_glide 12 ls (.int (-3) :: st) σ := y_bipush xe_L_glide dL_glide_10 (by decide +kernel)
theorem r_L_glide_12 {ls : xL} {σ : xS} {x : Int32} : xR mL_glide 12 ls ([.int x]) σ = some (.inl (some (.int x)), σ) := y_iret xe_L_glide dL_glide_12 rfl
theorem r_L_glide_15 {ls : xL} {st : List Value} {σ : xS}  : xR mL_glide 15 ls (st) σ = xR mL_glide 17 ls (.int (-2) :: st) σ := y_bipush xe_L_glide dL_glide_15 (by decide +kernel)
theorem r_L_glide_17 {ls : xL} {σ : xS} {x : Int32} : xR mL_glide 17 ls ([.int x]) σ = some (.inl (some (.int x)), σ) := y_iret xe_L_glide dL_glide_17 rfl
theorem r_L_hangs_0 {ls : xL} {st : List Value} {σ : xS}  : xR mL_hangs 0 ls (st) σ = xR mL_hangs 1 ls (.int (nI 0) :: st) σ := y_iconst xe_L_hangs dL_hangs_0 (by decide +kernel)
theorem r_L_hangs_1 {ls : xL} {st : List Value} {σ : xS} {x : Int32} : xR mL_hangs 1 ls (.int x :: st) σ = (lst1 ls 1 (some (.int x))).bind (fun l => xR mL_hangs 2 l (st) σ) := y_istore_n xe_L_hangs dL_hangs_1
theorem r_L_hangs_2 {ls : xL} {st : List Value} {σ : xS}  : xR mL_hangs 2 ls (st) σ = xR mL_hangs 3 ls (.int (nI 0) :: st) σ := y_iconst xe_L_hangs dL_hangs_2 (by decide +kernel)
theorem r_L_hangs_3 {ls : xL} {st : List Value} {σ : xS} {x : Int32} : xR mL_hangs 3 ls (.int x :: st) σ = (lst1 ls 2 (some (.int x))).bind (fun l => xR mL_hangs 4 l (st) σ) := y_istore_n xe_L_hangs dL_hangs_3
theorem r_L_hangs_4 {ls : xL} {st : List Value} {σ : xS}  : xR mL_hangs 4 ls (st) σ = xR mL_hangs 5 ls (.int (nI 1) :: st) σ := y_iconst xe_L_hangs dL_hangs_4 (by decide +kernel)
theorem r_L_hangs_5 {ls : xL} {st : List Value} {σ : xS} {x : Int32} : xR mL_hangs 5 ls (.int x :: st) σ = (lst1 ls 3 (some (.int x))).bind (fun l => xR mL_hangs 6 l (st) σ) := y_istore_n xe_L_hangs dL_hangs_5
theorem r_L_hangs_6 {ls : xL} {st : List Value} {σ : xS}  : xR mL_hangs 6 ls (st) σ = xR mL_hangs 7 ls (.int (nI 0) :: st) σ := y_iconst xe_L_hangs dL_hangs_6 (by decide +kernel)
theorem r_L_hangs_7 {ls : xL} {st : List Value} {σ : xS} {x : Int32} : xR mL_hangs 7 ls (.int x :: st) σ = (lst1 ls 4 (some (.int x))).bind (fun l => xR mL_hangs 9 l (st) σ) := y_istore xe_L_hangs dL_hangs_7
theorem r_L_hangs_9 {ls : xL} {st : List Value} {σ : xS}  : xR mL_hangs 9 ls (st) σ = gI (lget ls 4) (fun x => xR mL_hangs 11 ls (.int x :: st) σ) := y_iload xe_L_hangs dL_hangs_9
theorem r_L_hangs_11 {ls : xL} {st : List Value} {σ : xS}  : xR mL_hangs 11 ls (st) σ = xR mL_hangs 13 ls (.int (nI 64) :: st) σ := y_bipush xe_L_hangs dL_hangs_11 (by decide +kernel)
theorem r_L_hangs_13 {ls : xL} {st : List Value} {σ : xS} {x y : Int32} : xR mL_hangs 13 ls (.int y :: .int x :: st) σ = if y ≤ x then xR mL_hangs 348 ls (st) σ else xR mL_hangs 16 ls (st) σ := y_icmp_ge xe_L_hangs dL_hangs_13 (by decide)
theorem r_L_hangs_16 {ls : xL} {st : List Value} {σ : xS}  : xR mL_hangs 16 ls (st) σ = gI (lget ls 3) (fun x => xR mL_hangs 17 ls (.int x :: st) σ) := y_iload_n xe_L_hangs dL_hangs_16
theorem r_L_hangs_17 {ls : xL} {st : List Value} {σ : xS} {x : Int32} : xR mL_hangs 17 ls (.int x :: st) σ = if x = 0 then xR mL_hangs 348 ls (st) σ else xR mL_hangs 20 ls (st) σ := y_if_eq xe_L_hangs dL_hangs_17 (by decide)
theorem r_L_hangs_20 {ls : xL} {st : List Value} {σ : xS}  : xR mL_hangs 20 ls (st) σ = gI (lget ls 4) (fun x => xR mL_hangs 22 ls (.int x :: st) σ) := y_iload xe_L_hangs dL_hangs_20
theorem r_L_hangs_22 {ls : xL} {st : List Value} {σ : xS}  : xR mL_hangs 22 ls (st) σ = xR mL_hangs 24 ls (.int (nI 8) :: st) σ := y_bipush xe_L_hangs dL_hangs_22 (by decide +kernel)
theorem r_L_hangs_24 {ls : xL} {st : List Value} {σ : xS} {x y : Int32} : xR mL_hangs 24 ls (.int y :: .int x :: st) σ = if y = 0 then none else xR mL_hangs 25 ls (.int (x - x / y * y) :: st) σ := y_irem xe_L_hangs dL_hangs_24
theorem r_L_hangs_25 {ls : xL} {st : List Value} {σ : xS} {x : Int32} : xR mL_hangs 25 ls (.int x :: st) σ = (lst1 ls 5 (some (.int x))).bind (fun l => xR mL_hangs 27 l (st) σ) := y_istore xe_L_hangs dL_hangs_25
theorem r_L_hangs_27 {ls : xL} {st : List Value} {σ : xS}  : xR mL_hangs 27 ls (st) σ = gI (lget ls 4) (fun x => xR mL_hangs 29 ls (.int x :: st) σ) := y_iload xe_L_hangs dL_hangs_27
theorem r_L_hangs_29 {ls : xL} {st : List Value} {σ : xS}  : xR mL_hangs 29 ls (st) σ = xR mL_hangs 31 ls (.int (nI 8) :: st) σ := y_bipush xe_L_hangs dL_hangs_29 (by decide +kernel)
theorem r_L_hangs_31 {ls : xL} {st : List Value} {σ : xS} {x y : Int32} : xR mL_hangs 31 ls (.int y :: .int x :: st) σ = if y = 0 then none else xR mL_hangs 32 ls (.int (x / y) :: st) σ := y_idiv xe_L_hangs dL_hangs_31
theorem r_L_hangs_32 {ls : xL} {st : List Value} {σ : xS} {x : Int32} : xR mL_hangs 32 ls (.int x :: st) σ = (lst1 ls 6 (some (.int x))).bind (fun l => xR mL_hangs 34 l (st) σ) := y_istore xe_L_hangs dL_hangs_32
theorem r_L_hangs_34 {ls : xL} {st : List Value} {σ : xS}  : xR mL_hangs 34 ls (st) σ = gA (lget ls 0) (fun x => xR mL_hangs 35 ls (.ref x :: st) σ) := y_aload_n xe_L_hangs dL_hangs_34
theorem r_L_hangs_35 {ls : xL} {st : List Value} {σ : xS}  : xR mL_hangs 35 ls (st) σ = gI (lget ls 5) (fun x => xR mL_hangs 37 ls (.int x :: st) σ) := y_iload xe_L_hangs dL_hangs_35
theorem r_L_hangs_37 {ls : xL} {st : List Value} {σ : xS}  : xR mL_hangs 37 ls (st) σ = gI (lget ls 6) (fun x => xR mL_hangs 39 ls (.int x :: st) σ) := y_iload xe_L_hangs dL_hangs_37
theorem r_L_hangs_39 {ls : xL} {st : List Value} {σ : xS}  : xR mL_hangs 39 ls (st) σ = xR mL_hangs 40 ls (.int (nI 0) :: st) σ := y_iconst xe_L_hangs dL_hangs_39 (by decide +kernel)
theorem r_L_hangs_40 {ls : xL} {st : List Value} {σ : xS} {x0 : Nat} {x1 : Int32} {x2 : Int32} {x3 : Int32} : xR mL_hangs 40 ls (.int x3 :: .int x2 :: .int x1 :: .ref x0 :: st) σ = yC (xwid st) (xC1 mL_pond [.ref x0, .int x1, .int x2, .int x3] σ) (fun v τ => xR mL_hangs 43 ls (v.toList ++ st) τ) := y_cL (as := [.ref x0, .int x1, .int x2, .int x3]) xe_L_hangs dL_hangs_40 cl_8_107 rfl xe_L_pond ⟨Nat.le_of_ble_eq_true rfl, Nat.le_of_ble_eq_true rfl⟩ (Nat.le_of_ble_eq_true rfl) (by decide)
theorem r_L_hangs_43 {ls : xL} {st : List Value} {σ : xS}  : xR mL_hangs 43 ls (st) σ = xR mL_hangs 44 ls (.int (nI 1) :: st) σ := y_iconst xe_L_hangs dL_hangs_43 (by decide +kernel)
theorem r_L_hangs_44 {ls : xL} {st : List Value} {σ : xS} {x y : Int32} : xR mL_hangs 44 ls (.int y :: .int x :: st) σ = if ¬ x = y then xR mL_hangs 51 ls (st) σ else xR mL_hangs 47 ls (st) σ := y_icmp_ne xe_L_hangs dL_hangs_44 (by decide)
theorem r_L_hangs_47 {ls : xL} {st : List Value} {σ : xS}  : xR mL_hangs 47 ls (st) σ = xR mL_hangs 48 ls (.int (nI 1) :: st) σ := y_iconst xe_L_hangs dL_hangs_47 (by decide +kernel)
theorem r_L_hangs_48 {ls : xL} {st : List Value} {σ : xS}  : xR mL_hangs 48 ls (st) σ = xR mL_hangs 52 ls (st) σ := y_goto xe_L_hangs dL_hangs_48 (by decide)
theorem r_L_hangs_51 {ls : xL} {st : List Value} {σ : xS}  : xR mL_hangs 51 ls (st) σ = xR mL_hangs 52 ls (.int (nI 0) :: st) σ := y_iconst xe_L_hangs dL_hangs_51 (by decide +kernel)
theorem r_L_hangs_52 {ls : xL} {st : List Value} {σ : xS} {x : Int32} : xR mL_hangs 52 ls (.int x :: st) σ = (lst1 ls 7 (some (.int x))).bind (fun l => xR mL_hangs 54 l (st) σ) := y_istore xe_L_hangs dL_hangs_52
theorem r_L_hangs_54 {ls : xL} {st : List Value} {σ : xS}  : xR mL_hangs 54 ls (st) σ = gA (lget ls 0) (fun x => xR mL_hangs 55 ls (.ref x :: st) σ) := y_aload_n xe_L_hangs dL_hangs_54
theorem r_L_hangs_55 {ls : xL} {st : List Value} {σ : xS}  : xR mL_hangs 55 ls (st) σ = gI (lget ls 5) (fun x => xR mL_hangs 57 ls (.int x :: st) σ) := y_iload xe_L_hangs dL_hangs_55
theorem r_L_hangs_57 {ls : xL} {st : List Value} {σ : xS}  : xR mL_hangs 57 ls (st) σ = gI (lget ls 6) (fun x => xR mL_hangs 59 ls (.int x :: st) σ) := y_iload xe_L_hangs dL_hangs_57
theorem r_L_hangs_59 {ls : xL} {st : List Value} {σ : xS}  : xR mL_hangs 59 ls (st) σ = xR mL_hangs 60 ls (.int (nI 1) :: st) σ := y_iconst xe_L_hangs dL_hangs_59 (by decide +kernel)
theorem r_L_hangs_60 {ls : xL} {st : List Value} {σ : xS} {x0 : Nat} {x1 : Int32} {x2 : Int32} {x3 : Int32} : xR mL_hangs 60 ls (.int x3 :: .int x2 :: .int x1 :: .ref x0 :: st) σ = yC (xwid st) (xC1 mL_pond [.ref x0, .int x1, .int x2, .int x3] σ) (fun v τ => xR mL_hangs 63 ls (v.toList ++ st) τ) := y_cL (as := [.ref x0, .int x1, .int x2, .int x3]) xe_L_hangs dL_hangs_60 cl_8_107 rfl xe_L_pond ⟨Nat.le_of_ble_eq_true rfl, Nat.le_of_ble_eq_true rfl⟩ (Nat.le_of_ble_eq_true rfl) (by decide)
theorem r_L_hangs_63 {ls : xL} {st : List Value} {σ : xS} {x : Int32} : xR mL_hangs 63 ls (.int x :: st) σ = (lst1 ls 8 (some (.int x))).bind (fun l => xR mL_hangs 65 l (st) σ) := y_istore xe_L_hangs dL_hangs_63
theorem r_L_hangs_65 {ls : xL} {st : List Value} {σ : xS}  : xR mL_hangs 65 ls (st) σ = gA (lget ls 0) (fun x => xR mL_hangs 66 ls (.ref x :: st) σ) := y_aload_n xe_L_hangs dL_hangs_65
theorem r_L_hangs_66 {ls : xL} {st : List Value} {σ : xS}  : xR mL_hangs 66 ls (st) σ = gI (lget ls 5) (fun x => xR mL_hangs 68 ls (.int x :: st) σ) := y_iload xe_L_hangs dL_hangs_66
theorem r_L_hangs_68 {ls : xL} {st : List Value} {σ : xS}  : xR mL_hangs 68 ls (st) σ = gI (lget ls 6) (fun x => xR mL_hangs 70 ls (.int x :: st) σ) := y_iload xe_L_hangs dL_hangs_68
theorem r_L_hangs_70 {ls : xL} {st : List Value} {σ : xS}  : xR mL_hangs 70 ls (st) σ = xR mL_hangs 71 ls (.int (nI 2) :: st) σ := y_iconst xe_L_hangs dL_hangs_70 (by decide +kernel)
theorem r_L_hangs_71 {ls : xL} {st : List Value} {σ : xS} {x0 : Nat} {x1 : Int32} {x2 : Int32} {x3 : Int32} : xR mL_hangs 71 ls (.int x3 :: .int x2 :: .int x1 :: .ref x0 :: st) σ = yC (xwid st) (xC1 mL_pond [.ref x0, .int x1, .int x2, .int x3] σ) (fun v τ => xR mL_hangs 74 ls (v.toList ++ st) τ) := y_cL (as := [.ref x0, .int x1, .int x2, .int x3]) xe_L_hangs dL_hangs_71 cl_8_107 rfl xe_L_pond ⟨Nat.le_of_ble_eq_true rfl, Nat.le_of_ble_eq_true rfl⟩ (Nat.le_of_ble_eq_true rfl) (by decide)
theorem r_L_hangs_74 {ls : xL} {st : List Value} {σ : xS} {x : Int32} : xR mL_hangs 74 ls (.int x :: st) σ = (lst1 ls 9 (some (.int x))).bind (fun l => xR mL_hangs 76 l (st) σ) := y_istore xe_L_hangs dL_hangs_74
theorem r_L_hangs_76 {ls : xL} {st : List Value} {σ : xS}  : xR mL_hangs 76 ls (st) σ = gA (lget ls 0) (fun x => xR mL_hangs 77 ls (.ref x :: st) σ) := y_aload_n xe_L_hangs dL_hangs_76
theorem r_L_hangs_77 {ls : xL} {st : List Value} {σ : xS}  : xR mL_hangs 77 ls (st) σ = gI (lget ls 5) (fun x => xR mL_hangs 79 ls (.int x :: st) σ) := y_iload xe_L_hangs dL_hangs_77
theorem r_L_hangs_79 {ls : xL} {st : List Value} {σ : xS}  : xR mL_hangs 79 ls (st) σ = gI (lget ls 6) (fun x => xR mL_hangs 81 ls (.int x :: st) σ) := y_iload xe_L_hangs dL_hangs_79
theorem r_L_hangs_81 {ls : xL} {st : List Value} {σ : xS}  : xR mL_hangs 81 ls (st) σ = xR mL_hangs 82 ls (.int (nI 5) :: st) σ := y_iconst xe_L_hangs dL_hangs_81 (by decide +kernel)
theorem r_L_hangs_82 {ls : xL} {st : List Value} {σ : xS} {x0 : Nat} {x1 : Int32} {x2 : Int32} {x3 : Int32} : xR mL_hangs 82 ls (.int x3 :: .int x2 :: .int x1 :: .ref x0 :: st) σ = yC (xwid st) (xC1 mL_pond [.ref x0, .int x1, .int x2, .int x3] σ) (fun v τ => xR mL_hangs 85 ls (v.toList ++ st) τ) := y_cL (as := [.ref x0, .int x1, .int x2, .int x3]) xe_L_hangs dL_hangs_82 cl_8_107 rfl xe_L_pond ⟨Nat.le_of_ble_eq_true rfl, Nat.le_of_ble_eq_true rfl⟩ (Nat.le_of_ble_eq_true rfl) (by decide)
theorem r_L_hangs_85 {ls : xL} {st : List Value} {σ : xS} {x : Int32} : xR mL_hangs 85 ls (.int x :: st) σ = (lst1 ls 10 (some (.int x))).bind (fun l => xR mL_hangs 87 l (st) σ) := y_istore xe_L_hangs dL_hangs_85
theorem r_L_hangs_87 {ls : xL} {st : List Value} {σ : xS}  : xR mL_hangs 87 ls (st) σ = gA (lget ls 0) (fun x => xR mL_hangs 88 ls (.ref x :: st) σ) := y_aload_n xe_L_hangs dL_hangs_87
theorem r_L_hangs_88 {ls : xL} {st : List Value} {σ : xS}  : xR mL_hangs 88 ls (st) σ = gI (lget ls 5) (fun x => xR mL_hangs 90 ls (.int x :: st) σ) := y_iload xe_L_hangs dL_hangs_88
theorem r_L_hangs_90 {ls : xL} {st : List Value} {σ : xS}  : xR mL_hangs 90 ls (st) σ = gI (lget ls 6) (fun x => xR mL_hangs 92 ls (.int x :: st) σ) := y_iload xe_L_hangs dL_hangs_90
theorem r_L_hangs_92 {ls : xL} {st : List Value} {σ : xS}  : xR mL_hangs 92 ls (st) σ = xR mL_hangs 93 ls (.int (nI 4) :: st) σ := y_iconst xe_L_hangs dL_hangs_92 (by decide +kernel)
theorem r_L_hangs_93 {ls : xL} {st : List Value} {σ : xS} {x0 : Nat} {x1 : Int32} {x2 : Int32} {x3 : Int32} : xR mL_hangs 93 ls (.int x3 :: .int x2 :: .int x1 :: .ref x0 :: st) σ = yC (xwid st) (xC1 mL_pond [.ref x0, .int x1, .int x2, .int x3] σ) (fun v τ => xR mL_hangs 96 ls (v.toList ++ st) τ) := y_cL (as := [.ref x0, .int x1, .int x2, .int x3]) xe_L_hangs dL_hangs_93 cl_8_107 rfl xe_L_pond ⟨Nat.le_of_ble_eq_true rfl, Nat.le_of_ble_eq_true rfl⟩ (Nat.le_of_ble_eq_true rfl) (by decide)
theorem r_L_hangs_96 {ls : xL} {st : List Value} {σ : xS} {x : Int32} : xR mL_hangs 96 ls (.int x :: st) σ = if x < 0 then xR mL_hangs 241 ls (st) σ else xR mL_hangs 99 ls (st) σ := y_if_lt xe_L_hangs dL_hangs_96 (by decide)
theorem r_L_hangs_99 {ls : xL} {st : List Value} {σ : xS}  : xR mL_hangs 99 ls (st) σ = gA (lget ls 0) (fun x => xR mL_hangs 100 ls (.ref x :: st) σ) := y_aload_n xe_L_hangs dL_hangs_99
theorem r_L_hangs_100 {ls : xL} {st : List Value} {σ : xS}  : xR mL_hangs 100 ls (st) σ = gI (lget ls 5) (fun x => xR mL_hangs 102 ls (.int x :: st) σ) := y_iload xe_L_hangs dL_hangs_100
theorem r_L_hangs_102 {ls : xL} {st : List Value} {σ : xS}  : xR mL_hangs 102 ls (st) σ = gI (lget ls 6) (fun x => xR mL_hangs 104 ls (.int x :: st) σ) := y_iload xe_L_hangs dL_hangs_102
theorem r_L_hangs_104 {ls : xL} {st : List Value} {σ : xS}  : xR mL_hangs 104 ls (st) σ = xR mL_hangs 105 ls (.int (nI 4) :: st) σ := y_iconst xe_L_hangs dL_hangs_104 (by decide +kernel)
theorem r_L_hangs_105 {ls : xL} {st : List Value} {σ : xS} {x0 : Nat} {x1 : Int32} {x2 : Int32} {x3 : Int32} : xR mL_hangs 105 ls (.int x3 :: .int x2 :: .int x1 :: .ref x0 :: st) σ = yC (xwid st) (xC1 mL_pond [.ref x0, .int x1, .int x2, .int x3] σ) (fun v τ => xR mL_hangs 108 ls (v.toList ++ st) τ) := y_cL (as := [.ref x0, .int x1, .int x2, .int x3]) xe_L_hangs dL_hangs_105 cl_8_107 rfl xe_L_pond ⟨Nat.le_of_ble_eq_true rfl, Nat.le_of_ble_eq_true rfl⟩ (Nat.le_of_ble_eq_true rfl) (by decide)
theorem r_L_hangs_108 {ls : xL} {st : List Value} {σ : xS}  : xR mL_hangs 108 ls (st) σ = xR mL_hangs 109 ls (.int (nI 4) :: st) σ := y_iconst xe_L_hangs dL_hangs_108 (by decide +kernel)
theorem r_L_hangs_109 {ls : xL} {st : List Value} {σ : xS} {x y : Int32} : xR mL_hangs 109 ls (.int y :: .int x :: st) σ = if y < x then xR mL_hangs 241 ls (st) σ else xR mL_hangs 112 ls (st) σ := y_icmp_gt xe_L_hangs dL_hangs_109 (by decide)
theorem r_L_hangs_112 {ls : xL} {st : List Value} {σ : xS}  : xR mL_hangs 112 ls (st) σ = gI (lget ls 7) (fun x => xR mL_hangs 114 ls (.int x :: st) σ) := y_iload xe_L_hangs dL_hangs_112
theorem r_L_hangs_114 {ls : xL} {st : List Value} {σ : xS} {x : Int32} : xR mL_hangs 114 ls (.int x :: st) σ = if x = 0 then xR mL_hangs 208 ls (st) σ else xR mL_hangs 117 ls (st) σ := y_if_eq xe_L_hangs dL_hangs_114 (by decide)
theorem r_L_hangs_117 {ls : xL} {st : List Value} {σ : xS}  : xR mL_hangs 117 ls (st) σ = gI (lget ls 8) (fun x => xR mL_hangs 119 ls (.int x :: st) σ) := y_iload xe_L_hangs dL_hangs_117
theorem r_L_hangs_119 {ls : xL} {st : List Value} {σ : xS}  : xR mL_hangs 119 ls (st) σ = xR mL_hangs 120 ls (.int (-1) :: st) σ := y_iconst xe_L_hangs dL_hangs_119 (by decide +kernel)
theorem r_L_hangs_120 {ls : xL} {st : List Value} {σ : xS} {x y : Int32} : xR mL_hangs 120 ls (.int y :: .int x :: st) σ = if x < y then xR mL_hangs 241 ls (st) σ else xR mL_hangs 123 ls (st) σ := y_icmp_lt xe_L_hangs dL_hangs_120 (by decide)
theorem r_L_hangs_123 {ls : xL} {st : List Value} {σ : xS}  : xR mL_hangs 123 ls (st) σ = gI (lget ls 8) (fun x => xR mL_hangs 125 ls (.int x :: st) σ) := y_iload xe_L_hangs dL_hangs_123
theorem r_L_hangs_125 {ls : xL} {st : List Value} {σ : xS}  : xR mL_hangs 125 ls (st) σ = xR mL_hangs 126 ls (.int (nI 3) :: st) σ := y_iconst xe_L_hangs dL_hangs_125 (by decide +kernel)
theorem r_L_hangs_126 {ls : xL} {st : List Value} {σ : xS} {x y : Int32} : xR mL_hangs 126 ls (.int y :: .int x :: st) σ = if y ≤ x then xR mL_hangs 241 ls (st) σ else xR mL_hangs 129 ls (st) σ := y_icmp_ge xe_L_hangs dL_hangs_126 (by decide)
theorem r_L_hangs_129 {ls : xL} {st : List Value} {σ : xS}  : xR mL_hangs 129 ls (st) σ = gI (lget ls 9) (fun x => xR mL_hangs 131 ls (.int x :: st) σ) := y_iload xe_L_hangs dL_hangs_129
theorem r_L_hangs_131 {ls : xL} {st : List Value} {σ : xS} {x : Int32} : xR mL_hangs 131 ls (.int x :: st) σ = if x < 0 then xR mL_hangs 241 ls (st) σ else xR mL_hangs 134 ls (st) σ := y_if_lt xe_L_hangs dL_hangs_131 (by decide)
theorem r_L_hangs_134 {ls : xL} {st : List Value} {σ : xS}  : xR mL_hangs 134 ls (st) σ = gI (lget ls 9) (fun x => xR mL_hangs 136 ls (.int x :: st) σ) := y_iload xe_L_hangs dL_hangs_134
theorem r_L_hangs_136 {ls : xL} {st : List Value} {σ : xS}  : xR mL_hangs 136 ls (st) σ = gI (lget ls 4) (fun x => xR mL_hangs 138 ls (.int x :: st) σ) := y_iload xe_L_hangs dL_hangs_136
theorem r_L_hangs_138 {ls : xL} {st : List Value} {σ : xS} {x y : Int32} : xR mL_hangs 138 ls (.int y :: .int x :: st) σ = if y < x then xR mL_hangs 241 ls (st) σ else xR mL_hangs 141 ls (st) σ := y_icmp_gt xe_L_hangs dL_hangs_138 (by decide)
theorem r_L_hangs_141 {ls : xL} {st : List Value} {σ : xS}  : xR mL_hangs 141 ls (st) σ = gA (lget ls 0) (fun x => xR mL_hangs 142 ls (.ref x :: st) σ) := y_aload_n xe_L_hangs dL_hangs_141
theorem r_L_hangs_142 {ls : xL} {st : List Value} {σ : xS}  : xR mL_hangs 142 ls (st) σ = gI (lget ls 9) (fun x => xR mL_hangs 144 ls (.int x :: st) σ) := y_iload xe_L_hangs dL_hangs_142
theorem r_L_hangs_144 {ls : xL} {st : List Value} {σ : xS}  : xR mL_hangs 144 ls (st) σ = xR mL_hangs 146 ls (.int (nI 8) :: st) σ := y_bipush xe_L_hangs dL_hangs_144 (by decide +kernel)
theorem r_L_hangs_146 {ls : xL} {st : List Value} {σ : xS} {x y : Int32} : xR mL_hangs 146 ls (.int y :: .int x :: st) σ = if y = 0 then none else xR mL_hangs 147 ls (.int (x - x / y * y) :: st) σ := y_irem xe_L_hangs dL_hangs_146
theorem r_L_hangs_147 {ls : xL} {st : List Value} {σ : xS}  : xR mL_hangs 147 ls (st) σ = gI (lget ls 9) (fun x => xR mL_hangs 149 ls (.int x :: st) σ) := y_iload xe_L_hangs dL_hangs_147
theorem r_L_hangs_149 {ls : xL} {st : List Value} {σ : xS}  : xR mL_hangs 149 ls (st) σ = xR mL_hangs 151 ls (.int (nI 8) :: st) σ := y_bipush xe_L_hangs dL_hangs_149 (by decide +kernel)
theorem r_L_hangs_151 {ls : xL} {st : List Value} {σ : xS} {x y : Int32} : xR mL_hangs 151 ls (.int y :: .int x :: st) σ = if y = 0 then none else xR mL_hangs 152 ls (.int (x / y) :: st) σ := y_idiv xe_L_hangs dL_hangs_151
theorem r_L_hangs_152 {ls : xL} {st : List Value} {σ : xS}  : xR mL_hangs 152 ls (st) σ = xR mL_hangs 153 ls (.int (nI 2) :: st) σ := y_iconst xe_L_hangs dL_hangs_152 (by decide +kernel)
theorem r_L_hangs_153 {ls : xL} {st : List Value} {σ : xS} {x0 : Nat} {x1 : Int32} {x2 : Int32} {x3 : Int32} : xR mL_hangs 153 ls (.int x3 :: .int x2 :: .int x1 :: .ref x0 :: st) σ = yC (xwid st) (xC1 mL_pond [.ref x0, .int x1, .int x2, .int x3] σ) (fun v τ => xR mL_hangs 156 ls (v.toList ++ st) τ) := y_cL (as := [.ref x0, .int x1, .int x2, .int x3]) xe_L_hangs dL_hangs_153 cl_8_107 rfl xe_L_pond ⟨Nat.le_of_ble_eq_true rfl, Nat.le_of_ble_eq_true rfl⟩ (Nat.le_of_ble_eq_true rfl) (by decide)
theorem r_L_hangs_156 {ls : xL} {st : List Value} {σ : xS}  : xR mL_hangs 156 ls (st) σ = gI (lget ls 9) (fun x => xR mL_hangs 158 ls (.int x :: st) σ) := y_iload xe_L_hangs dL_hangs_156
theorem r_L_hangs_158 {ls : xL} {st : List Value} {σ : xS} {x y : Int32} : xR mL_hangs 158 ls (.int y :: .int x :: st) σ = if ¬ x = y then xR mL_hangs 241 ls (st) σ else xR mL_hangs 161 ls (st) σ := y_icmp_ne xe_L_hangs dL_hangs_158 (by decide)
theorem r_L_hangs_161 {ls : xL} {st : List Value} {σ : xS}  : xR mL_hangs 161 ls (st) σ = gA (lget ls 0) (fun x => xR mL_hangs 162 ls (.ref x :: st) σ) := y_aload_n xe_L_hangs dL_hangs_161
theorem r_L_hangs_162 {ls : xL} {st : List Value} {σ : xS}  : xR mL_hangs 162 ls (st) σ = gI (lget ls 9) (fun x => xR mL_hangs 164 ls (.int x :: st) σ) := y_iload xe_L_hangs dL_hangs_162
theorem r_L_hangs_164 {ls : xL} {st : List Value} {σ : xS}  : xR mL_hangs 164 ls (st) σ = xR mL_hangs 166 ls (.int (nI 8) :: st) σ := y_bipush xe_L_hangs dL_hangs_164 (by decide +kernel)
theorem r_L_hangs_166 {ls : xL} {st : List Value} {σ : xS} {x y : Int32} : xR mL_hangs 166 ls (.int y :: .int x :: st) σ = if y = 0 then none else xR mL_hangs 167 ls (.int (x - x / y * y) :: st) σ := y_irem xe_L_hangs dL_hangs_166
theorem r_L_hangs_167 {ls : xL} {st : List Value} {σ : xS}  : xR mL_hangs 167 ls (st) σ = gI (lget ls 9) (fun x => xR mL_hangs 169 ls (.int x :: st) σ) := y_iload xe_L_hangs dL_hangs_167
theorem r_L_hangs_169 {ls : xL} {st : List Value} {σ : xS}  : xR mL_hangs 169 ls (st) σ = xR mL_hangs 171 ls (.int (nI 8) :: st) σ := y_bipush xe_L_hangs dL_hangs_169 (by decide +kernel)
theorem r_L_hangs_171 {ls : xL} {st : List Value} {σ : xS} {x y : Int32} : xR mL_hangs 171 ls (.int y :: .int x :: st) σ = if y = 0 then none else xR mL_hangs 172 ls (.int (x / y) :: st) σ := y_idiv xe_L_hangs dL_hangs_171
theorem r_L_hangs_172 {ls : xL} {st : List Value} {σ : xS}  : xR mL_hangs 172 ls (st) σ = xR mL_hangs 173 ls (.int (nI 1) :: st) σ := y_iconst xe_L_hangs dL_hangs_172 (by decide +kernel)
theorem r_L_hangs_173 {ls : xL} {st : List Value} {σ : xS} {x0 : Nat} {x1 : Int32} {x2 : Int32} {x3 : Int32} : xR mL_hangs 173 ls (.int x3 :: .int x2 :: .int x1 :: .ref x0 :: st) σ = yC (xwid st) (xC1 mL_pond [.ref x0, .int x1, .int x2, .int x3] σ) (fun v τ => xR mL_hangs 176 ls (v.toList ++ st) τ) := y_cL (as := [.ref x0, .int x1, .int x2, .int x3]) xe_L_hangs dL_hangs_173 cl_8_107 rfl xe_L_pond ⟨Nat.le_of_ble_eq_true rfl, Nat.le_of_ble_eq_true rfl⟩ (Nat.le_of_ble_eq_true rfl) (by decide)
theorem r_L_hangs_176 {ls : xL} {st : List Value} {σ : xS}  : xR mL_hangs 176 ls (st) σ = gI (lget ls 8) (fun x => xR mL_hangs 178 ls (.int x :: st) σ) := y_iload xe_L_hangs dL_hangs_176
theorem r_L_hangs_178 {ls : xL} {st : List Value} {σ : xS} {x y : Int32} : xR mL_hangs 178 ls (.int y :: .int x :: st) σ = if ¬ x = y then xR mL_hangs 241 ls (st) σ else xR mL_hangs 181 ls (st) σ := y_icmp_ne xe_L_hangs dL_hangs_178 (by decide)
theorem r_L_hangs_181 {ls : xL} {st : List Value} {σ : xS}  : xR mL_hangs 181 ls (st) σ = gA (lget ls 0) (fun x => xR mL_hangs 182 ls (.ref x :: st) σ) := y_aload_n xe_L_hangs dL_hangs_181
theorem r_L_hangs_182 {ls : xL} {st : List Value} {σ : xS}  : xR mL_hangs 182 ls (st) σ = gI (lget ls 5) (fun x => xR mL_hangs 184 ls (.int x :: st) σ) := y_iload xe_L_hangs dL_hangs_182
theorem r_L_hangs_184 {ls : xL} {st : List Value} {σ : xS}  : xR mL_hangs 184 ls (st) σ = gI (lget ls 6) (fun x => xR mL_hangs 186 ls (.int x :: st) σ) := y_iload xe_L_hangs dL_hangs_184
theorem r_L_hangs_186 {ls : xL} {st : List Value} {σ : xS}  : xR mL_hangs 186 ls (st) σ = xR mL_hangs 187 ls (.int (nI 3) :: st) σ := y_iconst xe_L_hangs dL_hangs_186 (by decide +kernel)
theorem r_L_hangs_187 {ls : xL} {st : List Value} {σ : xS} {x0 : Nat} {x1 : Int32} {x2 : Int32} {x3 : Int32} : xR mL_hangs 187 ls (.int x3 :: .int x2 :: .int x1 :: .ref x0 :: st) σ = yC (xwid st) (xC1 mL_pond [.ref x0, .int x1, .int x2, .int x3] σ) (fun v τ => xR mL_hangs 190 ls (v.toList ++ st) τ) := y_cL (as := [.ref x0, .int x1, .int x2, .int x3]) xe_L_hangs dL_hangs_187 cl_8_107 rfl xe_L_pond ⟨Nat.le_of_ble_eq_true rfl, Nat.le_of_ble_eq_true rfl⟩ (Nat.le_of_ble_eq_true rfl) (by decide)
theorem r_L_hangs_190 {ls : xL} {st : List Value} {σ : xS}  : xR mL_hangs 190 ls (st) σ = xR mL_hangs 191 ls (.int (nI 1) :: st) σ := y_iconst xe_L_hangs dL_hangs_190 (by decide +kernel)
theorem r_L_hangs_191 {ls : xL} {st : List Value} {σ : xS} {x y : Int32} : xR mL_hangs 191 ls (.int y :: .int x :: st) σ = if x < y then xR mL_hangs 241 ls (st) σ else xR mL_hangs 194 ls (st) σ := y_icmp_lt xe_L_hangs dL_hangs_191 (by decide)
theorem r_L_hangs_194 {ls : xL} {st : List Value} {σ : xS}  : xR mL_hangs 194 ls (st) σ = gI (lget ls 10) (fun x => xR mL_hangs 196 ls (.int x :: st) σ) := y_iload xe_L_hangs dL_hangs_194
theorem r_L_hangs_196 {ls : xL} {st : List Value} {σ : xS}  : xR mL_hangs 196 ls (st) σ = xR mL_hangs 197 ls (.int (-1) :: st) σ := y_iconst xe_L_hangs dL_hangs_196 (by decide +kernel)
theorem r_L_hangs_197 {ls : xL} {st : List Value} {σ : xS} {x y : Int32} : xR mL_hangs 197 ls (.int y :: .int x :: st) σ = if x = y then xR mL_hangs 237 ls (st) σ else xR mL_hangs 200 ls (st) σ := y_icmp_eq xe_L_hangs dL_hangs_197 (by decide)
theorem r_L_hangs_200 {ls : xL} {st : List Value} {σ : xS}  : xR mL_hangs 200 ls (st) σ = gI (lget ls 10) (fun x => xR mL_hangs 202 ls (.int x :: st) σ) := y_iload xe_L_hangs dL_hangs_200
theorem r_L_hangs_202 {ls : xL} {st : List Value} {σ : xS} {x : Int32} : xR mL_hangs 202 ls (.int x :: st) σ = if x ≤ 0 then xR mL_hangs 241 ls (st) σ else xR mL_hangs 205 ls (st) σ := y_if_le xe_L_hangs dL_hangs_202 (by decide)
theorem r_L_hangs_205 {ls : xL} {st : List Value} {σ : xS}  : xR mL_hangs 205 ls (st) σ = xR mL_hangs 237 ls (st) σ := y_goto xe_L_hangs dL_hangs_205 (by decide)
theorem r_L_hangs_208 {ls : xL} {st : List Value} {σ : xS}  : xR mL_hangs 208 ls (st) σ = gI (lget ls 8) (fun x => xR mL_hangs 210 ls (.int x :: st) σ) := y_iload xe_L_hangs dL_hangs_208
theorem r_L_hangs_210 {ls : xL} {st : List Value} {σ : xS}  : xR mL_hangs 210 ls (st) σ = xR mL_hangs 211 ls (.int (-1) :: st) σ := y_iconst xe_L_hangs dL_hangs_210 (by decide +kernel)
theorem r_L_hangs_211 {ls : xL} {st : List Value} {σ : xS} {x y : Int32} : xR mL_hangs 211 ls (.int y :: .int x :: st) σ = if ¬ x = y then xR mL_hangs 241 ls (st) σ else xR mL_hangs 214 ls (st) σ := y_icmp_ne xe_L_hangs dL_hangs_211 (by decide)
theorem r_L_hangs_214 {ls : xL} {st : List Value} {σ : xS}  : xR mL_hangs 214 ls (st) σ = gI (lget ls 9) (fun x => xR mL_hangs 216 ls (.int x :: st) σ) := y_iload xe_L_hangs dL_hangs_214
theorem r_L_hangs_216 {ls : xL} {st : List Value} {σ : xS}  : xR mL_hangs 216 ls (st) σ = xR mL_hangs 217 ls (.int (-1) :: st) σ := y_iconst xe_L_hangs dL_hangs_216 (by decide +kernel)
theorem r_L_hangs_217 {ls : xL} {st : List Value} {σ : xS} {x y : Int32} : xR mL_hangs 217 ls (.int y :: .int x :: st) σ = if ¬ x = y then xR mL_hangs 241 ls (st) σ else xR mL_hangs 220 ls (st) σ := y_icmp_ne xe_L_hangs dL_hangs_217 (by decide)
theorem r_L_hangs_220 {ls : xL} {st : List Value} {σ : xS}  : xR mL_hangs 220 ls (st) σ = gA (lget ls 0) (fun x => xR mL_hangs 221 ls (.ref x :: st) σ) := y_aload_n xe_L_hangs dL_hangs_220
theorem r_L_hangs_221 {ls : xL} {st : List Value} {σ : xS}  : xR mL_hangs 221 ls (st) σ = gI (lget ls 5) (fun x => xR mL_hangs 223 ls (.int x :: st) σ) := y_iload xe_L_hangs dL_hangs_221
theorem r_L_hangs_223 {ls : xL} {st : List Value} {σ : xS}  : xR mL_hangs 223 ls (st) σ = gI (lget ls 6) (fun x => xR mL_hangs 225 ls (.int x :: st) σ) := y_iload xe_L_hangs dL_hangs_223
theorem r_L_hangs_225 {ls : xL} {st : List Value} {σ : xS}  : xR mL_hangs 225 ls (st) σ = xR mL_hangs 226 ls (.int (nI 3) :: st) σ := y_iconst xe_L_hangs dL_hangs_225 (by decide +kernel)
theorem r_L_hangs_226 {ls : xL} {st : List Value} {σ : xS} {x0 : Nat} {x1 : Int32} {x2 : Int32} {x3 : Int32} : xR mL_hangs 226 ls (.int x3 :: .int x2 :: .int x1 :: .ref x0 :: st) σ = yC (xwid st) (xC1 mL_pond [.ref x0, .int x1, .int x2, .int x3] σ) (fun v τ => xR mL_hangs 229 ls (v.toList ++ st) τ) := y_cL (as := [.ref x0, .int x1, .int x2, .int x3]) xe_L_hangs dL_hangs_226 cl_8_107 rfl xe_L_pond ⟨Nat.le_of_ble_eq_true rfl, Nat.le_of_ble_eq_true rfl⟩ (Nat.le_of_ble_eq_true rfl) (by decide)
theorem r_L_hangs_229 {ls : xL} {st : List Value} {σ : xS} {x : Int32} : xR mL_hangs 229 ls (.int x :: st) σ = if ¬ x = 0 then xR mL_hangs 241 ls (st) σ else xR mL_hangs 232 ls (st) σ := y_if_ne xe_L_hangs dL_hangs_229 (by decide)
theorem r_L_hangs_232 {ls : xL} {st : List Value} {σ : xS}  : xR mL_hangs 232 ls (st) σ = gI (lget ls 10) (fun x => xR mL_hangs 234 ls (.int x :: st) σ) := y_iload xe_L_hangs dL_hangs_232
theorem r_L_hangs_234 {ls : xL} {st : List Value} {σ : xS} {x : Int32} : xR mL_hangs 234 ls (.int x :: st) σ = if ¬ x = 0 then xR mL_hangs 241 ls (st) σ else xR mL_hangs 237 ls (st) σ := y_if_ne xe_L_hangs dL_hangs_234 (by decide)
theorem r_L_hangs_237 {ls : xL} {st : List Value} {σ : xS}  : xR mL_hangs 237 ls (st) σ = xR mL_hangs 238 ls (.int (nI 1) :: st) σ := y_iconst xe_L_hangs dL_hangs_237 (by decide +kernel)
theorem r_L_hangs_238 {ls : xL} {st : List Value} {σ : xS}  : xR mL_hangs 238 ls (st) σ = xR mL_hangs 242 ls (st) σ := y_goto xe_L_hangs dL_hangs_238 (by decide)
theorem r_L_hangs_241 {ls : xL} {st : List Value} {σ : xS}  : xR mL_hangs 241 ls (st) σ = xR mL_hangs 242 ls (.int (nI 0) :: st) σ := y_iconst xe_L_hangs dL_hangs_241 (by decide +kernel)
theorem r_L_hangs_242 {ls : xL} {st : List Value} {σ : xS} {x : Int32} : xR mL_hangs 242 ls (.int x :: st) σ = (lst1 ls 3 (some (.int x))).bind (fun l => xR mL_hangs 243 l (st) σ) := y_istore_n xe_L_hangs dL_hangs_242
theorem r_L_hangs_243 {ls : xL} {st : List Value} {σ : xS}  : xR mL_hangs 243 ls (st) σ = gI (lget ls 3) (fun x => xR mL_hangs 244 ls (.int x :: st) σ) := y_iload_n xe_L_hangs dL_hangs_243
theorem r_L_hangs_244 {ls : xL} {st : List Value} {σ : xS} {x : Int32} : xR mL_hangs 244 ls (.int x :: st) σ = if x = 0 then xR mL_hangs 309 ls (st) σ else xR mL_hangs 247 ls (st) σ := y_if_eq xe_L_hangs dL_hangs_244 (by decide)
theorem r_L_hangs_247 {ls : xL} {st : List Value} {σ : xS}  : xR mL_hangs 247 ls (st) σ = gI (lget ls 5) (fun x => xR mL_hangs 249 ls (.int x :: st) σ) := y_iload xe_L_hangs dL_hangs_247
theorem r_L_hangs_249 {ls : xL} {st : List Value} {σ : xS}  : xR mL_hangs 249 ls (st) σ = xR mL_hangs 251 ls (.int (nI 7) :: st) σ := y_bipush xe_L_hangs dL_hangs_249 (by decide +kernel)
theorem r_L_hangs_251 {ls : xL} {st : List Value} {σ : xS} {x y : Int32} : xR mL_hangs 251 ls (.int y :: .int x :: st) σ = if x = y then xR mL_hangs 305 ls (st) σ else xR mL_hangs 254 ls (st) σ := y_icmp_eq xe_L_hangs dL_hangs_251 (by decide)
theorem r_L_hangs_254 {ls : xL} {st : List Value} {σ : xS}  : xR mL_hangs 254 ls (st) σ = gI (lget ls 7) (fun x => xR mL_hangs 256 ls (.int x :: st) σ) := y_iload xe_L_hangs dL_hangs_254
theorem r_L_hangs_256 {ls : xL} {st : List Value} {σ : xS} {x : Int32} : xR mL_hangs 256 ls (.int x :: st) σ = if x = 0 then xR mL_hangs 305 ls (st) σ else xR mL_hangs 259 ls (st) σ := y_if_eq xe_L_hangs dL_hangs_256 (by decide)
theorem r_L_hangs_259 {ls : xL} {st : List Value} {σ : xS}  : xR mL_hangs 259 ls (st) σ = gA (lget ls 0) (fun x => xR mL_hangs 260 ls (.ref x :: st) σ) := y_aload_n xe_L_hangs dL_hangs_259
theorem r_L_hangs_260 {ls : xL} {st : List Value} {σ : xS}  : xR mL_hangs 260 ls (st) σ = gI (lget ls 5) (fun x => xR mL_hangs 262 ls (.int x :: st) σ) := y_iload xe_L_hangs dL_hangs_260
theorem r_L_hangs_262 {ls : xL} {st : List Value} {σ : xS}  : xR mL_hangs 262 ls (st) σ = xR mL_hangs 263 ls (.int (nI 1) :: st) σ := y_iconst xe_L_hangs dL_hangs_262 (by decide +kernel)
theorem r_L_hangs_263 {ls : xL} {st : List Value} {σ : xS} {x y : Int32} : xR mL_hangs 263 ls (.int y :: .int x :: st) σ = xR mL_hangs 264 ls (.int (x + y) :: st) σ := y_iadd xe_L_hangs dL_hangs_263
theorem r_L_hangs_264 {ls : xL} {st : List Value} {σ : xS}  : xR mL_hangs 264 ls (st) σ = gI (lget ls 6) (fun x => xR mL_hangs 266 ls (.int x :: st) σ) := y_iload xe_L_hangs dL_hangs_264
theorem r_L_hangs_266 {ls : xL} {st : List Value} {σ : xS}  : xR mL_hangs 266 ls (st) σ = xR mL_hangs 267 ls (.int (nI 0) :: st) σ := y_iconst xe_L_hangs dL_hangs_266 (by decide +kernel)
theorem r_L_hangs_267 {ls : xL} {st : List Value} {σ : xS} {x0 : Nat} {x1 : Int32} {x2 : Int32} {x3 : Int32} : xR mL_hangs 267 ls (.int x3 :: .int x2 :: .int x1 :: .ref x0 :: st) σ = yC (xwid st) (xC1 mL_pond [.ref x0, .int x1, .int x2, .int x3] σ) (fun v τ => xR mL_hangs 270 ls (v.toList ++ st) τ) := y_cL (as := [.ref x0, .int x1, .int x2, .int x3]) xe_L_hangs dL_hangs_267 cl_8_107 rfl xe_L_pond ⟨Nat.le_of_ble_eq_true rfl, Nat.le_of_ble_eq_true rfl⟩ (Nat.le_of_ble_eq_true rfl) (by decide)
theorem r_L_hangs_270 {ls : xL} {st : List Value} {σ : xS} {x : Int32} : xR mL_hangs 270 ls (.int x :: st) σ = if x = 0 then xR mL_hangs 305 ls (st) σ else xR mL_hangs 273 ls (st) σ := y_if_eq xe_L_hangs dL_hangs_270 (by decide)
theorem r_L_hangs_273 {ls : xL} {st : List Value} {σ : xS}  : xR mL_hangs 273 ls (st) σ = gA (lget ls 0) (fun x => xR mL_hangs 274 ls (.ref x :: st) σ) := y_aload_n xe_L_hangs dL_hangs_273
theorem r_L_hangs_274 {ls : xL} {st : List Value} {σ : xS}  : xR mL_hangs 274 ls (st) σ = gI (lget ls 5) (fun x => xR mL_hangs 276 ls (.int x :: st) σ) := y_iload xe_L_hangs dL_hangs_274
theorem r_L_hangs_276 {ls : xL} {st : List Value} {σ : xS}  : xR mL_hangs 276 ls (st) σ = xR mL_hangs 277 ls (.int (nI 1) :: st) σ := y_iconst xe_L_hangs dL_hangs_276 (by decide +kernel)
theorem r_L_hangs_277 {ls : xL} {st : List Value} {σ : xS} {x y : Int32} : xR mL_hangs 277 ls (.int y :: .int x :: st) σ = xR mL_hangs 278 ls (.int (x + y) :: st) σ := y_iadd xe_L_hangs dL_hangs_277
theorem r_L_hangs_278 {ls : xL} {st : List Value} {σ : xS}  : xR mL_hangs 278 ls (st) σ = gI (lget ls 6) (fun x => xR mL_hangs 280 ls (.int x :: st) σ) := y_iload xe_L_hangs dL_hangs_278
theorem r_L_hangs_280 {ls : xL} {st : List Value} {σ : xS}  : xR mL_hangs 280 ls (st) σ = xR mL_hangs 281 ls (.int (nI 2) :: st) σ := y_iconst xe_L_hangs dL_hangs_280 (by decide +kernel)
theorem r_L_hangs_281 {ls : xL} {st : List Value} {σ : xS}  : xR mL_hangs 281 ls (st) σ = xR mL_hangs 282 ls (.int (nI 1) :: st) σ := y_iconst xe_L_hangs dL_hangs_281 (by decide +kernel)
theorem r_L_hangs_282 {ls : xL} {st : List Value} {σ : xS} {x0 : Nat} {x1 : Int32} {x2 : Int32} {x3 : Int32} {x4 : Int32} : xR mL_hangs 282 ls (.int x4 :: .int x3 :: .int x2 :: .int x1 :: .ref x0 :: st) σ = yC (xwid st) (xC1 mL_line [.ref x0, .int x1, .int x2, .int x3, .int x4] σ) (fun v τ => xR mL_hangs 285 ls (v.toList ++ st) τ) := y_cL (as := [.ref x0, .int x1, .int x2, .int x3, .int x4]) xe_L_hangs dL_hangs_282 cl_8_110 rfl xe_L_line ⟨Nat.le_of_ble_eq_true rfl, Nat.le_of_ble_eq_true rfl⟩ (Nat.le_of_ble_eq_true rfl) (by decide)
theorem r_L_hangs_285 {ls : xL} {st : List Value} {σ : xS}  : xR mL_hangs 285 ls (st) σ = xR mL_hangs 286 ls (.int (nI 1) :: st) σ := y_iconst xe_L_hangs dL_hangs_285 (by decide +kernel)
theorem r_L_hangs_286 {ls : xL} {st : List Value} {σ : xS} {x y : Int32} : xR mL_hangs 286 ls (.int y :: .int x :: st) σ = if x = y then xR mL_hangs 305 ls (st) σ else xR mL_hangs 289 ls (st) σ := y_icmp_eq xe_L_hangs dL_hangs_286 (by decide)
theorem r_L_hangs_289 {ls : xL} {st : List Value} {σ : xS}  : xR mL_hangs 289 ls (st) σ = gA (lget ls 0) (fun x => xR mL_hangs 290 ls (.ref x :: st) σ) := y_aload_n xe_L_hangs dL_hangs_289
theorem r_L_hangs_290 {ls : xL} {st : List Value} {σ : xS}  : xR mL_hangs 290 ls (st) σ = gI (lget ls 5) (fun x => xR mL_hangs 292 ls (.int x :: st) σ) := y_iload xe_L_hangs dL_hangs_290
theorem r_L_hangs_292 {ls : xL} {st : List Value} {σ : xS}  : xR mL_hangs 292 ls (st) σ = xR mL_hangs 293 ls (.int (nI 1) :: st) σ := y_iconst xe_L_hangs dL_hangs_292 (by decide +kernel)
theorem r_L_hangs_293 {ls : xL} {st : List Value} {σ : xS} {x y : Int32} : xR mL_hangs 293 ls (.int y :: .int x :: st) σ = xR mL_hangs 294 ls (.int (x + y) :: st) σ := y_iadd xe_L_hangs dL_hangs_293
theorem r_L_hangs_294 {ls : xL} {st : List Value} {σ : xS}  : xR mL_hangs 294 ls (st) σ = gI (lget ls 6) (fun x => xR mL_hangs 296 ls (.int x :: st) σ) := y_iload xe_L_hangs dL_hangs_294
theorem r_L_hangs_296 {ls : xL} {st : List Value} {σ : xS}  : xR mL_hangs 296 ls (st) σ = xR mL_hangs 297 ls (.int (nI 2) :: st) σ := y_iconst xe_L_hangs dL_hangs_296 (by decide +kernel)
theorem r_L_hangs_297 {ls : xL} {st : List Value} {σ : xS} {x0 : Nat} {x1 : Int32} {x2 : Int32} {x3 : Int32} : xR mL_hangs 297 ls (.int x3 :: .int x2 :: .int x1 :: .ref x0 :: st) σ = yC (xwid st) (xC1 mL_pond [.ref x0, .int x1, .int x2, .int x3] σ) (fun v τ => xR mL_hangs 300 ls (v.toList ++ st) τ) := y_cL (as := [.ref x0, .int x1, .int x2, .int x3]) xe_L_hangs dL_hangs_297 cl_8_107 rfl xe_L_pond ⟨Nat.le_of_ble_eq_true rfl, Nat.le_of_ble_eq_true rfl⟩ (Nat.le_of_ble_eq_true rfl) (by decide)
theorem r_L_hangs_300 {ls : xL} {st : List Value} {σ : xS}  : xR mL_hangs 300 ls (st) σ = gI (lget ls 9) (fun x => xR mL_hangs 302 ls (.int x :: st) σ) := y_iload xe_L_hangs dL_hangs_300
theorem r_L_hangs_302 {ls : xL} {st : List Value} {σ : xS} {x y : Int32} : xR mL_hangs 302 ls (.int y :: .int x :: st) σ = if ¬ x = y then xR mL_hangs 309 ls (st) σ else xR mL_hangs 305 ls (st) σ := y_icmp_ne xe_L_hangs dL_hangs_302 (by decide)
theorem r_L_hangs_305 {ls : xL} {st : List Value} {σ : xS}  : xR mL_hangs 305 ls (st) σ = xR mL_hangs 306 ls (.int (nI 1) :: st) σ := y_iconst xe_L_hangs dL_hangs_305 (by decide +kernel)
theorem r_L_hangs_306 {ls : xL} {st : List Value} {σ : xS}  : xR mL_hangs 306 ls (st) σ = xR mL_hangs 310 ls (st) σ := y_goto xe_L_hangs dL_hangs_306 (by decide)
theorem r_L_hangs_309 {ls : xL} {st : List Value} {σ : xS}  : xR mL_hangs 309 ls (st) σ = xR mL_hangs 310 ls (.int (nI 0) :: st) σ := y_iconst xe_L_hangs dL_hangs_309 (by decide +kernel)
theorem r_L_hangs_310 {ls : xL} {st : List Value} {σ : xS} {x : Int32} : xR mL_hangs 310 ls (.int x :: st) σ = (lst1 ls 3 (some (.int x))).bind (fun l => xR mL_hangs 311 l (st) σ) := y_istore_n xe_L_hangs dL_hangs_310
theorem r_L_hangs_311 {ls : xL} {st : List Value} {σ : xS}  : xR mL_hangs 311 ls (st) σ = gI (lget ls 1) (fun x => xR mL_hangs 312 ls (.int x :: st) σ) := y_iload_n xe_L_hangs dL_hangs_311
theorem r_L_hangs_312 {ls : xL} {st : List Value} {σ : xS}  : xR mL_hangs 312 ls (st) σ = gI (lget ls 7) (fun x => xR mL_hangs 314 ls (.int x :: st) σ) := y_iload xe_L_hangs dL_hangs_312
theorem r_L_hangs_314 {ls : xL} {st : List Value} {σ : xS} {x : Int32} : xR mL_hangs 314 ls (.int x :: st) σ = if x = 0 then xR mL_hangs 321 ls (st) σ else xR mL_hangs 317 ls (st) σ := y_if_eq xe_L_hangs dL_hangs_314 (by decide)
theorem r_L_hangs_317 {ls : xL} {st : List Value} {σ : xS}  : xR mL_hangs 317 ls (st) σ = xR mL_hangs 318 ls (.int (nI 1) :: st) σ := y_iconst xe_L_hangs dL_hangs_317 (by decide +kernel)
theorem r_L_hangs_318 {ls : xL} {st : List Value} {σ : xS}  : xR mL_hangs 318 ls (st) σ = xR mL_hangs 322 ls (st) σ := y_goto xe_L_hangs dL_hangs_318 (by decide)
theorem r_L_hangs_321 {ls : xL} {st : List Value} {σ : xS}  : xR mL_hangs 321 ls (st) σ = xR mL_hangs 322 ls (.int (nI 0) :: st) σ := y_iconst xe_L_hangs dL_hangs_321 (by decide +kernel)
theorem r_L_hangs_322 {ls : xL} {st : List Value} {σ : xS} {x y : Int32} : xR mL_hangs 322 ls (.int y :: .int x :: st) σ = xR mL_hangs 323 ls (.int (x + y) :: st) σ := y_iadd xe_L_hangs dL_hangs_322
theorem r_L_hangs_323 {ls : xL} {st : List Value} {σ : xS} {x : Int32} : xR mL_hangs 323 ls (.int x :: st) σ = (lst1 ls 1 (some (.int x))).bind (fun l => xR mL_hangs 324 l (st) σ) := y_istore_n xe_L_hangs dL_hangs_323
theorem r_L_hangs_324 {ls : xL} {st : List Value} {σ : xS}  : xR mL_hangs 324 ls (st) σ = gI (lget ls 2) (fun x => xR mL_hangs 325 ls (.int x :: st) σ) := y_iload_n xe_L_hangs dL_hangs_324
theorem r_L_hangs_325 {ls : xL} {st : List Value} {σ : xS}  : xR mL_hangs 325 ls (st) σ = gI (lget ls 7) (fun x => xR mL_hangs 327 ls (.int x :: st) σ) := y_iload xe_L_hangs dL_hangs_325
theorem r_L_hangs_327 {ls : xL} {st : List Value} {σ : xS} {x : Int32} : xR mL_hangs 327 ls (.int x :: st) σ = if x = 0 then xR mL_hangs 339 ls (st) σ else xR mL_hangs 330 ls (st) σ := y_if_eq xe_L_hangs dL_hangs_327 (by decide)
theorem r_L_hangs_330 {ls : xL} {st : List Value} {σ : xS}  : xR mL_hangs 330 ls (st) σ = gI (lget ls 8) (fun x => xR mL_hangs 332 ls (.int x :: st) σ) := y_iload xe_L_hangs dL_hangs_330
theorem r_L_hangs_332 {ls : xL} {st : List Value} {σ : xS} {x : Int32} : xR mL_hangs 332 ls (.int x :: st) σ = if x < 0 then xR mL_hangs 339 ls (st) σ else xR mL_hangs 335 ls (st) σ := y_if_lt xe_L_hangs dL_hangs_332 (by decide)
theorem r_L_hangs_335 {ls : xL} {st : List Value} {σ : xS}  : xR mL_hangs 335 ls (st) σ = xR mL_hangs 336 ls (.int (nI 1) :: st) σ := y_iconst xe_L_hangs dL_hangs_335 (by decide +kernel)
theorem r_L_hangs_336 {ls : xL} {st : List Value} {σ : xS}  : xR mL_hangs 336 ls (st) σ = xR mL_hangs 340 ls (st) σ := y_goto xe_L_hangs dL_hangs_336 (by decide)
theorem r_L_hangs_339 {ls : xL} {st : List Value} {σ : xS}  : xR mL_hangs 339 ls (st) σ = xR mL_hangs 340 ls (.int (nI 0) :: st) σ := y_iconst xe_L_hangs dL_hangs_339 (by decide +kernel)
theorem r_L_hangs_340 {ls : xL} {st : List Value} {σ : xS} {x y : Int32} : xR mL_hangs 340 ls (.int y :: .int x :: st) σ = xR mL_hangs 341 ls (.int (x + y) :: st) σ := y_iadd xe_L_hangs dL_hangs_340
theorem r_L_hangs_341 {ls : xL} {st : List Value} {σ : xS} {x : Int32} : xR mL_hangs 341 ls (.int x :: st) σ = (lst1 ls 2 (some (.int x))).bind (fun l => xR mL_hangs 342 l (st) σ) := y_istore_n xe_L_hangs dL_hangs_341
theorem r_L_hangs_342 {ls : xL} {st : List Value} {σ : xS}  : xR mL_hangs 342 ls (st) σ = gI (lget ls 4) (fun x => (lst1 ls 4 (some (.int (x + (nI 1))))).bind (fun l => xR mL_hangs 345 l (st) σ)) := y_iinc xe_L_hangs dL_hangs_342 (by decide +kernel)
theorem r_L_hangs_345 {ls : xL} {st : List Value} {σ : xS}  : xR mL_hangs 345 ls (st) σ = xR mL_hangs 9 ls (st) σ := y_goto xe_L_hangs dL_hangs_345 (by decide)
theorem r_L_hangs_348 {ls : xL} {st : List Value} {σ : xS}  : xR mL_hangs 348 ls (st) σ = gA (lget ls 0) (fun x => xR mL_hangs 349 ls (.ref x :: st) σ) := y_aload_n xe_L_hangs dL_hangs_348
theorem r_L_hangs_349 {ls : xL} {st : List Value} {σ : xS}  : xR mL_hangs 349 ls (st) σ = xR mL_hangs 350 ls (.int (nI 1) :: st) σ := y_iconst xe_L_hangs dL_hangs_349 (by decide +kernel)
theorem r_L_hangs_350 {ls : xL} {st : List Value} {σ : xS} {x0 : Nat} {x1 : Int32} : xR mL_hangs 350 ls (.int x1 :: .ref x0 :: st) σ = yC (xwid st) (xC1 mL_count [.ref x0, .int x1] σ) (fun v τ => xR mL_hangs 353 ls (v.toList ++ st) τ) := y_cL (as := [.ref x0, .int x1]) xe_L_hangs dL_hangs_350 cl_8_113 rfl xe_L_count ⟨Nat.le_of_ble_eq_true rfl, Nat.le_of_ble_eq_true rfl⟩ (Nat.le_of_ble_eq_true rfl) (by decide)
theorem r_L_hangs_353 {ls : xL} {st : List Value} {σ : xS} {x : Int32} : xR mL_hangs 353 ls (.int x :: st) σ = (lst1 ls 4 (some (.int x))).bind (fun l => xR mL_hangs 355 l (st) σ) := y_istore xe_L_hangs dL_hangs_353
theorem r_L_hangs_355 {ls : xL} {st : List Value} {σ : xS}  : xR mL_hangs 355 ls (st) σ = xR mL_hangs 356 ls (.int (nI 0) :: st) σ := y_iconst xe_L_hangs dL_hangs_355 (by decide +kernel)
theorem r_L_hangs_356 {ls : xL} {st : List Value} {σ : xS} {x : Int32} : xR mL_hangs 356 ls (.int x :: st) σ = (lst1 ls 5 (some (.int x))).bind (fun l => xR mL_hangs 358 l (st) σ) := y_istore xe_L_hangs dL_hangs_356
theorem r_L_hangs_358 {ls : xL} {st : List Value} {σ : xS}  : xR mL_hangs 358 ls (st) σ = xR mL_hangs 359 ls (.int (-1) :: st) σ := y_iconst xe_L_hangs dL_hangs_358 (by decide +kernel)
theorem r_L_hangs_359 {ls : xL} {st : List Value} {σ : xS} {x : Int32} : xR mL_hangs 359 ls (.int x :: st) σ = (lst1 ls 6 (some (.int x))).bind (fun l => xR mL_hangs 361 l (st) σ) := y_istore xe_L_hangs dL_hangs_359
theorem r_L_hangs_361 {ls : xL} {st : List Value} {σ : xS}  : xR mL_hangs 361 ls (st) σ = xR mL_hangs 362 ls (.int (nI 0) :: st) σ := y_iconst xe_L_hangs dL_hangs_361 (by decide +kernel)
theorem r_L_hangs_362 {ls : xL} {st : List Value} {σ : xS} {x : Int32} : xR mL_hangs 362 ls (.int x :: st) σ = (lst1 ls 7 (some (.int x))).bind (fun l => xR mL_hangs 364 l (st) σ) := y_istore xe_L_hangs dL_hangs_362
theorem r_L_hangs_364 {ls : xL} {st : List Value} {σ : xS}  : xR mL_hangs 364 ls (st) σ = xR mL_hangs 365 ls (.int (nI 0) :: st) σ := y_iconst xe_L_hangs dL_hangs_364 (by decide +kernel)
theorem r_L_hangs_365 {ls : xL} {st : List Value} {σ : xS} {x : Int32} : xR mL_hangs 365 ls (.int x :: st) σ = (lst1 ls 8 (some (.int x))).bind (fun l => xR mL_hangs 367 l (st) σ) := y_istore xe_L_hangs dL_hangs_365
theorem r_L_hangs_367 {ls : xL} {st : List Value} {σ : xS}  : xR mL_hangs 367 ls (st) σ = gI (lget ls 8) (fun x => xR mL_hangs 369 ls (.int x :: st) σ) := y_iload xe_L_hangs dL_hangs_367
theorem r_L_hangs_369 {ls : xL} {st : List Value} {σ : xS}  : xR mL_hangs 369 ls (st) σ = gI (lget ls 4) (fun x => xR mL_hangs 371 ls (.int x :: st) σ) := y_iload xe_L_hangs dL_hangs_369
theorem r_L_hangs_371 {ls : xL} {st : List Value} {σ : xS} {x y : Int32} : xR mL_hangs 371 ls (.int y :: .int x :: st) σ = if y ≤ x then xR mL_hangs 466 ls (st) σ else xR mL_hangs 374 ls (st) σ := y_icmp_ge xe_L_hangs dL_hangs_371 (by decide)
theorem r_L_hangs_374 {ls : xL} {st : List Value} {σ : xS}  : xR mL_hangs 374 ls (st) σ = gI (lget ls 8) (fun x => xR mL_hangs 376 ls (.int x :: st) σ) := y_iload xe_L_hangs dL_hangs_374
theorem r_L_hangs_376 {ls : xL} {st : List Value} {σ : xS}  : xR mL_hangs 376 ls (st) σ = xR mL_hangs 378 ls (.int (nI 64) :: st) σ := y_bipush xe_L_hangs dL_hangs_376 (by decide +kernel)
theorem r_L_hangs_378 {ls : xL} {st : List Value} {σ : xS} {x y : Int32} : xR mL_hangs 378 ls (.int y :: .int x :: st) σ = if y ≤ x then xR mL_hangs 466 ls (st) σ else xR mL_hangs 381 ls (st) σ := y_icmp_ge xe_L_hangs dL_hangs_378 (by decide)
theorem r_L_hangs_381 {ls : xL} {st : List Value} {σ : xS}  : xR mL_hangs 381 ls (st) σ = gI (lget ls 3) (fun x => xR mL_hangs 382 ls (.int x :: st) σ) := y_iload_n xe_L_hangs dL_hangs_381
theorem r_L_hangs_382 {ls : xL} {st : List Value} {σ : xS} {x : Int32} : xR mL_hangs 382 ls (.int x :: st) σ = if x = 0 then xR mL_hangs 466 ls (st) σ else xR mL_hangs 385 ls (st) σ := y_if_eq xe_L_hangs dL_hangs_382 (by decide)
theorem r_L_hangs_385 {ls : xL} {st : List Value} {σ : xS}  : xR mL_hangs 385 ls (st) σ = gA (lget ls 0) (fun x => xR mL_hangs 386 ls (.ref x :: st) σ) := y_aload_n xe_L_hangs dL_hangs_385
theorem r_L_hangs_386 {ls : xL} {st : List Value} {σ : xS}  : xR mL_hangs 386 ls (st) σ = gI (lget ls 8) (fun x => xR mL_hangs 388 ls (.int x :: st) σ) := y_iload xe_L_hangs dL_hangs_386
theorem r_L_hangs_388 {ls : xL} {st : List Value} {σ : xS}  : xR mL_hangs 388 ls (st) σ = xR mL_hangs 389 ls (.int (nI 0) :: st) σ := y_iconst xe_L_hangs dL_hangs_388 (by decide +kernel)
theorem r_L_hangs_389 {ls : xL} {st : List Value} {σ : xS} {x0 : Nat} {x1 : Int32} {x2 : Int32} : xR mL_hangs 389 ls (.int x2 :: .int x1 :: .ref x0 :: st) σ = yC (xwid st) (xC1 mL_rink [.ref x0, .int x1, .int x2] σ) (fun v τ => xR mL_hangs 392 ls (v.toList ++ st) τ) := y_cL (as := [.ref x0, .int x1, .int x2]) xe_L_hangs dL_hangs_389 cl_8_115 rfl xe_L_rink ⟨Nat.le_of_ble_eq_true rfl, Nat.le_of_ble_eq_true rfl⟩ (Nat.le_of_ble_eq_true rfl) (by decide)
theorem r_L_hangs_392 {ls : xL} {st : List Value} {σ : xS}  : xR mL_hangs 392 ls (st) σ = gI (lget ls 6) (fun x => xR mL_hangs 394 ls (.int x :: st) σ) := y_iload xe_L_hangs dL_hangs_392
theorem r_L_hangs_394 {ls : xL} {st : List Value} {σ : xS} {x y : Int32} : xR mL_hangs 394 ls (.int y :: .int x :: st) σ = if x ≤ y then xR mL_hangs 411 ls (st) σ else xR mL_hangs 397 ls (st) σ := y_icmp_le xe_L_hangs dL_hangs_394 (by decide)
theorem r_L_hangs_397 {ls : xL} {st : List Value} {σ : xS}  : xR mL_hangs 397 ls (st) σ = gA (lget ls 0) (fun x => xR mL_hangs 398 ls (.ref x :: st) σ) := y_aload_n xe_L_hangs dL_hangs_397
theorem r_L_hangs_398 {ls : xL} {st : List Value} {σ : xS}  : xR mL_hangs 398 ls (st) σ = gI (lget ls 8) (fun x => xR mL_hangs 400 ls (.int x :: st) σ) := y_iload xe_L_hangs dL_hangs_398
theorem r_L_hangs_400 {ls : xL} {st : List Value} {σ : xS}  : xR mL_hangs 400 ls (st) σ = xR mL_hangs 401 ls (.int (nI 1) :: st) σ := y_iconst xe_L_hangs dL_hangs_400 (by decide +kernel)
theorem r_L_hangs_401 {ls : xL} {st : List Value} {σ : xS} {x0 : Nat} {x1 : Int32} {x2 : Int32} : xR mL_hangs 401 ls (.int x2 :: .int x1 :: .ref x0 :: st) σ = yC (xwid st) (xC1 mL_rink [.ref x0, .int x1, .int x2] σ) (fun v τ => xR mL_hangs 404 ls (v.toList ++ st) τ) := y_cL (as := [.ref x0, .int x1, .int x2]) xe_L_hangs dL_hangs_401 cl_8_115 rfl xe_L_rink ⟨Nat.le_of_ble_eq_true rfl, Nat.le_of_ble_eq_true rfl⟩ (Nat.le_of_ble_eq_true rfl) (by decide)
theorem r_L_hangs_404 {ls : xL} {st : List Value} {σ : xS} {x : Int32} : xR mL_hangs 404 ls (.int x :: st) σ = if x ≤ 0 then xR mL_hangs 411 ls (st) σ else xR mL_hangs 407 ls (st) σ := y_if_le xe_L_hangs dL_hangs_404 (by decide)
theorem r_L_hangs_407 {ls : xL} {st : List Value} {σ : xS}  : xR mL_hangs 407 ls (st) σ = xR mL_hangs 408 ls (.int (nI 1) :: st) σ := y_iconst xe_L_hangs dL_hangs_407 (by decide +kernel)
theorem r_L_hangs_408 {ls : xL} {st : List Value} {σ : xS}  : xR mL_hangs 408 ls (st) σ = xR mL_hangs 412 ls (st) σ := y_goto xe_L_hangs dL_hangs_408 (by decide)
theorem r_L_hangs_411 {ls : xL} {st : List Value} {σ : xS}  : xR mL_hangs 411 ls (st) σ = xR mL_hangs 412 ls (.int (nI 0) :: st) σ := y_iconst xe_L_hangs dL_hangs_411 (by decide +kernel)
theorem r_L_hangs_412 {ls : xL} {st : List Value} {σ : xS} {x : Int32} : xR mL_hangs 412 ls (.int x :: st) σ = (lst1 ls 3 (some (.int x))).bind (fun l => xR mL_hangs 413 l (st) σ) := y_istore_n xe_L_hangs dL_hangs_412
theorem r_L_hangs_413 {ls : xL} {st : List Value} {σ : xS}  : xR mL_hangs 413 ls (st) σ = gA (lget ls 0) (fun x => xR mL_hangs 414 ls (.ref x :: st) σ) := y_aload_n xe_L_hangs dL_hangs_413
theorem r_L_hangs_414 {ls : xL} {st : List Value} {σ : xS}  : xR mL_hangs 414 ls (st) σ = gI (lget ls 8) (fun x => xR mL_hangs 416 ls (.int x :: st) σ) := y_iload xe_L_hangs dL_hangs_414
theorem r_L_hangs_416 {ls : xL} {st : List Value} {σ : xS}  : xR mL_hangs 416 ls (st) σ = xR mL_hangs 417 ls (.int (nI 0) :: st) σ := y_iconst xe_L_hangs dL_hangs_416 (by decide +kernel)
theorem r_L_hangs_417 {ls : xL} {st : List Value} {σ : xS} {x0 : Nat} {x1 : Int32} {x2 : Int32} : xR mL_hangs 417 ls (.int x2 :: .int x1 :: .ref x0 :: st) σ = yC (xwid st) (xC1 mL_rink [.ref x0, .int x1, .int x2] σ) (fun v τ => xR mL_hangs 420 ls (v.toList ++ st) τ) := y_cL (as := [.ref x0, .int x1, .int x2]) xe_L_hangs dL_hangs_417 cl_8_115 rfl xe_L_rink ⟨Nat.le_of_ble_eq_true rfl, Nat.le_of_ble_eq_true rfl⟩ (Nat.le_of_ble_eq_true rfl) (by decide)
theorem r_L_hangs_420 {ls : xL} {st : List Value} {σ : xS} {x : Int32} : xR mL_hangs 420 ls (.int x :: st) σ = (lst1 ls 6 (some (.int x))).bind (fun l => xR mL_hangs 422 l (st) σ) := y_istore xe_L_hangs dL_hangs_420
theorem r_L_hangs_422 {ls : xL} {st : List Value} {σ : xS}  : xR mL_hangs 422 ls (st) σ = gI (lget ls 5) (fun x => xR mL_hangs 424 ls (.int x :: st) σ) := y_iload xe_L_hangs dL_hangs_422
theorem r_L_hangs_424 {ls : xL} {st : List Value} {σ : xS}  : xR mL_hangs 424 ls (st) σ = gA (lget ls 0) (fun x => xR mL_hangs 425 ls (.ref x :: st) σ) := y_aload_n xe_L_hangs dL_hangs_424
theorem r_L_hangs_425 {ls : xL} {st : List Value} {σ : xS}  : xR mL_hangs 425 ls (st) σ = gI (lget ls 8) (fun x => xR mL_hangs 427 ls (.int x :: st) σ) := y_iload xe_L_hangs dL_hangs_425
theorem r_L_hangs_427 {ls : xL} {st : List Value} {σ : xS}  : xR mL_hangs 427 ls (st) σ = xR mL_hangs 428 ls (.int (nI 1) :: st) σ := y_iconst xe_L_hangs dL_hangs_427 (by decide +kernel)
theorem r_L_hangs_428 {ls : xL} {st : List Value} {σ : xS} {x0 : Nat} {x1 : Int32} {x2 : Int32} : xR mL_hangs 428 ls (.int x2 :: .int x1 :: .ref x0 :: st) σ = yC (xwid st) (xC1 mL_rink [.ref x0, .int x1, .int x2] σ) (fun v τ => xR mL_hangs 431 ls (v.toList ++ st) τ) := y_cL (as := [.ref x0, .int x1, .int x2]) xe_L_hangs dL_hangs_428 cl_8_115 rfl xe_L_rink ⟨Nat.le_of_ble_eq_true rfl, Nat.le_of_ble_eq_true rfl⟩ (Nat.le_of_ble_eq_true rfl) (by decide)
theorem r_L_hangs_431 {ls : xL} {st : List Value} {σ : xS} {x y : Int32} : xR mL_hangs 431 ls (.int y :: .int x :: st) σ = xR mL_hangs 432 ls (.int (x + y) :: st) σ := y_iadd xe_L_hangs dL_hangs_431
theorem r_L_hangs_432 {ls : xL} {st : List Value} {σ : xS} {x : Int32} : xR mL_hangs 432 ls (.int x :: st) σ = (lst1 ls 5 (some (.int x))).bind (fun l => xR mL_hangs 434 l (st) σ) := y_istore xe_L_hangs dL_hangs_432
theorem r_L_hangs_434 {ls : xL} {st : List Value} {σ : xS}  : xR mL_hangs 434 ls (st) σ = gA (lget ls 0) (fun x => xR mL_hangs 435 ls (.ref x :: st) σ) := y_aload_n xe_L_hangs dL_hangs_434
theorem r_L_hangs_435 {ls : xL} {st : List Value} {σ : xS}  : xR mL_hangs 435 ls (st) σ = gI (lget ls 8) (fun x => xR mL_hangs 437 ls (.int x :: st) σ) := y_iload xe_L_hangs dL_hangs_435
theorem r_L_hangs_437 {ls : xL} {st : List Value} {σ : xS}  : xR mL_hangs 437 ls (st) σ = xR mL_hangs 438 ls (.int (nI 1) :: st) σ := y_iconst xe_L_hangs dL_hangs_437 (by decide +kernel)
theorem r_L_hangs_438 {ls : xL} {st : List Value} {σ : xS} {x0 : Nat} {x1 : Int32} {x2 : Int32} : xR mL_hangs 438 ls (.int x2 :: .int x1 :: .ref x0 :: st) σ = yC (xwid st) (xC1 mL_rink [.ref x0, .int x1, .int x2] σ) (fun v τ => xR mL_hangs 441 ls (v.toList ++ st) τ) := y_cL (as := [.ref x0, .int x1, .int x2]) xe_L_hangs dL_hangs_438 cl_8_115 rfl xe_L_rink ⟨Nat.le_of_ble_eq_true rfl, Nat.le_of_ble_eq_true rfl⟩ (Nat.le_of_ble_eq_true rfl) (by decide)
theorem r_L_hangs_441 {ls : xL} {st : List Value} {σ : xS}  : xR mL_hangs 441 ls (st) σ = gI (lget ls 7) (fun x => xR mL_hangs 443 ls (.int x :: st) σ) := y_iload xe_L_hangs dL_hangs_441
theorem r_L_hangs_443 {ls : xL} {st : List Value} {σ : xS} {x y : Int32} : xR mL_hangs 443 ls (.int y :: .int x :: st) σ = if x ≤ y then xR mL_hangs 456 ls (st) σ else xR mL_hangs 446 ls (st) σ := y_icmp_le xe_L_hangs dL_hangs_443 (by decide)
theorem r_L_hangs_446 {ls : xL} {st : List Value} {σ : xS}  : xR mL_hangs 446 ls (st) σ = gA (lget ls 0) (fun x => xR mL_hangs 447 ls (.ref x :: st) σ) := y_aload_n xe_L_hangs dL_hangs_446
theorem r_L_hangs_447 {ls : xL} {st : List Value} {σ : xS}  : xR mL_hangs 447 ls (st) σ = gI (lget ls 8) (fun x => xR mL_hangs 449 ls (.int x :: st) σ) := y_iload xe_L_hangs dL_hangs_447
theorem r_L_hangs_449 {ls : xL} {st : List Value} {σ : xS}  : xR mL_hangs 449 ls (st) σ = xR mL_hangs 450 ls (.int (nI 1) :: st) σ := y_iconst xe_L_hangs dL_hangs_449 (by decide +kernel)
theorem r_L_hangs_450 {ls : xL} {st : List Value} {σ : xS} {x0 : Nat} {x1 : Int32} {x2 : Int32} : xR mL_hangs 450 ls (.int x2 :: .int x1 :: .ref x0 :: st) σ = yC (xwid st) (xC1 mL_rink [.ref x0, .int x1, .int x2] σ) (fun v τ => xR mL_hangs 453 ls (v.toList ++ st) τ) := y_cL (as := [.ref x0, .int x1, .int x2]) xe_L_hangs dL_hangs_450 cl_8_115 rfl xe_L_rink ⟨Nat.le_of_ble_eq_true rfl, Nat.le_of_ble_eq_true rfl⟩ (Nat.le_of_ble_eq_true rfl) (by decide)
theorem r_L_hangs_453 {ls : xL} {st : List Value} {σ : xS}  : xR mL_hangs 453 ls (st) σ = xR mL_hangs 458 ls (st) σ := y_goto xe_L_hangs dL_hangs_453 (by decide)
theorem r_L_hangs_456 {ls : xL} {st : List Value} {σ : xS}  : xR mL_hangs 456 ls (st) σ = gI (lget ls 7) (fun x => xR mL_hangs 458 ls (.int x :: st) σ) := y_iload xe_L_hangs dL_hangs_456
theorem r_L_hangs_458 {ls : xL} {st : List Value} {σ : xS} {x : Int32} : xR mL_hangs 458 ls (.int x :: st) σ = (lst1 ls 7 (some (.int x))).bind (fun l => xR mL_hangs 460 l (st) σ) := y_istore xe_L_hangs dL_hangs_458
theorem r_L_hangs_460 {ls : xL} {st : List Value} {σ : xS}  : xR mL_hangs 460 ls (st) σ = gI (lget ls 8) (fun x => (lst1 ls 8 (some (.int (x + (nI 1))))).bind (fun l => xR mL_hangs 463 l (st) σ)) := y_iinc xe_L_hangs dL_hangs_460 (by decide +kernel)
theorem r_L_hangs_463 {ls : xL} {st : List Value} {σ : xS}  : xR mL_hangs 463 ls (st) σ = xR mL_hangs 367 ls (st) σ := y_goto xe_L_hangs dL_hangs_463 (by decide)
theorem r_L_hangs_466 {ls : xL} {st : List Value} {σ : xS}  : xR mL_hangs 466 ls (st) σ = xR mL_hangs 467 ls (.int (nI 0) :: st) σ := y_iconst xe_L_hangs dL_hangs_466 (by decide +kernel)
theorem r_L_hangs_467 {ls : xL} {st : List Value} {σ : xS} {x : Int32} : xR mL_hangs 467 ls (.int x :: st) σ = (lst1 ls 8 (some (.int x))).bind (fun l => xR mL_hangs 469 l (st) σ) := y_istore xe_L_hangs dL_hangs_467
theorem r_L_hangs_469 {ls : xL} {st : List Value} {σ : xS}  : xR mL_hangs 469 ls (st) σ = xR mL_hangs 470 ls (.int (nI 0) :: st) σ := y_iconst xe_L_hangs dL_hangs_469 (by decide +kernel)
theorem r_L_hangs_470 {ls : xL} {st : List Value} {σ : xS} {x : Int32} : xR mL_hangs 470 ls (.int x :: st) σ = (lst1 ls 9 (some (.int x))).bind (fun l => xR mL_hangs 472 l (st) σ) := y_istore xe_L_hangs dL_hangs_470
theorem r_L_hangs_472 {ls : xL} {st : List Value} {σ : xS}  : xR mL_hangs 472 ls (st) σ = xR mL_hangs 473 ls (.int (nI 0) :: st) σ := y_iconst xe_L_hangs dL_hangs_472 (by decide +kernel)
theorem r_L_hangs_473 {ls : xL} {st : List Value} {σ : xS} {x : Int32} : xR mL_hangs 473 ls (.int x :: st) σ = (lst1 ls 10 (some (.int x))).bind (fun l => xR mL_hangs 475 l (st) σ) := y_istore xe_L_hangs dL_hangs_473
theorem r_L_hangs_475 {ls : xL} {st : List Value} {σ : xS}  : xR mL_hangs 475 ls (st) σ = xR mL_hangs 476 ls (.int (nI 0) :: st) σ := y_iconst xe_L_hangs dL_hangs_475 (by decide +kernel)
theorem r_L_hangs_476 {ls : xL} {st : List Value} {σ : xS} {x : Int32} : xR mL_hangs 476 ls (.int x :: st) σ = (lst1 ls 11 (some (.int x))).bind (fun l => xR mL_hangs 478 l (st) σ) := y_istore xe_L_hangs dL_hangs_476
theorem r_L_hangs_478 {ls : xL} {st : List Value} {σ : xS}  : xR mL_hangs 478 ls (st) σ = xR mL_hangs 479 ls (.int (nI 0) :: st) σ := y_iconst xe_L_hangs dL_hangs_478 (by decide +kernel)
theorem r_L_hangs_479 {ls : xL} {st : List Value} {σ : xS} {x : Int32} : xR mL_hangs 479 ls (.int x :: st) σ = (lst1 ls 12 (some (.int x))).bind (fun l => xR mL_hangs 481 l (st) σ) := y_istore xe_L_hangs dL_hangs_479
theorem r_L_hangs_481 {ls : xL} {st : List Value} {σ : xS}  : xR mL_hangs 481 ls (st) σ = xR mL_hangs 482 ls (.int (nI 0) :: st) σ := y_iconst xe_L_hangs dL_hangs_481 (by decide +kernel)
theorem r_L_hangs_482 {ls : xL} {st : List Value} {σ : xS} {x : Int32} : xR mL_hangs 482 ls (.int x :: st) σ = (lst1 ls 13 (some (.int x))).bind (fun l => xR mL_hangs 484 l (st) σ) := y_istore xe_L_hangs dL_hangs_482
theorem r_L_hangs_484 {ls : xL} {st : List Value} {σ : xS}  : xR mL_hangs 484 ls (st) σ = gI (lget ls 13) (fun x => xR mL_hangs 486 ls (.int x :: st) σ) := y_iload xe_L_hangs dL_hangs_484
theorem r_L_hangs_486 {ls : xL} {st : List Value} {σ : xS}  : xR mL_hangs 486 ls (st) σ = xR mL_hangs 487 ls (.int (nI 3) :: st) σ := y_iconst xe_L_hangs dL_hangs_486 (by decide +kernel)
theorem r_L_hangs_487 {ls : xL} {st : List Value} {σ : xS} {x y : Int32} : xR mL_hangs 487 ls (.int y :: .int x :: st) σ = if y ≤ x then xR mL_hangs 761 ls (st) σ else xR mL_hangs 490 ls (st) σ := y_icmp_ge xe_L_hangs dL_hangs_487 (by decide)
theorem r_L_hangs_490 {ls : xL} {st : List Value} {σ : xS}  : xR mL_hangs 490 ls (st) σ = gI (lget ls 3) (fun x => xR mL_hangs 491 ls (.int x :: st) σ) := y_iload_n xe_L_hangs dL_hangs_490
theorem r_L_hangs_491 {ls : xL} {st : List Value} {σ : xS} {x : Int32} : xR mL_hangs 491 ls (.int x :: st) σ = if x = 0 then xR mL_hangs 761 ls (st) σ else xR mL_hangs 494 ls (st) σ := y_if_eq xe_L_hangs dL_hangs_491 (by decide)
theorem r_L_hangs_494 {ls : xL} {st : List Value} {σ : xS}  : xR mL_hangs 494 ls (st) σ = gA (lget ls 0) (fun x => xR mL_hangs 495 ls (.ref x :: st) σ) := y_aload_n xe_L_hangs dL_hangs_494
theorem r_L_hangs_495 {ls : xL} {st : List Value} {σ : xS}  : xR mL_hangs 495 ls (st) σ = gI (lget ls 13) (fun x => xR mL_hangs 497 ls (.int x :: st) σ) := y_iload xe_L_hangs dL_hangs_495
theorem r_L_hangs_497 {ls : xL} {st : List Value} {σ : xS}  : xR mL_hangs 497 ls (st) σ = xR mL_hangs 498 ls (.int (nI 0) :: st) σ := y_iconst xe_L_hangs dL_hangs_497 (by decide +kernel)
theorem r_L_hangs_498 {ls : xL} {st : List Value} {σ : xS} {x0 : Nat} {x1 : Int32} {x2 : Int32} : xR mL_hangs 498 ls (.int x2 :: .int x1 :: .ref x0 :: st) σ = yC (xwid st) (xC1 mL_skater [.ref x0, .int x1, .int x2] σ) (fun v τ => xR mL_hangs 501 ls (v.toList ++ st) τ) := y_cL (as := [.ref x0, .int x1, .int x2]) xe_L_hangs dL_hangs_498 cl_8_117 rfl xe_L_skater ⟨Nat.le_of_ble_eq_true rfl, Nat.le_of_ble_eq_true rfl⟩ (Nat.le_of_ble_eq_true rfl) (by decide)
theorem r_L_hangs_501 {ls : xL} {st : List Value} {σ : xS} {x : Int32} : xR mL_hangs 501 ls (.int x :: st) σ = if x < 0 then xR mL_hangs 628 ls (st) σ else xR mL_hangs 504 ls (st) σ := y_if_lt xe_L_hangs dL_hangs_501 (by decide)
theorem r_L_hangs_504 {ls : xL} {st : List Value} {σ : xS}  : xR mL_hangs 504 ls (st) σ = gA (lget ls 0) (fun x => xR mL_hangs 505 ls (.ref x :: st) σ) := y_aload_n xe_L_hangs dL_hangs_504
theorem r_L_hangs_505 {ls : xL} {st : List Value} {σ : xS}  : xR mL_hangs 505 ls (st) σ = gI (lget ls 13) (fun x => xR mL_hangs 507 ls (.int x :: st) σ) := y_iload xe_L_hangs dL_hangs_505
theorem r_L_hangs_507 {ls : xL} {st : List Value} {σ : xS}  : xR mL_hangs 507 ls (st) σ = xR mL_hangs 508 ls (.int (nI 0) :: st) σ := y_iconst xe_L_hangs dL_hangs_507 (by decide +kernel)
theorem r_L_hangs_508 {ls : xL} {st : List Value} {σ : xS} {x0 : Nat} {x1 : Int32} {x2 : Int32} : xR mL_hangs 508 ls (.int x2 :: .int x1 :: .ref x0 :: st) σ = yC (xwid st) (xC1 mL_skater [.ref x0, .int x1, .int x2] σ) (fun v τ => xR mL_hangs 511 ls (v.toList ++ st) τ) := y_cL (as := [.ref x0, .int x1, .int x2]) xe_L_hangs dL_hangs_508 cl_8_117 rfl xe_L_skater ⟨Nat.le_of_ble_eq_true rfl, Nat.le_of_ble_eq_true rfl⟩ (Nat.le_of_ble_eq_true rfl) (by decide)
theorem r_L_hangs_511 {ls : xL} {st : List Value} {σ : xS}  : xR mL_hangs 511 ls (st) σ = xR mL_hangs 513 ls (.int (nI 9) :: st) σ := y_bipush xe_L_hangs dL_hangs_511 (by decide +kernel)
theorem r_L_hangs_513 {ls : xL} {st : List Value} {σ : xS} {x y : Int32} : xR mL_hangs 513 ls (.int y :: .int x :: st) σ = if y ≤ x then xR mL_hangs 628 ls (st) σ else xR mL_hangs 516 ls (st) σ := y_icmp_ge xe_L_hangs dL_hangs_513 (by decide)
theorem r_L_hangs_516 {ls : xL} {st : List Value} {σ : xS}  : xR mL_hangs 516 ls (st) σ = gA (lget ls 0) (fun x => xR mL_hangs 517 ls (.ref x :: st) σ) := y_aload_n xe_L_hangs dL_hangs_516
theorem r_L_hangs_517 {ls : xL} {st : List Value} {σ : xS}  : xR mL_hangs 517 ls (st) σ = gI (lget ls 13) (fun x => xR mL_hangs 519 ls (.int x :: st) σ) := y_iload xe_L_hangs dL_hangs_517
theorem r_L_hangs_519 {ls : xL} {st : List Value} {σ : xS}  : xR mL_hangs 519 ls (st) σ = xR mL_hangs 520 ls (.int (nI 1) :: st) σ := y_iconst xe_L_hangs dL_hangs_519 (by decide +kernel)
theorem r_L_hangs_520 {ls : xL} {st : List Value} {σ : xS} {x0 : Nat} {x1 : Int32} {x2 : Int32} : xR mL_hangs 520 ls (.int x2 :: .int x1 :: .ref x0 :: st) σ = yC (xwid st) (xC1 mL_skater [.ref x0, .int x1, .int x2] σ) (fun v τ => xR mL_hangs 523 ls (v.toList ++ st) τ) := y_cL (as := [.ref x0, .int x1, .int x2]) xe_L_hangs dL_hangs_520 cl_8_117 rfl xe_L_skater ⟨Nat.le_of_ble_eq_true rfl, Nat.le_of_ble_eq_true rfl⟩ (Nat.le_of_ble_eq_true rfl) (by decide)
theorem r_L_hangs_523 {ls : xL} {st : List Value} {σ : xS} {x : Int32} : xR mL_hangs 523 ls (.int x :: st) σ = if x < 0 then xR mL_hangs 628 ls (st) σ else xR mL_hangs 526 ls (st) σ := y_if_lt xe_L_hangs dL_hangs_523 (by decide)
theorem r_L_hangs_526 {ls : xL} {st : List Value} {σ : xS}  : xR mL_hangs 526 ls (st) σ = gA (lget ls 0) (fun x => xR mL_hangs 527 ls (.ref x :: st) σ) := y_aload_n xe_L_hangs dL_hangs_526
theorem r_L_hangs_527 {ls : xL} {st : List Value} {σ : xS}  : xR mL_hangs 527 ls (st) σ = gI (lget ls 13) (fun x => xR mL_hangs 529 ls (.int x :: st) σ) := y_iload xe_L_hangs dL_hangs_527
theorem r_L_hangs_529 {ls : xL} {st : List Value} {σ : xS}  : xR mL_hangs 529 ls (st) σ = xR mL_hangs 530 ls (.int (nI 1) :: st) σ := y_iconst xe_L_hangs dL_hangs_529 (by decide +kernel)
theorem r_L_hangs_530 {ls : xL} {st : List Value} {σ : xS} {x0 : Nat} {x1 : Int32} {x2 : Int32} : xR mL_hangs 530 ls (.int x2 :: .int x1 :: .ref x0 :: st) σ = yC (xwid st) (xC1 mL_skater [.ref x0, .int x1, .int x2] σ) (fun v τ => xR mL_hangs 533 ls (v.toList ++ st) τ) := y_cL (as := [.ref x0, .int x1, .int x2]) xe_L_hangs dL_hangs_530 cl_8_117 rfl xe_L_skater ⟨Nat.le_of_ble_eq_true rfl, Nat.le_of_ble_eq_true rfl⟩ (Nat.le_of_ble_eq_true rfl) (by decide)
theorem r_L_hangs_533 {ls : xL} {st : List Value} {σ : xS}  : xR mL_hangs 533 ls (st) σ = xR mL_hangs 535 ls (.int (nI 9) :: st) σ := y_bipush xe_L_hangs dL_hangs_533 (by decide +kernel)
theorem r_L_hangs_535 {ls : xL} {st : List Value} {σ : xS} {x y : Int32} : xR mL_hangs 535 ls (.int y :: .int x :: st) σ = if y ≤ x then xR mL_hangs 628 ls (st) σ else xR mL_hangs 538 ls (st) σ := y_icmp_ge xe_L_hangs dL_hangs_535 (by decide)
theorem r_L_hangs_538 {ls : xL} {st : List Value} {σ : xS}  : xR mL_hangs 538 ls (st) σ = gA (lget ls 0) (fun x => xR mL_hangs 539 ls (.ref x :: st) σ) := y_aload_n xe_L_hangs dL_hangs_538
theorem r_L_hangs_539 {ls : xL} {st : List Value} {σ : xS}  : xR mL_hangs 539 ls (st) σ = gI (lget ls 13) (fun x => xR mL_hangs 541 ls (.int x :: st) σ) := y_iload xe_L_hangs dL_hangs_539
theorem r_L_hangs_541 {ls : xL} {st : List Value} {σ : xS}  : xR mL_hangs 541 ls (st) σ = xR mL_hangs 542 ls (.int (nI 2) :: st) σ := y_iconst xe_L_hangs dL_hangs_541 (by decide +kernel)
theorem r_L_hangs_542 {ls : xL} {st : List Value} {σ : xS} {x0 : Nat} {x1 : Int32} {x2 : Int32} : xR mL_hangs 542 ls (.int x2 :: .int x1 :: .ref x0 :: st) σ = yC (xwid st) (xC1 mL_skater [.ref x0, .int x1, .int x2] σ) (fun v τ => xR mL_hangs 545 ls (v.toList ++ st) τ) := y_cL (as := [.ref x0, .int x1, .int x2]) xe_L_hangs dL_hangs_542 cl_8_117 rfl xe_L_skater ⟨Nat.le_of_ble_eq_true rfl, Nat.le_of_ble_eq_true rfl⟩ (Nat.le_of_ble_eq_true rfl) (by decide)
theorem r_L_hangs_545 {ls : xL} {st : List Value} {σ : xS} {x : Int32} : xR mL_hangs 545 ls (.int x :: st) σ = if x < 0 then xR mL_hangs 628 ls (st) σ else xR mL_hangs 548 ls (st) σ := y_if_lt xe_L_hangs dL_hangs_545 (by decide)
theorem r_L_hangs_548 {ls : xL} {st : List Value} {σ : xS}  : xR mL_hangs 548 ls (st) σ = gA (lget ls 0) (fun x => xR mL_hangs 549 ls (.ref x :: st) σ) := y_aload_n xe_L_hangs dL_hangs_548
theorem r_L_hangs_549 {ls : xL} {st : List Value} {σ : xS}  : xR mL_hangs 549 ls (st) σ = gI (lget ls 13) (fun x => xR mL_hangs 551 ls (.int x :: st) σ) := y_iload xe_L_hangs dL_hangs_549
theorem r_L_hangs_551 {ls : xL} {st : List Value} {σ : xS}  : xR mL_hangs 551 ls (st) σ = xR mL_hangs 552 ls (.int (nI 3) :: st) σ := y_iconst xe_L_hangs dL_hangs_551 (by decide +kernel)
theorem r_L_hangs_552 {ls : xL} {st : List Value} {σ : xS} {x0 : Nat} {x1 : Int32} {x2 : Int32} : xR mL_hangs 552 ls (.int x2 :: .int x1 :: .ref x0 :: st) σ = yC (xwid st) (xC1 mL_skater [.ref x0, .int x1, .int x2] σ) (fun v τ => xR mL_hangs 555 ls (v.toList ++ st) τ) := y_cL (as := [.ref x0, .int x1, .int x2]) xe_L_hangs dL_hangs_552 cl_8_117 rfl xe_L_skater ⟨Nat.le_of_ble_eq_true rfl, Nat.le_of_ble_eq_true rfl⟩ (Nat.le_of_ble_eq_true rfl) (by decide)
theorem r_L_hangs_555 {ls : xL} {st : List Value} {σ : xS}  : xR mL_hangs 555 ls (st) σ = gA (lget ls 0) (fun x => xR mL_hangs 556 ls (.ref x :: st) σ) := y_aload_n xe_L_hangs dL_hangs_555
theorem r_L_hangs_556 {ls : xL} {st : List Value} {σ : xS}  : xR mL_hangs 556 ls (st) σ = gI (lget ls 13) (fun x => xR mL_hangs 558 ls (.int x :: st) σ) := y_iload xe_L_hangs dL_hangs_556
theorem r_L_hangs_558 {ls : xL} {st : List Value} {σ : xS}  : xR mL_hangs 558 ls (st) σ = xR mL_hangs 559 ls (.int (nI 4) :: st) σ := y_iconst xe_L_hangs dL_hangs_558 (by decide +kernel)
theorem r_L_hangs_559 {ls : xL} {st : List Value} {σ : xS} {x0 : Nat} {x1 : Int32} {x2 : Int32} : xR mL_hangs 559 ls (.int x2 :: .int x1 :: .ref x0 :: st) σ = yC (xwid st) (xC1 mL_skater [.ref x0, .int x1, .int x2] σ) (fun v τ => xR mL_hangs 562 ls (v.toList ++ st) τ) := y_cL (as := [.ref x0, .int x1, .int x2]) xe_L_hangs dL_hangs_559 cl_8_117 rfl xe_L_skater ⟨Nat.le_of_ble_eq_true rfl, Nat.le_of_ble_eq_true rfl⟩ (Nat.le_of_ble_eq_true rfl) (by decide)
theorem r_L_hangs_562 {ls : xL} {st : List Value} {σ : xS} {x y : Int32} : xR mL_hangs 562 ls (.int y :: .int x :: st) σ = if ¬ x = y then xR mL_hangs 628 ls (st) σ else xR mL_hangs 565 ls (st) σ := y_icmp_ne xe_L_hangs dL_hangs_562 (by decide)
theorem r_L_hangs_565 {ls : xL} {st : List Value} {σ : xS}  : xR mL_hangs 565 ls (st) σ = gA (lget ls 0) (fun x => xR mL_hangs 566 ls (.ref x :: st) σ) := y_aload_n xe_L_hangs dL_hangs_565
theorem r_L_hangs_566 {ls : xL} {st : List Value} {σ : xS}  : xR mL_hangs 566 ls (st) σ = gI (lget ls 13) (fun x => xR mL_hangs 568 ls (.int x :: st) σ) := y_iload xe_L_hangs dL_hangs_566
theorem r_L_hangs_568 {ls : xL} {st : List Value} {σ : xS}  : xR mL_hangs 568 ls (st) σ = xR mL_hangs 569 ls (.int (nI 3) :: st) σ := y_iconst xe_L_hangs dL_hangs_568 (by decide +kernel)
theorem r_L_hangs_569 {ls : xL} {st : List Value} {σ : xS} {x0 : Nat} {x1 : Int32} {x2 : Int32} : xR mL_hangs 569 ls (.int x2 :: .int x1 :: .ref x0 :: st) σ = yC (xwid st) (xC1 mL_skater [.ref x0, .int x1, .int x2] σ) (fun v τ => xR mL_hangs 572 ls (v.toList ++ st) τ) := y_cL (as := [.ref x0, .int x1, .int x2]) xe_L_hangs dL_hangs_569 cl_8_117 rfl xe_L_skater ⟨Nat.le_of_ble_eq_true rfl, Nat.le_of_ble_eq_true rfl⟩ (Nat.le_of_ble_eq_true rfl) (by decide)
theorem r_L_hangs_572 {ls : xL} {st : List Value} {σ : xS}  : xR mL_hangs 572 ls (st) σ = gA (lget ls 0) (fun x => xR mL_hangs 573 ls (.ref x :: st) σ) := y_aload_n xe_L_hangs dL_hangs_572
theorem r_L_hangs_573 {ls : xL} {st : List Value} {σ : xS}  : xR mL_hangs 573 ls (st) σ = gI (lget ls 13) (fun x => xR mL_hangs 575 ls (.int x :: st) σ) := y_iload xe_L_hangs dL_hangs_573
theorem r_L_hangs_575 {ls : xL} {st : List Value} {σ : xS}  : xR mL_hangs 575 ls (st) σ = xR mL_hangs 576 ls (.int (nI 5) :: st) σ := y_iconst xe_L_hangs dL_hangs_575 (by decide +kernel)
theorem r_L_hangs_576 {ls : xL} {st : List Value} {σ : xS} {x0 : Nat} {x1 : Int32} {x2 : Int32} : xR mL_hangs 576 ls (.int x2 :: .int x1 :: .ref x0 :: st) σ = yC (xwid st) (xC1 mL_skater [.ref x0, .int x1, .int x2] σ) (fun v τ => xR mL_hangs 579 ls (v.toList ++ st) τ) := y_cL (as := [.ref x0, .int x1, .int x2]) xe_L_hangs dL_hangs_576 cl_8_117 rfl xe_L_skater ⟨Nat.le_of_ble_eq_true rfl, Nat.le_of_ble_eq_true rfl⟩ (Nat.le_of_ble_eq_true rfl) (by decide)
theorem r_L_hangs_579 {ls : xL} {st : List Value} {σ : xS} {x y : Int32} : xR mL_hangs 579 ls (.int y :: .int x :: st) σ = if x < y then xR mL_hangs 628 ls (st) σ else xR mL_hangs 582 ls (st) σ := y_icmp_lt xe_L_hangs dL_hangs_579 (by decide)
theorem r_L_hangs_582 {ls : xL} {st : List Value} {σ : xS}  : xR mL_hangs 582 ls (st) σ = gA (lget ls 0) (fun x => xR mL_hangs 583 ls (.ref x :: st) σ) := y_aload_n xe_L_hangs dL_hangs_582
theorem r_L_hangs_583 {ls : xL} {st : List Value} {σ : xS}  : xR mL_hangs 583 ls (st) σ = gI (lget ls 13) (fun x => xR mL_hangs 585 ls (.int x :: st) σ) := y_iload xe_L_hangs dL_hangs_583
theorem r_L_hangs_585 {ls : xL} {st : List Value} {σ : xS}  : xR mL_hangs 585 ls (st) σ = xR mL_hangs 586 ls (.int (nI 0) :: st) σ := y_iconst xe_L_hangs dL_hangs_585 (by decide +kernel)
theorem r_L_hangs_586 {ls : xL} {st : List Value} {σ : xS} {x0 : Nat} {x1 : Int32} {x2 : Int32} : xR mL_hangs 586 ls (.int x2 :: .int x1 :: .ref x0 :: st) σ = yC (xwid st) (xC1 mL_skater [.ref x0, .int x1, .int x2] σ) (fun v τ => xR mL_hangs 589 ls (v.toList ++ st) τ) := y_cL (as := [.ref x0, .int x1, .int x2]) xe_L_hangs dL_hangs_586 cl_8_117 rfl xe_L_skater ⟨Nat.le_of_ble_eq_true rfl, Nat.le_of_ble_eq_true rfl⟩ (Nat.le_of_ble_eq_true rfl) (by decide)
theorem r_L_hangs_589 {ls : xL} {st : List Value} {σ : xS}  : xR mL_hangs 589 ls (st) σ = gA (lget ls 0) (fun x => xR mL_hangs 590 ls (.ref x :: st) σ) := y_aload_n xe_L_hangs dL_hangs_589
theorem r_L_hangs_590 {ls : xL} {st : List Value} {σ : xS}  : xR mL_hangs 590 ls (st) σ = gI (lget ls 13) (fun x => xR mL_hangs 592 ls (.int x :: st) σ) := y_iload xe_L_hangs dL_hangs_590
theorem r_L_hangs_592 {ls : xL} {st : List Value} {σ : xS}  : xR mL_hangs 592 ls (st) σ = xR mL_hangs 593 ls (.int (nI 1) :: st) σ := y_iconst xe_L_hangs dL_hangs_592 (by decide +kernel)
theorem r_L_hangs_593 {ls : xL} {st : List Value} {σ : xS} {x y : Int32} : xR mL_hangs 593 ls (.int y :: .int x :: st) σ = xR mL_hangs 594 ls (.int (x + y) :: st) σ := y_iadd xe_L_hangs dL_hangs_593
theorem r_L_hangs_594 {ls : xL} {st : List Value} {σ : xS}  : xR mL_hangs 594 ls (st) σ = xR mL_hangs 595 ls (.int (nI 3) :: st) σ := y_iconst xe_L_hangs dL_hangs_594 (by decide +kernel)
theorem r_L_hangs_595 {ls : xL} {st : List Value} {σ : xS} {x y : Int32} : xR mL_hangs 595 ls (.int y :: .int x :: st) σ = if y = 0 then none else xR mL_hangs 596 ls (.int (x - x / y * y) :: st) σ := y_irem xe_L_hangs dL_hangs_595
theorem r_L_hangs_596 {ls : xL} {st : List Value} {σ : xS}  : xR mL_hangs 596 ls (st) σ = xR mL_hangs 597 ls (.int (nI 0) :: st) σ := y_iconst xe_L_hangs dL_hangs_596 (by decide +kernel)
theorem r_L_hangs_597 {ls : xL} {st : List Value} {σ : xS} {x0 : Nat} {x1 : Int32} {x2 : Int32} : xR mL_hangs 597 ls (.int x2 :: .int x1 :: .ref x0 :: st) σ = yC (xwid st) (xC1 mL_skater [.ref x0, .int x1, .int x2] σ) (fun v τ => xR mL_hangs 600 ls (v.toList ++ st) τ) := y_cL (as := [.ref x0, .int x1, .int x2]) xe_L_hangs dL_hangs_597 cl_8_117 rfl xe_L_skater ⟨Nat.le_of_ble_eq_true rfl, Nat.le_of_ble_eq_true rfl⟩ (Nat.le_of_ble_eq_true rfl) (by decide)
theorem r_L_hangs_600 {ls : xL} {st : List Value} {σ : xS} {x y : Int32} : xR mL_hangs 600 ls (.int y :: .int x :: st) σ = if ¬ x = y then xR mL_hangs 624 ls (st) σ else xR mL_hangs 603 ls (st) σ := y_icmp_ne xe_L_hangs dL_hangs_600 (by decide)
theorem r_L_hangs_603 {ls : xL} {st : List Value} {σ : xS}  : xR mL_hangs 603 ls (st) σ = gA (lget ls 0) (fun x => xR mL_hangs 604 ls (.ref x :: st) σ) := y_aload_n xe_L_hangs dL_hangs_603
theorem r_L_hangs_604 {ls : xL} {st : List Value} {σ : xS}  : xR mL_hangs 604 ls (st) σ = gI (lget ls 13) (fun x => xR mL_hangs 606 ls (.int x :: st) σ) := y_iload xe_L_hangs dL_hangs_604
theorem r_L_hangs_606 {ls : xL} {st : List Value} {σ : xS}  : xR mL_hangs 606 ls (st) σ = xR mL_hangs 607 ls (.int (nI 1) :: st) σ := y_iconst xe_L_hangs dL_hangs_606 (by decide +kernel)
theorem r_L_hangs_607 {ls : xL} {st : List Value} {σ : xS} {x0 : Nat} {x1 : Int32} {x2 : Int32} : xR mL_hangs 607 ls (.int x2 :: .int x1 :: .ref x0 :: st) σ = yC (xwid st) (xC1 mL_skater [.ref x0, .int x1, .int x2] σ) (fun v τ => xR mL_hangs 610 ls (v.toList ++ st) τ) := y_cL (as := [.ref x0, .int x1, .int x2]) xe_L_hangs dL_hangs_607 cl_8_117 rfl xe_L_skater ⟨Nat.le_of_ble_eq_true rfl, Nat.le_of_ble_eq_true rfl⟩ (Nat.le_of_ble_eq_true rfl) (by decide)
theorem r_L_hangs_610 {ls : xL} {st : List Value} {σ : xS}  : xR mL_hangs 610 ls (st) σ = gA (lget ls 0) (fun x => xR mL_hangs 611 ls (.ref x :: st) σ) := y_aload_n xe_L_hangs dL_hangs_610
theorem r_L_hangs_611 {ls : xL} {st : List Value} {σ : xS}  : xR mL_hangs 611 ls (st) σ = gI (lget ls 13) (fun x => xR mL_hangs 613 ls (.int x :: st) σ) := y_iload xe_L_hangs dL_hangs_611
theorem r_L_hangs_613 {ls : xL} {st : List Value} {σ : xS}  : xR mL_hangs 613 ls (st) σ = xR mL_hangs 614 ls (.int (nI 1) :: st) σ := y_iconst xe_L_hangs dL_hangs_613 (by decide +kernel)
theorem r_L_hangs_614 {ls : xL} {st : List Value} {σ : xS} {x y : Int32} : xR mL_hangs 614 ls (.int y :: .int x :: st) σ = xR mL_hangs 615 ls (.int (x + y) :: st) σ := y_iadd xe_L_hangs dL_hangs_614
theorem r_L_hangs_615 {ls : xL} {st : List Value} {σ : xS}  : xR mL_hangs 615 ls (st) σ = xR mL_hangs 616 ls (.int (nI 3) :: st) σ := y_iconst xe_L_hangs dL_hangs_615 (by decide +kernel)
theorem r_L_hangs_616 {ls : xL} {st : List Value} {σ : xS} {x y : Int32} : xR mL_hangs 616 ls (.int y :: .int x :: st) σ = if y = 0 then none else xR mL_hangs 617 ls (.int (x - x / y * y) :: st) σ := y_irem xe_L_hangs dL_hangs_616
theorem r_L_hangs_617 {ls : xL} {st : List Value} {σ : xS}  : xR mL_hangs 617 ls (st) σ = xR mL_hangs 618 ls (.int (nI 1) :: st) σ := y_iconst xe_L_hangs dL_hangs_617 (by decide +kernel)
theorem r_L_hangs_618 {ls : xL} {st : List Value} {σ : xS} {x0 : Nat} {x1 : Int32} {x2 : Int32} : xR mL_hangs 618 ls (.int x2 :: .int x1 :: .ref x0 :: st) σ = yC (xwid st) (xC1 mL_skater [.ref x0, .int x1, .int x2] σ) (fun v τ => xR mL_hangs 621 ls (v.toList ++ st) τ) := y_cL (as := [.ref x0, .int x1, .int x2]) xe_L_hangs dL_hangs_618 cl_8_117 rfl xe_L_skater ⟨Nat.le_of_ble_eq_true rfl, Nat.le_of_ble_eq_true rfl⟩ (Nat.le_of_ble_eq_true rfl) (by decide)
theorem r_L_hangs_621 {ls : xL} {st : List Value} {σ : xS} {x y : Int32} : xR mL_hangs 621 ls (.int y :: .int x :: st) σ = if x = y then xR mL_hangs 628 ls (st) σ else xR mL_hangs 624 ls (st) σ := y_icmp_eq xe_L_hangs dL_hangs_621 (by decide)
theorem r_L_hangs_624 {ls : xL} {st : List Value} {σ : xS}  : xR mL_hangs 624 ls (st) σ = xR mL_hangs 625 ls (.int (nI 1) :: st) σ := y_iconst xe_L_hangs dL_hangs_624 (by decide +kernel)
theorem r_L_hangs_625 {ls : xL} {st : List Value} {σ : xS}  : xR mL_hangs 625 ls (st) σ = xR mL_hangs 629 ls (st) σ := y_goto xe_L_hangs dL_hangs_625 (by decide)
theorem r_L_hangs_628 {ls : xL} {st : List Value} {σ : xS}  : xR mL_hangs 628 ls (st) σ = xR mL_hangs 629 ls (.int (nI 0) :: st) σ := y_iconst xe_L_hangs dL_hangs_628 (by decide +kernel)
theorem r_L_hangs_629 {ls : xL} {st : List Value} {σ : xS} {x : Int32} : xR mL_hangs 629 ls (.int x :: st) σ = (lst1 ls 3 (some (.int x))).bind (fun l => xR mL_hangs 630 l (st) σ) := y_istore_n xe_L_hangs dL_hangs_629
theorem r_L_hangs_630 {ls : xL} {st : List Value} {σ : xS}  : xR mL_hangs 630 ls (st) σ = gI (lget ls 8) (fun x => xR mL_hangs 632 ls (.int x :: st) σ) := y_iload xe_L_hangs dL_hangs_630
theorem r_L_hangs_632 {ls : xL} {st : List Value} {σ : xS}  : xR mL_hangs 632 ls (st) σ = gA (lget ls 0) (fun x => xR mL_hangs 633 ls (.ref x :: st) σ) := y_aload_n xe_L_hangs dL_hangs_632
theorem r_L_hangs_633 {ls : xL} {st : List Value} {σ : xS}  : xR mL_hangs 633 ls (st) σ = gI (lget ls 13) (fun x => xR mL_hangs 635 ls (.int x :: st) σ) := y_iload xe_L_hangs dL_hangs_633
theorem r_L_hangs_635 {ls : xL} {st : List Value} {σ : xS}  : xR mL_hangs 635 ls (st) σ = xR mL_hangs 636 ls (.int (nI 3) :: st) σ := y_iconst xe_L_hangs dL_hangs_635 (by decide +kernel)
theorem r_L_hangs_636 {ls : xL} {st : List Value} {σ : xS} {x0 : Nat} {x1 : Int32} {x2 : Int32} : xR mL_hangs 636 ls (.int x2 :: .int x1 :: .ref x0 :: st) σ = yC (xwid st) (xC1 mL_skater [.ref x0, .int x1, .int x2] σ) (fun v τ => xR mL_hangs 639 ls (v.toList ++ st) τ) := y_cL (as := [.ref x0, .int x1, .int x2]) xe_L_hangs dL_hangs_636 cl_8_117 rfl xe_L_skater ⟨Nat.le_of_ble_eq_true rfl, Nat.le_of_ble_eq_true rfl⟩ (Nat.le_of_ble_eq_true rfl) (by decide)
theorem r_L_hangs_639 {ls : xL} {st : List Value} {σ : xS} {x y : Int32} : xR mL_hangs 639 ls (.int y :: .int x :: st) σ = xR mL_hangs 640 ls (.int (x + y) :: st) σ := y_iadd xe_L_hangs dL_hangs_639
theorem r_L_hangs_640 {ls : xL} {st : List Value} {σ : xS} {x : Int32} : xR mL_hangs 640 ls (.int x :: st) σ = (lst1 ls 8 (some (.int x))).bind (fun l => xR mL_hangs 642 l (st) σ) := y_istore xe_L_hangs dL_hangs_640
theorem r_L_hangs_642 {ls : xL} {st : List Value} {σ : xS}  : xR mL_hangs 642 ls (st) σ = gI (lget ls 9) (fun x => xR mL_hangs 644 ls (.int x :: st) σ) := y_iload xe_L_hangs dL_hangs_642
theorem r_L_hangs_644 {ls : xL} {st : List Value} {σ : xS}  : xR mL_hangs 644 ls (st) σ = gA (lget ls 0) (fun x => xR mL_hangs 645 ls (.ref x :: st) σ) := y_aload_n xe_L_hangs dL_hangs_644
theorem r_L_hangs_645 {ls : xL} {st : List Value} {σ : xS}  : xR mL_hangs 645 ls (st) σ = gI (lget ls 13) (fun x => xR mL_hangs 647 ls (.int x :: st) σ) := y_iload xe_L_hangs dL_hangs_645
theorem r_L_hangs_647 {ls : xL} {st : List Value} {σ : xS}  : xR mL_hangs 647 ls (st) σ = xR mL_hangs 648 ls (.int (nI 5) :: st) σ := y_iconst xe_L_hangs dL_hangs_647 (by decide +kernel)
theorem r_L_hangs_648 {ls : xL} {st : List Value} {σ : xS} {x0 : Nat} {x1 : Int32} {x2 : Int32} : xR mL_hangs 648 ls (.int x2 :: .int x1 :: .ref x0 :: st) σ = yC (xwid st) (xC1 mL_skater [.ref x0, .int x1, .int x2] σ) (fun v τ => xR mL_hangs 651 ls (v.toList ++ st) τ) := y_cL (as := [.ref x0, .int x1, .int x2]) xe_L_hangs dL_hangs_648 cl_8_117 rfl xe_L_skater ⟨Nat.le_of_ble_eq_true rfl, Nat.le_of_ble_eq_true rfl⟩ (Nat.le_of_ble_eq_true rfl) (by decide)
theorem r_L_hangs_651 {ls : xL} {st : List Value} {σ : xS} {x y : Int32} : xR mL_hangs 651 ls (.int y :: .int x :: st) σ = xR mL_hangs 652 ls (.int (x + y) :: st) σ := y_iadd xe_L_hangs dL_hangs_651
theorem r_L_hangs_652 {ls : xL} {st : List Value} {σ : xS} {x : Int32} : xR mL_hangs 652 ls (.int x :: st) σ = (lst1 ls 9 (some (.int x))).bind (fun l => xR mL_hangs 654 l (st) σ) := y_istore xe_L_hangs dL_hangs_652
theorem r_L_hangs_654 {ls : xL} {st : List Value} {σ : xS}  : xR mL_hangs 654 ls (st) σ = gI (lget ls 10) (fun x => xR mL_hangs 656 ls (.int x :: st) σ) := y_iload xe_L_hangs dL_hangs_654
theorem r_L_hangs_656 {ls : xL} {st : List Value} {σ : xS}  : xR mL_hangs 656 ls (st) σ = gA (lget ls 0) (fun x => xR mL_hangs 657 ls (.ref x :: st) σ) := y_aload_n xe_L_hangs dL_hangs_656
theorem r_L_hangs_657 {ls : xL} {st : List Value} {σ : xS}  : xR mL_hangs 657 ls (st) σ = gI (lget ls 13) (fun x => xR mL_hangs 659 ls (.int x :: st) σ) := y_iload xe_L_hangs dL_hangs_657
theorem r_L_hangs_659 {ls : xL} {st : List Value} {σ : xS}  : xR mL_hangs 659 ls (st) σ = xR mL_hangs 660 ls (.int (nI 2) :: st) σ := y_iconst xe_L_hangs dL_hangs_659 (by decide +kernel)
theorem r_L_hangs_660 {ls : xL} {st : List Value} {σ : xS} {x0 : Nat} {x1 : Int32} {x2 : Int32} : xR mL_hangs 660 ls (.int x2 :: .int x1 :: .ref x0 :: st) σ = yC (xwid st) (xC1 mL_skater [.ref x0, .int x1, .int x2] σ) (fun v τ => xR mL_hangs 663 ls (v.toList ++ st) τ) := y_cL (as := [.ref x0, .int x1, .int x2]) xe_L_hangs dL_hangs_660 cl_8_117 rfl xe_L_skater ⟨Nat.le_of_ble_eq_true rfl, Nat.le_of_ble_eq_true rfl⟩ (Nat.le_of_ble_eq_true rfl) (by decide)
theorem r_L_hangs_663 {ls : xL} {st : List Value} {σ : xS} {x y : Int32} : xR mL_hangs 663 ls (.int y :: .int x :: st) σ = xR mL_hangs 664 ls (.int (x + y) :: st) σ := y_iadd xe_L_hangs dL_hangs_663
theorem r_L_hangs_664 {ls : xL} {st : List Value} {σ : xS} {x : Int32} : xR mL_hangs 664 ls (.int x :: st) σ = (lst1 ls 10 (some (.int x))).bind (fun l => xR mL_hangs 666 l (st) σ) := y_istore xe_L_hangs dL_hangs_664
theorem r_L_hangs_666 {ls : xL} {st : List Value} {σ : xS}  : xR mL_hangs 666 ls (st) σ = gI (lget ls 11) (fun x => xR mL_hangs 668 ls (.int x :: st) σ) := y_iload xe_L_hangs dL_hangs_666
theorem r_L_hangs_668 {ls : xL} {st : List Value} {σ : xS}  : xR mL_hangs 668 ls (st) σ = gA (lget ls 0) (fun x => xR mL_hangs 669 ls (.ref x :: st) σ) := y_aload_n xe_L_hangs dL_hangs_668
theorem r_L_hangs_669 {ls : xL} {st : List Value} {σ : xS}  : xR mL_hangs 669 ls (st) σ = gI (lget ls 13) (fun x => xR mL_hangs 671 ls (.int x :: st) σ) := y_iload xe_L_hangs dL_hangs_669
theorem r_L_hangs_671 {ls : xL} {st : List Value} {σ : xS}  : xR mL_hangs 671 ls (st) σ = xR mL_hangs 673 ls (.int (nI 7) :: st) σ := y_bipush xe_L_hangs dL_hangs_671 (by decide +kernel)
theorem r_L_hangs_673 {ls : xL} {st : List Value} {σ : xS} {x0 : Nat} {x1 : Int32} {x2 : Int32} : xR mL_hangs 673 ls (.int x2 :: .int x1 :: .ref x0 :: st) σ = yC (xwid st) (xC1 mL_skater [.ref x0, .int x1, .int x2] σ) (fun v τ => xR mL_hangs 676 ls (v.toList ++ st) τ) := y_cL (as := [.ref x0, .int x1, .int x2]) xe_L_hangs dL_hangs_673 cl_8_117 rfl xe_L_skater ⟨Nat.le_of_ble_eq_true rfl, Nat.le_of_ble_eq_true rfl⟩ (Nat.le_of_ble_eq_true rfl) (by decide)
theorem r_L_hangs_676 {ls : xL} {st : List Value} {σ : xS} {x y : Int32} : xR mL_hangs 676 ls (.int y :: .int x :: st) σ = xR mL_hangs 677 ls (.int (x + y) :: st) σ := y_iadd xe_L_hangs dL_hangs_676
theorem r_L_hangs_677 {ls : xL} {st : List Value} {σ : xS} {x : Int32} : xR mL_hangs 677 ls (.int x :: st) σ = (lst1 ls 11 (some (.int x))).bind (fun l => xR mL_hangs 679 l (st) σ) := y_istore xe_L_hangs dL_hangs_677
theorem r_L_hangs_679 {ls : xL} {st : List Value} {σ : xS}  : xR mL_hangs 679 ls (st) σ = gI (lget ls 12) (fun x => xR mL_hangs 681 ls (.int x :: st) σ) := y_iload xe_L_hangs dL_hangs_679
theorem r_L_hangs_681 {ls : xL} {st : List Value} {σ : xS}  : xR mL_hangs 681 ls (st) σ = gA (lget ls 0) (fun x => xR mL_hangs 682 ls (.ref x :: st) σ) := y_aload_n xe_L_hangs dL_hangs_681
theorem r_L_hangs_682 {ls : xL} {st : List Value} {σ : xS}  : xR mL_hangs 682 ls (st) σ = gI (lget ls 13) (fun x => xR mL_hangs 684 ls (.int x :: st) σ) := y_iload xe_L_hangs dL_hangs_682
theorem r_L_hangs_684 {ls : xL} {st : List Value} {σ : xS}  : xR mL_hangs 684 ls (st) σ = xR mL_hangs 686 ls (.int (nI 8) :: st) σ := y_bipush xe_L_hangs dL_hangs_684 (by decide +kernel)
theorem r_L_hangs_686 {ls : xL} {st : List Value} {σ : xS} {x0 : Nat} {x1 : Int32} {x2 : Int32} : xR mL_hangs 686 ls (.int x2 :: .int x1 :: .ref x0 :: st) σ = yC (xwid st) (xC1 mL_skater [.ref x0, .int x1, .int x2] σ) (fun v τ => xR mL_hangs 689 ls (v.toList ++ st) τ) := y_cL (as := [.ref x0, .int x1, .int x2]) xe_L_hangs dL_hangs_686 cl_8_117 rfl xe_L_skater ⟨Nat.le_of_ble_eq_true rfl, Nat.le_of_ble_eq_true rfl⟩ (Nat.le_of_ble_eq_true rfl) (by decide)
theorem r_L_hangs_689 {ls : xL} {st : List Value} {σ : xS} {x y : Int32} : xR mL_hangs 689 ls (.int y :: .int x :: st) σ = xR mL_hangs 690 ls (.int (x + y) :: st) σ := y_iadd xe_L_hangs dL_hangs_689
theorem r_L_hangs_690 {ls : xL} {st : List Value} {σ : xS} {x : Int32} : xR mL_hangs 690 ls (.int x :: st) σ = (lst1 ls 12 (some (.int x))).bind (fun l => xR mL_hangs 692 l (st) σ) := y_istore xe_L_hangs dL_hangs_690
theorem r_L_hangs_692 {ls : xL} {st : List Value} {σ : xS}  : xR mL_hangs 692 ls (st) σ = xR mL_hangs 693 ls (.int (nI 0) :: st) σ := y_iconst xe_L_hangs dL_hangs_692 (by decide +kernel)
theorem r_L_hangs_693 {ls : xL} {st : List Value} {σ : xS} {x : Int32} : xR mL_hangs 693 ls (.int x :: st) σ = (lst1 ls 14 (some (.int x))).bind (fun l => xR mL_hangs 695 l (st) σ) := y_istore xe_L_hangs dL_hangs_693
theorem r_L_hangs_695 {ls : xL} {st : List Value} {σ : xS}  : xR mL_hangs 695 ls (st) σ = gI (lget ls 14) (fun x => xR mL_hangs 697 ls (.int x :: st) σ) := y_iload xe_L_hangs dL_hangs_695
theorem r_L_hangs_697 {ls : xL} {st : List Value} {σ : xS}  : xR mL_hangs 697 ls (st) σ = xR mL_hangs 698 ls (.int (nI 4) :: st) σ := y_iconst xe_L_hangs dL_hangs_697 (by decide +kernel)
theorem r_L_hangs_698 {ls : xL} {st : List Value} {σ : xS} {x y : Int32} : xR mL_hangs 698 ls (.int y :: .int x :: st) σ = if y ≤ x then xR mL_hangs 755 ls (st) σ else xR mL_hangs 701 ls (st) σ := y_icmp_ge xe_L_hangs dL_hangs_698 (by decide)
theorem r_L_hangs_701 {ls : xL} {st : List Value} {σ : xS}  : xR mL_hangs 701 ls (st) σ = gI (lget ls 3) (fun x => xR mL_hangs 702 ls (.int x :: st) σ) := y_iload_n xe_L_hangs dL_hangs_701
theorem r_L_hangs_702 {ls : xL} {st : List Value} {σ : xS} {x : Int32} : xR mL_hangs 702 ls (.int x :: st) σ = if x = 0 then xR mL_hangs 755 ls (st) σ else xR mL_hangs 705 ls (st) σ := y_if_eq xe_L_hangs dL_hangs_702 (by decide)
theorem r_L_hangs_705 {ls : xL} {st : List Value} {σ : xS}  : xR mL_hangs 705 ls (st) σ = gA (lget ls 0) (fun x => xR mL_hangs 706 ls (.ref x :: st) σ) := y_aload_n xe_L_hangs dL_hangs_705
theorem r_L_hangs_706 {ls : xL} {st : List Value} {σ : xS}  : xR mL_hangs 706 ls (st) σ = gI (lget ls 13) (fun x => xR mL_hangs 708 ls (.int x :: st) σ) := y_iload xe_L_hangs dL_hangs_706
theorem r_L_hangs_708 {ls : xL} {st : List Value} {σ : xS}  : xR mL_hangs 708 ls (st) σ = gI (lget ls 14) (fun x => xR mL_hangs 710 ls (.int x :: st) σ) := y_iload xe_L_hangs dL_hangs_708
theorem r_L_hangs_710 {ls : xL} {st : List Value} {σ : xS} {x0 : Nat} {x1 : Int32} {x2 : Int32} : xR mL_hangs 710 ls (.int x2 :: .int x1 :: .ref x0 :: st) σ = yC (xwid st) (xC1 mL_why [.ref x0, .int x1, .int x2] σ) (fun v τ => xR mL_hangs 713 ls (v.toList ++ st) τ) := y_cL (as := [.ref x0, .int x1, .int x2]) xe_L_hangs dL_hangs_710 cl_8_119 rfl xe_L_why ⟨Nat.le_of_ble_eq_true rfl, Nat.le_of_ble_eq_true rfl⟩ (Nat.le_of_ble_eq_true rfl) (by decide)
theorem r_L_hangs_713 {ls : xL} {st : List Value} {σ : xS} {x : Int32} : xR mL_hangs 713 ls (.int x :: st) σ = if ¬ x = 0 then xR mL_hangs 720 ls (st) σ else xR mL_hangs 716 ls (st) σ := y_if_ne xe_L_hangs dL_hangs_713 (by decide)
theorem r_L_hangs_716 {ls : xL} {st : List Value} {σ : xS}  : xR mL_hangs 716 ls (st) σ = xR mL_hangs 717 ls (.int (nI 1) :: st) σ := y_iconst xe_L_hangs dL_hangs_716 (by decide +kernel)
theorem r_L_hangs_717 {ls : xL} {st : List Value} {σ : xS}  : xR mL_hangs 717 ls (st) σ = xR mL_hangs 721 ls (st) σ := y_goto xe_L_hangs dL_hangs_717 (by decide)
theorem r_L_hangs_720 {ls : xL} {st : List Value} {σ : xS}  : xR mL_hangs 720 ls (st) σ = xR mL_hangs 721 ls (.int (nI 0) :: st) σ := y_iconst xe_L_hangs dL_hangs_720 (by decide +kernel)
theorem r_L_hangs_721 {ls : xL} {st : List Value} {σ : xS}  : xR mL_hangs 721 ls (st) σ = gA (lget ls 0) (fun x => xR mL_hangs 722 ls (.ref x :: st) σ) := y_aload_n xe_L_hangs dL_hangs_721
theorem r_L_hangs_722 {ls : xL} {st : List Value} {σ : xS}  : xR mL_hangs 722 ls (st) σ = gI (lget ls 13) (fun x => xR mL_hangs 724 ls (.int x :: st) σ) := y_iload xe_L_hangs dL_hangs_722
theorem r_L_hangs_724 {ls : xL} {st : List Value} {σ : xS}  : xR mL_hangs 724 ls (st) σ = gI (lget ls 14) (fun x => xR mL_hangs 726 ls (.int x :: st) σ) := y_iload xe_L_hangs dL_hangs_724
theorem r_L_hangs_726 {ls : xL} {st : List Value} {σ : xS}  : xR mL_hangs 726 ls (st) σ = xR mL_hangs 727 ls (.int (nI 1) :: st) σ := y_iconst xe_L_hangs dL_hangs_726 (by decide +kernel)
theorem r_L_hangs_727 {ls : xL} {st : List Value} {σ : xS}  : xR mL_hangs 727 ls (st) σ = xR mL_hangs 728 ls (.int (nI 0) :: st) σ := y_iconst xe_L_hangs dL_hangs_727 (by decide +kernel)
theorem r_L_hangs_728 {ls : xL} {st : List Value} {σ : xS} {x0 : Nat} {x1 : Int32} {x2 : Int32} {x3 : Int32} {x4 : Int32} : xR mL_hangs 728 ls (.int x4 :: .int x3 :: .int x2 :: .int x1 :: .ref x0 :: st) σ = yC (xwid st) (xC1 mL_ifGlided [.ref x0, .int x1, .int x2, .int x3, .int x4] σ) (fun v τ => xR mL_hangs 731 ls (v.toList ++ st) τ) := y_cL (as := [.ref x0, .int x1, .int x2, .int x3, .int x4]) xe_L_hangs dL_hangs_728 cl_8_121 rfl xe_L_ifGlided ⟨Nat.le_of_ble_eq_true rfl, Nat.le_of_ble_eq_true rfl⟩ (Nat.le_of_ble_eq_true rfl) (by decide)
theorem r_L_hangs_731 {ls : xL} {st : List Value} {σ : xS}  : xR mL_hangs 731 ls (st) σ = xR mL_hangs 732 ls (.int (nI 1) :: st) σ := y_iconst xe_L_hangs dL_hangs_731 (by decide +kernel)
theorem r_L_hangs_732 {ls : xL} {st : List Value} {σ : xS} {x y : Int32} : xR mL_hangs 732 ls (.int y :: .int x :: st) σ = if ¬ x = y then xR mL_hangs 739 ls (st) σ else xR mL_hangs 735 ls (st) σ := y_icmp_ne xe_L_hangs dL_hangs_732 (by decide)
theorem r_L_hangs_735 {ls : xL} {st : List Value} {σ : xS}  : xR mL_hangs 735 ls (st) σ = xR mL_hangs 736 ls (.int (nI 1) :: st) σ := y_iconst xe_L_hangs dL_hangs_735 (by decide +kernel)
theorem r_L_hangs_736 {ls : xL} {st : List Value} {σ : xS}  : xR mL_hangs 736 ls (st) σ = xR mL_hangs 740 ls (st) σ := y_goto xe_L_hangs dL_hangs_736 (by decide)
theorem r_L_hangs_739 {ls : xL} {st : List Value} {σ : xS}  : xR mL_hangs 739 ls (st) σ = xR mL_hangs 740 ls (.int (nI 0) :: st) σ := y_iconst xe_L_hangs dL_hangs_739 (by decide +kernel)
theorem r_L_hangs_740 {ls : xL} {st : List Value} {σ : xS} {x y : Int32} : xR mL_hangs 740 ls (.int y :: .int x :: st) σ = if ¬ x = y then xR mL_hangs 747 ls (st) σ else xR mL_hangs 743 ls (st) σ := y_icmp_ne xe_L_hangs dL_hangs_740 (by decide)
theorem r_L_hangs_743 {ls : xL} {st : List Value} {σ : xS}  : xR mL_hangs 743 ls (st) σ = xR mL_hangs 744 ls (.int (nI 1) :: st) σ := y_iconst xe_L_hangs dL_hangs_743 (by decide +kernel)
theorem r_L_hangs_744 {ls : xL} {st : List Value} {σ : xS}  : xR mL_hangs 744 ls (st) σ = xR mL_hangs 748 ls (st) σ := y_goto xe_L_hangs dL_hangs_744 (by decide)
theorem r_L_hangs_747 {ls : xL} {st : List Value} {σ : xS}  : xR mL_hangs 747 ls (st) σ = xR mL_hangs 748 ls (.int (nI 0) :: st) σ := y_iconst xe_L_hangs dL_hangs_747 (by decide +kernel)
theorem r_L_hangs_748 {ls : xL} {st : List Value} {σ : xS} {x : Int32} : xR mL_hangs 748 ls (.int x :: st) σ = (lst1 ls 3 (some (.int x))).bind (fun l => xR mL_hangs 749 l (st) σ) := y_istore_n xe_L_hangs dL_hangs_748
theorem r_L_hangs_749 {ls : xL} {st : List Value} {σ : xS}  : xR mL_hangs 749 ls (st) σ = gI (lget ls 14) (fun x => (lst1 ls 14 (some (.int (x + (nI 1))))).bind (fun l => xR mL_hangs 752 l (st) σ)) := y_iinc xe_L_hangs dL_hangs_749 (by decide +kernel)
theorem r_L_hangs_752 {ls : xL} {st : List Value} {σ : xS}  : xR mL_hangs 752 ls (st) σ = xR mL_hangs 695 ls (st) σ := y_goto xe_L_hangs dL_hangs_752 (by decide)
theorem r_L_hangs_755 {ls : xL} {st : List Value} {σ : xS}  : xR mL_hangs 755 ls (st) σ = gI (lget ls 13) (fun x => (lst1 ls 13 (some (.int (x + (nI 1))))).bind (fun l => xR mL_hangs 758 l (st) σ)) := y_iinc xe_L_hangs dL_hangs_755 (by decide +kernel)
theorem r_L_hangs_758 {ls : xL} {st : List Value} {σ : xS}  : xR mL_hangs 758 ls (st) σ = xR mL_hangs 484 ls (st) σ := y_goto xe_L_hangs dL_hangs_758 (by decide)
theorem r_L_hangs_761 {ls : xL} {st : List Value} {σ : xS}  : xR mL_hangs 761 ls (st) σ = gI (lget ls 3) (fun x => xR mL_hangs 762 ls (.int x :: st) σ) := y_iload_n xe_L_hangs dL_hangs_761
theorem r_L_hangs_762 {ls : xL} {st : List Value} {σ : xS} {x : Int32} : xR mL_hangs 762 ls (.int x :: st) σ = if x = 0 then xR mL_hangs 959 ls (st) σ else xR mL_hangs 765 ls (st) σ := y_if_eq xe_L_hangs dL_hangs_762 (by decide)
theorem r_L_hangs_765 {ls : xL} {st : List Value} {σ : xS}  : xR mL_hangs 765 ls (st) σ = gI (lget ls 5) (fun x => xR mL_hangs 767 ls (.int x :: st) σ) := y_iload xe_L_hangs dL_hangs_765
theorem r_L_hangs_767 {ls : xL} {st : List Value} {σ : xS}  : xR mL_hangs 767 ls (st) σ = gI (lget ls 1) (fun x => xR mL_hangs 768 ls (.int x :: st) σ) := y_iload_n xe_L_hangs dL_hangs_767
theorem r_L_hangs_768 {ls : xL} {st : List Value} {σ : xS} {x y : Int32} : xR mL_hangs 768 ls (.int y :: .int x :: st) σ = if ¬ x = y then xR mL_hangs 959 ls (st) σ else xR mL_hangs 771 ls (st) σ := y_icmp_ne xe_L_hangs dL_hangs_768 (by decide)
theorem r_L_hangs_771 {ls : xL} {st : List Value} {σ : xS}  : xR mL_hangs 771 ls (st) σ = gI (lget ls 4) (fun x => xR mL_hangs 773 ls (.int x :: st) σ) := y_iload xe_L_hangs dL_hangs_771
theorem r_L_hangs_773 {ls : xL} {st : List Value} {σ : xS}  : xR mL_hangs 773 ls (st) σ = gA (lget ls 0) (fun x => xR mL_hangs 774 ls (.ref x :: st) σ) := y_aload_n xe_L_hangs dL_hangs_773
theorem r_L_hangs_774 {ls : xL} {st : List Value} {σ : xS}  : xR mL_hangs 774 ls (st) σ = xR mL_hangs 775 ls (.int (nI 2) :: st) σ := y_iconst xe_L_hangs dL_hangs_774 (by decide +kernel)
theorem r_L_hangs_775 {ls : xL} {st : List Value} {σ : xS} {x0 : Nat} {x1 : Int32} : xR mL_hangs 775 ls (.int x1 :: .ref x0 :: st) σ = yC (xwid st) (xC1 mL_count [.ref x0, .int x1] σ) (fun v τ => xR mL_hangs 778 ls (v.toList ++ st) τ) := y_cL (as := [.ref x0, .int x1]) xe_L_hangs dL_hangs_775 cl_8_113 rfl xe_L_count ⟨Nat.le_of_ble_eq_true rfl, Nat.le_of_ble_eq_true rfl⟩ (Nat.le_of_ble_eq_true rfl) (by decide)
theorem r_L_hangs_778 {ls : xL} {st : List Value} {σ : xS} {x y : Int32} : xR mL_hangs 778 ls (.int y :: .int x :: st) σ = if ¬ x = y then xR mL_hangs 959 ls (st) σ else xR mL_hangs 781 ls (st) σ := y_icmp_ne xe_L_hangs dL_hangs_778 (by decide)
theorem r_L_hangs_781 {ls : xL} {st : List Value} {σ : xS}  : xR mL_hangs 781 ls (st) σ = gI (lget ls 8) (fun x => xR mL_hangs 783 ls (.int x :: st) σ) := y_iload xe_L_hangs dL_hangs_781
theorem r_L_hangs_783 {ls : xL} {st : List Value} {σ : xS}  : xR mL_hangs 783 ls (st) σ = gI (lget ls 2) (fun x => xR mL_hangs 784 ls (.int x :: st) σ) := y_iload_n xe_L_hangs dL_hangs_783
theorem r_L_hangs_784 {ls : xL} {st : List Value} {σ : xS} {x y : Int32} : xR mL_hangs 784 ls (.int y :: .int x :: st) σ = if ¬ x = y then xR mL_hangs 959 ls (st) σ else xR mL_hangs 787 ls (st) σ := y_icmp_ne xe_L_hangs dL_hangs_784 (by decide)
theorem r_L_hangs_787 {ls : xL} {st : List Value} {σ : xS}  : xR mL_hangs 787 ls (st) σ = gI (lget ls 9) (fun x => xR mL_hangs 789 ls (.int x :: st) σ) := y_iload xe_L_hangs dL_hangs_787
theorem r_L_hangs_789 {ls : xL} {st : List Value} {σ : xS}  : xR mL_hangs 789 ls (st) σ = gA (lget ls 0) (fun x => xR mL_hangs 790 ls (.ref x :: st) σ) := y_aload_n xe_L_hangs dL_hangs_789
theorem r_L_hangs_790 {ls : xL} {st : List Value} {σ : xS}  : xR mL_hangs 790 ls (st) σ = xR mL_hangs 791 ls (.int (nI 3) :: st) σ := y_iconst xe_L_hangs dL_hangs_790 (by decide +kernel)
theorem r_L_hangs_791 {ls : xL} {st : List Value} {σ : xS} {x0 : Nat} {x1 : Int32} : xR mL_hangs 791 ls (.int x1 :: .ref x0 :: st) σ = yC (xwid st) (xC1 mL_count [.ref x0, .int x1] σ) (fun v τ => xR mL_hangs 794 ls (v.toList ++ st) τ) := y_cL (as := [.ref x0, .int x1]) xe_L_hangs dL_hangs_791 cl_8_113 rfl xe_L_count ⟨Nat.le_of_ble_eq_true rfl, Nat.le_of_ble_eq_true rfl⟩ (Nat.le_of_ble_eq_true rfl) (by decide)
theorem r_L_hangs_794 {ls : xL} {st : List Value} {σ : xS} {x y : Int32} : xR mL_hangs 794 ls (.int y :: .int x :: st) σ = if ¬ x = y then xR mL_hangs 959 ls (st) σ else xR mL_hangs 797 ls (st) σ := y_icmp_ne xe_L_hangs dL_hangs_794 (by decide)
theorem r_L_hangs_797 {ls : xL} {st : List Value} {σ : xS}  : xR mL_hangs 797 ls (st) σ = gI (lget ls 10) (fun x => xR mL_hangs 799 ls (.int x :: st) σ) := y_iload xe_L_hangs dL_hangs_797
theorem r_L_hangs_799 {ls : xL} {st : List Value} {σ : xS}  : xR mL_hangs 799 ls (st) σ = gA (lget ls 0) (fun x => xR mL_hangs 800 ls (.ref x :: st) σ) := y_aload_n xe_L_hangs dL_hangs_799
theorem r_L_hangs_800 {ls : xL} {st : List Value} {σ : xS}  : xR mL_hangs 800 ls (st) σ = xR mL_hangs 802 ls (.int (nI 8) :: st) σ := y_bipush xe_L_hangs dL_hangs_800 (by decide +kernel)
theorem r_L_hangs_802 {ls : xL} {st : List Value} {σ : xS} {x0 : Nat} {x1 : Int32} : xR mL_hangs 802 ls (.int x1 :: .ref x0 :: st) σ = yC (xwid st) (xC1 mL_count [.ref x0, .int x1] σ) (fun v τ => xR mL_hangs 805 ls (v.toList ++ st) τ) := y_cL (as := [.ref x0, .int x1]) xe_L_hangs dL_hangs_802 cl_8_113 rfl xe_L_count ⟨Nat.le_of_ble_eq_true rfl, Nat.le_of_ble_eq_true rfl⟩ (Nat.le_of_ble_eq_true rfl) (by decide)
theorem r_L_hangs_805 {ls : xL} {st : List Value} {σ : xS} {x y : Int32} : xR mL_hangs 805 ls (.int y :: .int x :: st) σ = if ¬ x = y then xR mL_hangs 959 ls (st) σ else xR mL_hangs 808 ls (st) σ := y_icmp_ne xe_L_hangs dL_hangs_805 (by decide)
theorem r_L_hangs_808 {ls : xL} {st : List Value} {σ : xS}  : xR mL_hangs 808 ls (st) σ = gI (lget ls 10) (fun x => xR mL_hangs 810 ls (.int x :: st) σ) := y_iload xe_L_hangs dL_hangs_808
theorem r_L_hangs_810 {ls : xL} {st : List Value} {σ : xS}  : xR mL_hangs 810 ls (st) σ = gA (lget ls 0) (fun x => xR mL_hangs 811 ls (.ref x :: st) σ) := y_aload_n xe_L_hangs dL_hangs_810
theorem r_L_hangs_811 {ls : xL} {st : List Value} {σ : xS}  : xR mL_hangs 811 ls (st) σ = xR mL_hangs 813 ls (.int (nI 9) :: st) σ := y_bipush xe_L_hangs dL_hangs_811 (by decide +kernel)
theorem r_L_hangs_813 {ls : xL} {st : List Value} {σ : xS} {x0 : Nat} {x1 : Int32} : xR mL_hangs 813 ls (.int x1 :: .ref x0 :: st) σ = yC (xwid st) (xC1 mL_count [.ref x0, .int x1] σ) (fun v τ => xR mL_hangs 816 ls (v.toList ++ st) τ) := y_cL (as := [.ref x0, .int x1]) xe_L_hangs dL_hangs_813 cl_8_113 rfl xe_L_count ⟨Nat.le_of_ble_eq_true rfl, Nat.le_of_ble_eq_true rfl⟩ (Nat.le_of_ble_eq_true rfl) (by decide)
theorem r_L_hangs_816 {ls : xL} {st : List Value} {σ : xS} {x y : Int32} : xR mL_hangs 816 ls (.int y :: .int x :: st) σ = if ¬ x = y then xR mL_hangs 959 ls (st) σ else xR mL_hangs 819 ls (st) σ := y_icmp_ne xe_L_hangs dL_hangs_816 (by decide)
theorem r_L_hangs_819 {ls : xL} {st : List Value} {σ : xS}  : xR mL_hangs 819 ls (st) σ = gI (lget ls 11) (fun x => xR mL_hangs 821 ls (.int x :: st) σ) := y_iload xe_L_hangs dL_hangs_819
theorem r_L_hangs_821 {ls : xL} {st : List Value} {σ : xS}  : xR mL_hangs 821 ls (st) σ = gI (lget ls 12) (fun x => xR mL_hangs 823 ls (.int x :: st) σ) := y_iload xe_L_hangs dL_hangs_821
theorem r_L_hangs_823 {ls : xL} {st : List Value} {σ : xS} {x y : Int32} : xR mL_hangs 823 ls (.int y :: .int x :: st) σ = if ¬ x = y then xR mL_hangs 959 ls (st) σ else xR mL_hangs 826 ls (st) σ := y_icmp_ne xe_L_hangs dL_hangs_823 (by decide)
theorem r_L_hangs_826 {ls : xL} {st : List Value} {σ : xS}  : xR mL_hangs 826 ls (st) σ = gI (lget ls 1) (fun x => xR mL_hangs 827 ls (.int x :: st) σ) := y_iload_n xe_L_hangs dL_hangs_826
theorem r_L_hangs_827 {ls : xL} {st : List Value} {σ : xS}  : xR mL_hangs 827 ls (st) σ = gA (lget ls 0) (fun x => xR mL_hangs 828 ls (.ref x :: st) σ) := y_aload_n xe_L_hangs dL_hangs_827
theorem r_L_hangs_828 {ls : xL} {st : List Value} {σ : xS}  : xR mL_hangs 828 ls (st) σ = xR mL_hangs 829 ls (.int (nI 0) :: st) σ := y_iconst xe_L_hangs dL_hangs_828 (by decide +kernel)
theorem r_L_hangs_829 {ls : xL} {st : List Value} {σ : xS} {x0 : Nat} {x1 : Int32} : xR mL_hangs 829 ls (.int x1 :: .ref x0 :: st) σ = yC (xwid st) (xC1 mL_count [.ref x0, .int x1] σ) (fun v τ => xR mL_hangs 832 ls (v.toList ++ st) τ) := y_cL (as := [.ref x0, .int x1]) xe_L_hangs dL_hangs_829 cl_8_113 rfl xe_L_count ⟨Nat.le_of_ble_eq_true rfl, Nat.le_of_ble_eq_true rfl⟩ (Nat.le_of_ble_eq_true rfl) (by decide)
theorem r_L_hangs_832 {ls : xL} {st : List Value} {σ : xS} {x y : Int32} : xR mL_hangs 832 ls (.int y :: .int x :: st) σ = if ¬ x = y then xR mL_hangs 959 ls (st) σ else xR mL_hangs 835 ls (st) σ := y_icmp_ne xe_L_hangs dL_hangs_832 (by decide)
theorem r_L_hangs_835 {ls : xL} {st : List Value} {σ : xS}  : xR mL_hangs 835 ls (st) σ = gA (lget ls 0) (fun x => xR mL_hangs 836 ls (.ref x :: st) σ) := y_aload_n xe_L_hangs dL_hangs_835
theorem r_L_hangs_836 {ls : xL} {st : List Value} {σ : xS}  : xR mL_hangs 836 ls (st) σ = xR mL_hangs 838 ls (.int (nI 7) :: st) σ := y_bipush xe_L_hangs dL_hangs_836 (by decide +kernel)
theorem r_L_hangs_838 {ls : xL} {st : List Value} {σ : xS} {x0 : Nat} {x1 : Int32} : xR mL_hangs 838 ls (.int x1 :: .ref x0 :: st) σ = yC (xwid st) (xC1 mL_count [.ref x0, .int x1] σ) (fun v τ => xR mL_hangs 841 ls (v.toList ++ st) τ) := y_cL (as := [.ref x0, .int x1]) xe_L_hangs dL_hangs_838 cl_8_113 rfl xe_L_count ⟨Nat.le_of_ble_eq_true rfl, Nat.le_of_ble_eq_true rfl⟩ (Nat.le_of_ble_eq_true rfl) (by decide)
theorem r_L_hangs_841 {ls : xL} {st : List Value} {σ : xS}  : xR mL_hangs 841 ls (st) σ = xR mL_hangs 843 ls (.int (nI 64) :: st) σ := y_bipush xe_L_hangs dL_hangs_841 (by decide +kernel)
theorem r_L_hangs_843 {ls : xL} {st : List Value} {σ : xS}  : xR mL_hangs 843 ls (st) σ = gI (lget ls 1) (fun x => xR mL_hangs 844 ls (.int x :: st) σ) := y_iload_n xe_L_hangs dL_hangs_843
theorem r_L_hangs_844 {ls : xL} {st : List Value} {σ : xS} {x y : Int32} : xR mL_hangs 844 ls (.int y :: .int x :: st) σ = xR mL_hangs 845 ls (.int (x - y) :: st) σ := y_isub xe_L_hangs dL_hangs_844
theorem r_L_hangs_845 {ls : xL} {st : List Value} {σ : xS} {x y : Int32} : xR mL_hangs 845 ls (.int y :: .int x :: st) σ = if ¬ x = y then xR mL_hangs 959 ls (st) σ else xR mL_hangs 848 ls (st) σ := y_icmp_ne xe_L_hangs dL_hangs_845 (by decide)
theorem r_L_hangs_848 {ls : xL} {st : List Value} {σ : xS}  : xR mL_hangs 848 ls (st) σ = gI (lget ls 7) (fun x => xR mL_hangs 850 ls (.int x :: st) σ) := y_iload xe_L_hangs dL_hangs_848
theorem r_L_hangs_850 {ls : xL} {st : List Value} {σ : xS}  : xR mL_hangs 850 ls (st) σ = gA (lget ls 0) (fun x => xR mL_hangs 851 ls (.ref x :: st) σ) := y_aload_n xe_L_hangs dL_hangs_850
theorem r_L_hangs_851 {ls : xL} {st : List Value} {σ : xS}  : xR mL_hangs 851 ls (st) σ = xR mL_hangs 853 ls (.int (nI 10) :: st) σ := y_bipush xe_L_hangs dL_hangs_851 (by decide +kernel)
theorem r_L_hangs_853 {ls : xL} {st : List Value} {σ : xS} {x0 : Nat} {x1 : Int32} : xR mL_hangs 853 ls (.int x1 :: .ref x0 :: st) σ = yC (xwid st) (xC1 mL_count [.ref x0, .int x1] σ) (fun v τ => xR mL_hangs 856 ls (v.toList ++ st) τ) := y_cL (as := [.ref x0, .int x1]) xe_L_hangs dL_hangs_853 cl_8_113 rfl xe_L_count ⟨Nat.le_of_ble_eq_true rfl, Nat.le_of_ble_eq_true rfl⟩ (Nat.le_of_ble_eq_true rfl) (by decide)
theorem r_L_hangs_856 {ls : xL} {st : List Value} {σ : xS} {x y : Int32} : xR mL_hangs 856 ls (.int y :: .int x :: st) σ = if ¬ x = y then xR mL_hangs 959 ls (st) σ else xR mL_hangs 859 ls (st) σ := y_icmp_ne xe_L_hangs dL_hangs_856 (by decide)
theorem r_L_hangs_859 {ls : xL} {st : List Value} {σ : xS}  : xR mL_hangs 859 ls (st) σ = gA (lget ls 0) (fun x => xR mL_hangs 860 ls (.ref x :: st) σ) := y_aload_n xe_L_hangs dL_hangs_859
theorem r_L_hangs_860 {ls : xL} {st : List Value} {σ : xS}  : xR mL_hangs 860 ls (st) σ = gI (lget ls 4) (fun x => xR mL_hangs 862 ls (.int x :: st) σ) := y_iload xe_L_hangs dL_hangs_860
theorem r_L_hangs_862 {ls : xL} {st : List Value} {σ : xS}  : xR mL_hangs 862 ls (st) σ = xR mL_hangs 863 ls (.int (nI 0) :: st) σ := y_iconst xe_L_hangs dL_hangs_862 (by decide +kernel)
theorem r_L_hangs_863 {ls : xL} {st : List Value} {σ : xS} {x0 : Nat} {x1 : Int32} {x2 : Int32} : xR mL_hangs 863 ls (.int x2 :: .int x1 :: .ref x0 :: st) σ = yC (xwid st) (xC1 mL_rink [.ref x0, .int x1, .int x2] σ) (fun v τ => xR mL_hangs 866 ls (v.toList ++ st) τ) := y_cL (as := [.ref x0, .int x1, .int x2]) xe_L_hangs dL_hangs_863 cl_8_115 rfl xe_L_rink ⟨Nat.le_of_ble_eq_true rfl, Nat.le_of_ble_eq_true rfl⟩ (Nat.le_of_ble_eq_true rfl) (by decide)
theorem r_L_hangs_866 {ls : xL} {st : List Value} {σ : xS}  : xR mL_hangs 866 ls (st) σ = xR mL_hangs 867 ls (.int (-1) :: st) σ := y_iconst xe_L_hangs dL_hangs_866 (by decide +kernel)
theorem r_L_hangs_867 {ls : xL} {st : List Value} {σ : xS} {x y : Int32} : xR mL_hangs 867 ls (.int y :: .int x :: st) σ = if ¬ x = y then xR mL_hangs 959 ls (st) σ else xR mL_hangs 870 ls (st) σ := y_icmp_ne xe_L_hangs dL_hangs_867 (by decide)
theorem r_L_hangs_870 {ls : xL} {st : List Value} {σ : xS}  : xR mL_hangs 870 ls (st) σ = gA (lget ls 0) (fun x => xR mL_hangs 871 ls (.ref x :: st) σ) := y_aload_n xe_L_hangs dL_hangs_870
theorem r_L_hangs_871 {ls : xL} {st : List Value} {σ : xS}  : xR mL_hangs 871 ls (st) σ = xR mL_hangs 872 ls (.int (nI 4) :: st) σ := y_iconst xe_L_hangs dL_hangs_871 (by decide +kernel)
theorem r_L_hangs_872 {ls : xL} {st : List Value} {σ : xS} {x0 : Nat} {x1 : Int32} : xR mL_hangs 872 ls (.int x1 :: .ref x0 :: st) σ = yC (xwid st) (xC1 mL_count [.ref x0, .int x1] σ) (fun v τ => xR mL_hangs 875 ls (v.toList ++ st) τ) := y_cL (as := [.ref x0, .int x1]) xe_L_hangs dL_hangs_872 cl_8_113 rfl xe_L_count ⟨Nat.le_of_ble_eq_true rfl, Nat.le_of_ble_eq_true rfl⟩ (Nat.le_of_ble_eq_true rfl) (by decide)
theorem r_L_hangs_875 {ls : xL} {st : List Value} {σ : xS} {x : Int32} : xR mL_hangs 875 ls (.int x :: st) σ = if x < 0 then xR mL_hangs 959 ls (st) σ else xR mL_hangs 878 ls (st) σ := y_if_lt xe_L_hangs dL_hangs_875 (by decide)
theorem r_L_hangs_878 {ls : xL} {st : List Value} {σ : xS}  : xR mL_hangs 878 ls (st) σ = gA (lget ls 0) (fun x => xR mL_hangs 879 ls (.ref x :: st) σ) := y_aload_n xe_L_hangs dL_hangs_878
theorem r_L_hangs_879 {ls : xL} {st : List Value} {σ : xS}  : xR mL_hangs 879 ls (st) σ = xR mL_hangs 880 ls (.int (nI 4) :: st) σ := y_iconst xe_L_hangs dL_hangs_879 (by decide +kernel)
theorem r_L_hangs_880 {ls : xL} {st : List Value} {σ : xS} {x0 : Nat} {x1 : Int32} : xR mL_hangs 880 ls (.int x1 :: .ref x0 :: st) σ = yC (xwid st) (xC1 mL_count [.ref x0, .int x1] σ) (fun v τ => xR mL_hangs 883 ls (v.toList ++ st) τ) := y_cL (as := [.ref x0, .int x1]) xe_L_hangs dL_hangs_880 cl_8_113 rfl xe_L_count ⟨Nat.le_of_ble_eq_true rfl, Nat.le_of_ble_eq_true rfl⟩ (Nat.le_of_ble_eq_true rfl) (by decide)
theorem r_L_hangs_883 {ls : xL} {st : List Value} {σ : xS}  : xR mL_hangs 883 ls (st) σ = xR mL_hangs 885 ls (.int (nI 112) :: st) σ := y_bipush xe_L_hangs dL_hangs_883 (by decide +kernel)
theorem r_L_hangs_885 {ls : xL} {st : List Value} {σ : xS} {x y : Int32} : xR mL_hangs 885 ls (.int y :: .int x :: st) σ = if y < x then xR mL_hangs 959 ls (st) σ else xR mL_hangs 888 ls (st) σ := y_icmp_gt xe_L_hangs dL_hangs_885 (by decide)
theorem r_L_hangs_888 {ls : xL} {st : List Value} {σ : xS}  : xR mL_hangs 888 ls (st) σ = gA (lget ls 0) (fun x => xR mL_hangs 889 ls (.ref x :: st) σ) := y_aload_n xe_L_hangs dL_hangs_888
theorem r_L_hangs_889 {ls : xL} {st : List Value} {σ : xS}  : xR mL_hangs 889 ls (st) σ = xR mL_hangs 890 ls (.int (nI 5) :: st) σ := y_iconst xe_L_hangs dL_hangs_889 (by decide +kernel)
theorem r_L_hangs_890 {ls : xL} {st : List Value} {σ : xS} {x0 : Nat} {x1 : Int32} : xR mL_hangs 890 ls (.int x1 :: .ref x0 :: st) σ = yC (xwid st) (xC1 mL_count [.ref x0, .int x1] σ) (fun v τ => xR mL_hangs 893 ls (v.toList ++ st) τ) := y_cL (as := [.ref x0, .int x1]) xe_L_hangs dL_hangs_890 cl_8_113 rfl xe_L_count ⟨Nat.le_of_ble_eq_true rfl, Nat.le_of_ble_eq_true rfl⟩ (Nat.le_of_ble_eq_true rfl) (by decide)
theorem r_L_hangs_893 {ls : xL} {st : List Value} {σ : xS} {x : Int32} : xR mL_hangs 893 ls (.int x :: st) σ = if x < 0 then xR mL_hangs 959 ls (st) σ else xR mL_hangs 896 ls (st) σ := y_if_lt xe_L_hangs dL_hangs_893 (by decide)
theorem r_L_hangs_896 {ls : xL} {st : List Value} {σ : xS}  : xR mL_hangs 896 ls (st) σ = gA (lget ls 0) (fun x => xR mL_hangs 897 ls (.ref x :: st) σ) := y_aload_n xe_L_hangs dL_hangs_896
theorem r_L_hangs_897 {ls : xL} {st : List Value} {σ : xS} {a : Nat}  : xR mL_hangs 897 ls (.ref a :: st) σ = yV (hcls σ a) 5 (xwid st) (xC1 mX6_calm [.ref a] σ) (fun v τ => xR mL_hangs 900 ls (v.toList ++ st) τ) := y_cV (as := [.ref a]) (as2 := []) (r := (vwCl[5]?).getD default) xe_L_hangs dL_hangs_897 cl_8_123 rfl rfl rfl rfl xe_X6_calm ⟨Nat.le_of_ble_eq_true rfl, Nat.le_of_ble_eq_true rfl⟩ (Nat.le_of_ble_eq_true rfl) (by decide)
theorem r_L_hangs_900 {ls : xL} {st : List Value} {σ : xS} {x : Int32} : xR mL_hangs 900 ls (.int x :: st) σ = if x < 0 then xR mL_hangs 959 ls (st) σ else xR mL_hangs 903 ls (st) σ := y_if_lt xe_L_hangs dL_hangs_900 (by decide)
theorem r_L_hangs_903 {ls : xL} {st : List Value} {σ : xS}  : xR mL_hangs 903 ls (st) σ = gA (lget ls 0) (fun x => xR mL_hangs 904 ls (.ref x :: st) σ) := y_aload_n xe_L_hangs dL_hangs_903
theorem r_L_hangs_904 {ls : xL} {st : List Value} {σ : xS} {a : Nat}  : xR mL_hangs 904 ls (.ref a :: st) σ = yV (hcls σ a) 5 (xwid st) (xC1 mX6_calm [.ref a] σ) (fun v τ => xR mL_hangs 907 ls (v.toList ++ st) τ) := y_cV (as := [.ref a]) (as2 := []) (r := (vwCl[5]?).getD default) xe_L_hangs dL_hangs_904 cl_8_123 rfl rfl rfl rfl xe_X6_calm ⟨Nat.le_of_ble_eq_true rfl, Nat.le_of_ble_eq_true rfl⟩ (Nat.le_of_ble_eq_true rfl) (by decide)
theorem r_L_hangs_907 {ls : xL} {st : List Value} {σ : xS}  : xR mL_hangs 907 ls (st) σ = xR mL_hangs 909 ls (.int (nI 64) :: st) σ := y_bipush xe_L_hangs dL_hangs_907 (by decide +kernel)
theorem r_L_hangs_909 {ls : xL} {st : List Value} {σ : xS} {x y : Int32} : xR mL_hangs 909 ls (.int y :: .int x :: st) σ = if y ≤ x then xR mL_hangs 959 ls (st) σ else xR mL_hangs 912 ls (st) σ := y_icmp_ge xe_L_hangs dL_hangs_909 (by decide)
theorem r_L_hangs_912 {ls : xL} {st : List Value} {σ : xS}  : xR mL_hangs 912 ls (st) σ = gA (lget ls 0) (fun x => xR mL_hangs 913 ls (.ref x :: st) σ) := y_aload_n xe_L_hangs dL_hangs_912
theorem r_L_hangs_913 {ls : xL} {st : List Value} {σ : xS} {a : Nat}  : xR mL_hangs 913 ls (.ref a :: st) σ = yV (hcls σ a) 5 (xwid st) (xC1 mX6_ownedShare [.ref a] σ) (fun v τ => xR mL_hangs 916 ls (v.toList ++ st) τ) := y_cV (as := [.ref a]) (as2 := []) (r := (vwCl[5]?).getD default) xe_L_hangs dL_hangs_913 cl_8_126 rfl rfl rfl rfl xe_X6_ownedShare ⟨Nat.le_of_ble_eq_true rfl, Nat.le_of_ble_eq_true rfl⟩ (Nat.le_of_ble_eq_true rfl) (by decide)
theorem r_L_hangs_916 {ls : xL} {st : List Value} {σ : xS}  : xR mL_hangs 916 ls (st) σ = gI (lget ls 1) (fun x => xR mL_hangs 917 ls (.int x :: st) σ) := y_iload_n xe_L_hangs dL_hangs_916
theorem r_L_hangs_917 {ls : xL} {st : List Value} {σ : xS} {x : Int32} : xR mL_hangs 917 ls (.int x :: st) σ = if ¬ x = 0 then xR mL_hangs 924 ls (st) σ else xR mL_hangs 920 ls (st) σ := y_if_ne xe_L_hangs dL_hangs_917 (by decide)
theorem r_L_hangs_920 {ls : xL} {st : List Value} {σ : xS}  : xR mL_hangs 920 ls (st) σ = xR mL_hangs 921 ls (.double FP.dconst0 :: st) σ := y_dconst0 xe_L_hangs dL_hangs_920
theorem r_L_hangs_921 {ls : xL} {st : List Value} {σ : xS}  : xR mL_hangs 921 ls (st) σ = xR mL_hangs 929 ls (st) σ := y_goto xe_L_hangs dL_hangs_921 (by decide)
theorem r_L_hangs_924 {ls : xL} {st : List Value} {σ : xS}  : xR mL_hangs 924 ls (st) σ = gI (lget ls 2) (fun x => xR mL_hangs 925 ls (.int x :: st) σ) := y_iload_n xe_L_hangs dL_hangs_924
theorem r_L_hangs_925 {ls : xL} {st : List Value} {σ : xS} {x : Int32} : xR mL_hangs 925 ls (.int x :: st) σ = xR mL_hangs 926 ls (.double (FP.i2d x) :: st) σ := y_i2d xe_L_hangs dL_hangs_925
theorem r_L_hangs_926 {ls : xL} {st : List Value} {σ : xS}  : xR mL_hangs 926 ls (st) σ = gI (lget ls 1) (fun x => xR mL_hangs 927 ls (.int x :: st) σ) := y_iload_n xe_L_hangs dL_hangs_926
theorem r_L_hangs_927 {ls : xL} {st : List Value} {σ : xS} {x : Int32} : xR mL_hangs 927 ls (.int x :: st) σ = xR mL_hangs 928 ls (.double (FP.i2d x) :: st) σ := y_i2d xe_L_hangs dL_hangs_927
theorem r_L_hangs_928 {ls : xL} {st : List Value} {σ : xS} {x y : UInt64} : xR mL_hangs 928 ls (.double y :: .double x :: st) σ = if FP.ddiv x y &&& 0x7fffffffffffffff ≤ 0x7ff0000000000000 then xR mL_hangs 929 ls (.double (FP.ddiv x y) :: st) σ else none := y_ddiv xe_L_hangs dL_hangs_928
theorem r_L_hangs_929 {ls : xL} {st : List Value} {σ : xS} {x y : UInt64} : xR mL_hangs 929 ls (.double y :: .double x :: st) σ = xR mL_hangs 930 ls (.int (Op.cmpValue (FP.dcmp x y) .l) :: st) σ := y_dcmp xe_L_hangs dL_hangs_929
theorem r_L_hangs_930 {ls : xL} {st : List Value} {σ : xS} {x : Int32} : xR mL_hangs 930 ls (.int x :: st) σ = if ¬ x = 0 then xR mL_hangs 959 ls (st) σ else xR mL_hangs 933 ls (st) σ := y_if_ne xe_L_hangs dL_hangs_930 (by decide)
theorem r_L_hangs_933 {ls : xL} {st : List Value} {σ : xS}  : xR mL_hangs 933 ls (st) σ = gA (lget ls 0) (fun x => xR mL_hangs 934 ls (.ref x :: st) σ) := y_aload_n xe_L_hangs dL_hangs_933
theorem r_L_hangs_934 {ls : xL} {st : List Value} {σ : xS} {a : Nat}  : xR mL_hangs 934 ls (.ref a :: st) σ = yV (hcls σ a) 5 (xwid st) (xC1 mX6_meanRink [.ref a] σ) (fun v τ => xR mL_hangs 937 ls (v.toList ++ st) τ) := y_cV (as := [.ref a]) (as2 := []) (r := (vwCl[5]?).getD default) xe_L_hangs dL_hangs_934 cl_8_130 rfl rfl rfl rfl xe_X6_meanRink ⟨Nat.le_of_ble_eq_true rfl, Nat.le_of_ble_eq_true rfl⟩ (Nat.le_of_ble_eq_true rfl) (by decide)
theorem r_L_hangs_937 {ls : xL} {st : List Value} {σ : xS}  : xR mL_hangs 937 ls (st) σ = gI (lget ls 1) (fun x => xR mL_hangs 938 ls (.int x :: st) σ) := y_iload_n xe_L_hangs dL_hangs_937
theorem r_L_hangs_938 {ls : xL} {st : List Value} {σ : xS} {x : Int32} : xR mL_hangs 938 ls (.int x :: st) σ = if ¬ x = 0 then xR mL_hangs 945 ls (st) σ else xR mL_hangs 941 ls (st) σ := y_if_ne xe_L_hangs dL_hangs_938 (by decide)
theorem r_L_hangs_941 {ls : xL} {st : List Value} {σ : xS}  : xR mL_hangs 941 ls (st) σ = xR mL_hangs 942 ls (.float FP.fconst0 :: st) σ := y_fconst xe_L_hangs dL_hangs_941
theorem r_L_hangs_942 {ls : xL} {st : List Value} {σ : xS}  : xR mL_hangs 942 ls (st) σ = xR mL_hangs 951 ls (st) σ := y_goto xe_L_hangs dL_hangs_942 (by decide)
theorem r_L_hangs_945 {ls : xL} {st : List Value} {σ : xS}  : xR mL_hangs 945 ls (st) σ = gI (lget ls 1) (fun x => xR mL_hangs 946 ls (.int x :: st) σ) := y_iload_n xe_L_hangs dL_hangs_945
theorem r_L_hangs_946 {ls : xL} {st : List Value} {σ : xS} {x : Int32} : xR mL_hangs 946 ls (.int x :: st) σ = xR mL_hangs 947 ls (.float (FP.i2f x) :: st) σ := y_i2f xe_L_hangs dL_hangs_946
theorem r_L_hangs_947 {ls : xL} {st : List Value} {σ : xS}  : xR mL_hangs 947 ls (st) σ = gI (lget ls 4) (fun x => xR mL_hangs 949 ls (.int x :: st) σ) := y_iload xe_L_hangs dL_hangs_947
theorem r_L_hangs_949 {ls : xL} {st : List Value} {σ : xS} {x : Int32} : xR mL_hangs 949 ls (.int x :: st) σ = xR mL_hangs 950 ls (.float (FP.i2f x) :: st) σ := y_i2f xe_L_hangs dL_hangs_949
theorem r_L_hangs_950 {ls : xL} {st : List Value} {σ : xS} {x y : UInt32} : xR mL_hangs 950 ls (.float y :: .float x :: st) σ = if FP.fdiv x y &&& 0x7fffffff ≤ 0x7f800000 then xR mL_hangs 951 ls (.float (FP.fdiv x y) :: st) σ else none := y_fdiv xe_L_hangs dL_hangs_950
theorem r_L_hangs_951 {ls : xL} {st : List Value} {σ : xS} {x y : UInt32} : xR mL_hangs 951 ls (.float y :: .float x :: st) σ = xR mL_hangs 952 ls (.int (Op.cmpValue (FP.fcmp x y) .l) :: st) σ := y_fcmp xe_L_hangs dL_hangs_951
theorem r_L_hangs_952 {ls : xL} {st : List Value} {σ : xS} {x : Int32} : xR mL_hangs 952 ls (.int x :: st) σ = if ¬ x = 0 then xR mL_hangs 959 ls (st) σ else xR mL_hangs 955 ls (st) σ := y_if_ne xe_L_hangs dL_hangs_952 (by decide)
theorem r_L_hangs_955 {ls : xL} {st : List Value} {σ : xS}  : xR mL_hangs 955 ls (st) σ = xR mL_hangs 956 ls (.int (nI 1) :: st) σ := y_iconst xe_L_hangs dL_hangs_955 (by decide +kernel)
theorem r_L_hangs_956 {ls : xL} {st : List Value} {σ : xS}  : xR mL_hangs 956 ls (st) σ = xR mL_hangs 960 ls (st) σ := y_goto xe_L_hangs dL_hangs_956 (by decide)
theorem r_L_hangs_959 {ls : xL} {st : List Value} {σ : xS}  : xR mL_hangs 959 ls (st) σ = xR mL_hangs 960 ls (.int (nI 0) :: st) σ := y_iconst xe_L_hangs dL_hangs_959 (by decide +kernel)
theorem r_L_hangs_960 {ls : xL} {σ : xS} {x : Int32} : xR mL_hangs 960 ls ([.int x]) σ = if x = 0 ∨ x = 1 then some (.inl (some (.int x)), σ) else none := y_zret xe_L_hangs dL_hangs_960 rfl
theorem r_L_pond_0 {ls : xL} {st : List Value} {σ : xS}  : xR mL_pond 0 ls (st) σ = gA (lget ls 0) (fun x => xR mL_pond 1 ls (.ref x :: st) σ) := y_aload_n xe_L_pond dL_pond_0
theorem r_L_pond_1 {ls : xL} {st : List Value} {σ : xS}  : xR mL_pond 1 ls (st) σ = gI (lget ls 1) (fun x => xR mL_pond 2 ls (.int x :: st) σ) := y_iload_n xe_L_pond dL_pond_1
theorem r_L_pond_2 {ls : xL} {st : List Value} {σ : xS}  : xR mL_pond 2 ls (st) σ = gI (lget ls 2) (fun x => xR mL_pond 3 ls (.int x :: st) σ) := y_iload_n xe_L_pond dL_pond_2
theorem r_L_pond_3 {ls : xL} {st : List Value} {σ : xS}  : xR mL_pond 3 ls (st) σ = gI (lget ls 3) (fun x => xR mL_pond 4 ls (.int x :: st) σ) := y_iload_n xe_L_pond dL_pond_3
theorem r_L_pond_4 {ls : xL} {σ : xS} {a : Nat} {x0 : Int32} {x1 : Int32} {x2 : Int32} (hc : hcls σ a = some 5) : xR mL_pond 4 ls [.int x2, .int x1, .int x0, .ref a] σ = (match xC1 mX6_cell [.ref a, .int x0, .int x1, .int x2] σ with
      | none => none
      | some (.inl v, σ2) => xR mL_pond 7 ls (v.toList ++ []) σ2
      | some (.inr x, σ2) => (match xcat mL_pond 4 x ls with
        | some (pc2, l2) => xR mL_pond pc2 l2 [] σ2
        | none => none)) := y_cT (as := [.ref a, .int x0, .int x1, .int x2]) (as2 := [.int x0, .int x1, .int x2]) (r := (vwCl[5]?).getD default) xe_L_pond dL_pond_4 cl_8_31 rfl rfl rfl rfl xe_X6_cell ⟨Nat.le_of_ble_eq_true rfl, Nat.le_of_ble_eq_true rfl⟩ (Nat.le_of_ble_eq_true rfl) (Nat.le_of_ble_eq_true rfl) hc
theorem r_L_pond_7 {ls : xL} {σ : xS} {x : Int32} : xR mL_pond 7 ls ([.int x]) σ = some (.inl (some (.int x)), σ) := y_iret xe_L_pond dL_pond_7 rfl
theorem r_L_pond_10 {ls : xL} {st : List Value} {σ : xS}  : xR mL_pond 10 ls (st) σ = xR mL_pond 12 ls (.int (-3) :: st) σ := y_bipush xe_L_pond dL_pond_10 (by decide +kernel)
theorem r_L_pond_12 {ls : xL} {σ : xS} {x : Int32} : xR mL_pond 12 ls ([.int x]) σ = some (.inl (some (.int x)), σ) := y_iret xe_L_pond dL_pond_12 rfl
theorem r_L_pond_15 {ls : xL} {st : List Value} {σ : xS}  : xR mL_pond 15 ls (st) σ = xR mL_pond 17 ls (.int (-2) :: st) σ := y_bipush xe_L_pond dL_pond_15 (by decide +kernel)
theorem r_L_pond_17 {ls : xL} {σ : xS} {x : Int32} : xR mL_pond 17 ls ([.int x]) σ = some (.inl (some (.int x)), σ) := y_iret xe_L_pond dL_pond_17 rfl
theorem r_L_line_0 {ls : xL} {st : List Value} {σ : xS}  : xR mL_line 0 ls (st) σ = gA (lget ls 0) (fun x => xR mL_line 1 ls (.ref x :: st) σ) := y_aload_n xe_L_line dL_line_0
theorem r_L_line_1 {ls : xL} {st : List Value} {σ : xS}  : xR mL_line 1 ls (st) σ = gI (lget ls 1) (fun x => xR mL_line 2 ls (.int x :: st) σ) := y_iload_n xe_L_line dL_line_1
theorem r_L_line_2 {ls : xL} {st : List Value} {σ : xS}  : xR mL_line 2 ls (st) σ = gI (lget ls 2) (fun x => xR mL_line 3 ls (.int x :: st) σ) := y_iload_n xe_L_line dL_line_2
theorem r_L_line_3 {ls : xL} {st : List Value} {σ : xS}  : xR mL_line 3 ls (st) σ = gI (lget ls 3) (fun x => xR mL_line 4 ls (.int x :: st) σ) := y_iload_n xe_L_line dL_line_3
theorem r_L_line_4 {ls : xL} {st : List Value} {σ : xS}  : xR mL_line 4 ls (st) σ = gI (lget ls 4) (fun x => xR mL_line 6 ls (.int x :: st) σ) := y_iload xe_L_line dL_line_4
theorem r_L_line_6 {ls : xL} {σ : xS} {a : Nat} {x0 : Int32} {x1 : Int32} {x2 : Int32} {x3 : Int32} (hc : hcls σ a = some 5) : xR mL_line 6 ls [.int x3, .int x2, .int x1, .int x0, .ref a] σ = (match xC1 mX6_line [.ref a, .int x0, .int x1, .int x2, .int x3] σ with
      | none => none
      | some (.inl v, σ2) => xR mL_line 9 ls (v.toList ++ []) σ2
      | some (.inr x, σ2) => (match xcat mL_line 6 x ls with
        | some (pc2, l2) => xR mL_line pc2 l2 [] σ2
        | none => none)) := y_cT (as := [.ref a, .int x0, .int x1, .int x2, .int x3]) (as2 := [.int x0, .int x1, .int x2, .int x3]) (r := (vwCl[5]?).getD default) xe_L_line dL_line_6 cl_8_34 rfl rfl rfl rfl xe_X6_line ⟨Nat.le_of_ble_eq_true rfl, Nat.le_of_ble_eq_true rfl⟩ (Nat.le_of_ble_eq_true rfl) (Nat.le_of_ble_eq_true rfl) hc
theorem r_L_line_9 {ls : xL} {σ : xS} {x : Int32} : xR mL_line 9 ls ([.int x]) σ = some (.inl (some (.int x)), σ) := y_iret xe_L_line dL_line_9 rfl
theorem r_L_line_12 {ls : xL} {st : List Value} {σ : xS}  : xR mL_line 12 ls (st) σ = xR mL_line 14 ls (.int (-3) :: st) σ := y_bipush xe_L_line dL_line_12 (by decide +kernel)
theorem r_L_line_14 {ls : xL} {σ : xS} {x : Int32} : xR mL_line 14 ls ([.int x]) σ = some (.inl (some (.int x)), σ) := y_iret xe_L_line dL_line_14 rfl
theorem r_L_line_17 {ls : xL} {st : List Value} {σ : xS}  : xR mL_line 17 ls (st) σ = xR mL_line 19 ls (.int (-2) :: st) σ := y_bipush xe_L_line dL_line_17 (by decide +kernel)
theorem r_L_line_19 {ls : xL} {σ : xS} {x : Int32} : xR mL_line 19 ls ([.int x]) σ = some (.inl (some (.int x)), σ) := y_iret xe_L_line dL_line_19 rfl
theorem r_L_rink_0 {ls : xL} {st : List Value} {σ : xS}  : xR mL_rink 0 ls (st) σ = gA (lget ls 0) (fun x => xR mL_rink 1 ls (.ref x :: st) σ) := y_aload_n xe_L_rink dL_rink_0
theorem r_L_rink_1 {ls : xL} {st : List Value} {σ : xS}  : xR mL_rink 1 ls (st) σ = gI (lget ls 1) (fun x => xR mL_rink 2 ls (.int x :: st) σ) := y_iload_n xe_L_rink dL_rink_1
theorem r_L_rink_2 {ls : xL} {st : List Value} {σ : xS}  : xR mL_rink 2 ls (st) σ = gI (lget ls 2) (fun x => xR mL_rink 3 ls (.int x :: st) σ) := y_iload_n xe_L_rink dL_rink_2
theorem r_L_rink_3 {ls : xL} {σ : xS} {a : Nat} {x0 : Int32} {x1 : Int32} (hc : hcls σ a = some 5) : xR mL_rink 3 ls [.int x1, .int x0, .ref a] σ = (match xC1 mX6_rink [.ref a, .int x0, .int x1] σ with
      | none => none
      | some (.inl v, σ2) => xR mL_rink 6 ls (v.toList ++ []) σ2
      | some (.inr x, σ2) => (match xcat mL_rink 3 x ls with
        | some (pc2, l2) => xR mL_rink pc2 l2 [] σ2
        | none => none)) := y_cT (as := [.ref a, .int x0, .int x1]) (as2 := [.int x0, .int x1]) (r := (vwCl[5]?).getD default) xe_L_rink dL_rink_3 cl_8_41 rfl rfl rfl rfl xe_X6_rink ⟨Nat.le_of_ble_eq_true rfl, Nat.le_of_ble_eq_true rfl⟩ (Nat.le_of_ble_eq_true rfl) (Nat.le_of_ble_eq_true rfl) hc
theorem r_L_rink_6 {ls : xL} {σ : xS} {x : Int32} : xR mL_rink 6 ls ([.int x]) σ = some (.inl (some (.int x)), σ) := y_iret xe_L_rink dL_rink_6 rfl
theorem r_L_rink_8 {ls : xL} {st : List Value} {σ : xS}  : xR mL_rink 8 ls (st) σ = xR mL_rink 10 ls (.int (-3) :: st) σ := y_bipush xe_L_rink dL_rink_8 (by decide +kernel)
theorem r_L_rink_10 {ls : xL} {σ : xS} {x : Int32} : xR mL_rink 10 ls ([.int x]) σ = some (.inl (some (.int x)), σ) := y_iret xe_L_rink dL_rink_10 rfl
theorem r_L_rink_12 {ls : xL} {st : List Value} {σ : xS}  : xR mL_rink 12 ls (st) σ = xR mL_rink 14 ls (.int (-2) :: st) σ := y_bipush xe_L_rink dL_rink_12 (by decide +kernel)
theorem r_L_rink_14 {ls : xL} {σ : xS} {x : Int32} : xR mL_rink 14 ls ([.int x]) σ = some (.inl (some (.int x)), σ) := y_iret xe_L_rink dL_rink_14 rfl
theorem r_L_skater_0 {ls : xL} {st : List Value} {σ : xS}  : xR mL_skater 0 ls (st) σ = gA (lget ls 0) (fun x => xR mL_skater 1 ls (.ref x :: st) σ) := y_aload_n xe_L_skater dL_skater_0
theorem r_L_skater_1 {ls : xL} {st : List Value} {σ : xS}  : xR mL_skater 1 ls (st) σ = gI (lget ls 1) (fun x => xR mL_skater 2 ls (.int x :: st) σ) := y_iload_n xe_L_skater dL_skater_1
theorem r_L_skater_2 {ls : xL} {st : List Value} {σ : xS}  : xR mL_skater 2 ls (st) σ = gI (lget ls 2) (fun x => xR mL_skater 3 ls (.int x :: st) σ) := y_iload_n xe_L_skater dL_skater_2
theorem r_L_skater_3 {ls : xL} {σ : xS} {a : Nat} {x0 : Int32} {x1 : Int32} (hc : hcls σ a = some 5) : xR mL_skater 3 ls [.int x1, .int x0, .ref a] σ = (match xC1 mX6_skater [.ref a, .int x0, .int x1] σ with
      | none => none
      | some (.inl v, σ2) => xR mL_skater 6 ls (v.toList ++ []) σ2
      | some (.inr x, σ2) => (match xcat mL_skater 3 x ls with
        | some (pc2, l2) => xR mL_skater pc2 l2 [] σ2
        | none => none)) := y_cT (as := [.ref a, .int x0, .int x1]) (as2 := [.int x0, .int x1]) (r := (vwCl[5]?).getD default) xe_L_skater dL_skater_3 cl_8_38 rfl rfl rfl rfl xe_X6_skater ⟨Nat.le_of_ble_eq_true rfl, Nat.le_of_ble_eq_true rfl⟩ (Nat.le_of_ble_eq_true rfl) (Nat.le_of_ble_eq_true rfl) hc
theorem r_L_skater_6 {ls : xL} {σ : xS} {x : Int32} : xR mL_skater 6 ls ([.int x]) σ = some (.inl (some (.int x)), σ) := y_iret xe_L_skater dL_skater_6 rfl
theorem r_L_skater_8 {ls : xL} {st : List Value} {σ : xS}  : xR mL_skater 8 ls (st) σ = xR mL_skater 10 ls (.int (-3) :: st) σ := y_bipush xe_L_skater dL_skater_8 (by decide +kernel)
theorem r_L_skater_10 {ls : xL} {σ : xS} {x : Int32} : xR mL_skater 10 ls ([.int x]) σ = some (.inl (some (.int x)), σ) := y_iret xe_L_skater dL_skater_10 rfl
theorem r_L_skater_12 {ls : xL} {st : List Value} {σ : xS}  : xR mL_skater 12 ls (st) σ = xR mL_skater 14 ls (.int (-2) :: st) σ := y_bipush xe_L_skater dL_skater_12 (by decide +kernel)
theorem r_L_skater_14 {ls : xL} {σ : xS} {x : Int32} : xR mL_skater 14 ls ([.int x]) σ = some (.inl (some (.int x)), σ) := y_iret xe_L_skater dL_skater_14 rfl
theorem r_L_why_0 {ls : xL} {st : List Value} {σ : xS}  : xR mL_why 0 ls (st) σ = gA (lget ls 0) (fun x => xR mL_why 1 ls (.ref x :: st) σ) := y_aload_n xe_L_why dL_why_0
theorem r_L_why_1 {ls : xL} {st : List Value} {σ : xS}  : xR mL_why 1 ls (st) σ = gI (lget ls 1) (fun x => xR mL_why 2 ls (.int x :: st) σ) := y_iload_n xe_L_why dL_why_1
theorem r_L_why_2 {ls : xL} {st : List Value} {σ : xS}  : xR mL_why 2 ls (st) σ = gI (lget ls 2) (fun x => xR mL_why 3 ls (.int x :: st) σ) := y_iload_n xe_L_why dL_why_2
theorem r_L_why_3 {ls : xL} {σ : xS} {a : Nat} {x0 : Int32} {x1 : Int32} (hc : hcls σ a = some 5) : xR mL_why 3 ls [.int x1, .int x0, .ref a] σ = (match xC1 mX6_why [.ref a, .int x0, .int x1] σ with
      | none => none
      | some (.inl v, σ2) => xR mL_why 6 ls (v.toList ++ []) σ2
      | some (.inr x, σ2) => (match xcat mL_why 3 x ls with
        | some (pc2, l2) => xR mL_why pc2 l2 [] σ2
        | none => none)) := y_cT (as := [.ref a, .int x0, .int x1]) (as2 := [.int x0, .int x1]) (r := (vwCl[5]?).getD default) xe_L_why dL_why_3 cl_8_48 rfl rfl rfl rfl xe_X6_why ⟨Nat.le_of_ble_eq_true rfl, Nat.le_of_ble_eq_true rfl⟩ (Nat.le_of_ble_eq_true rfl) (Nat.le_of_ble_eq_true rfl) hc
theorem r_L_why_6 {ls : xL} {σ : xS} {x : Int32} : xR mL_why 6 ls ([.int x]) σ = some (.inl (some (.int x)), σ) := y_iret xe_L_why dL_why_6 rfl
theorem r_L_why_8 {ls : xL} {st : List Value} {σ : xS}  : xR mL_why 8 ls (st) σ = xR mL_why 10 ls (.int (-3) :: st) σ := y_bipush xe_L_why dL_why_8 (by decide +kernel)
theorem r_L_why_10 {ls : xL} {σ : xS} {x : Int32} : xR mL_why 10 ls ([.int x]) σ = some (.inl (some (.int x)), σ) := y_iret xe_L_why dL_why_10 rfl
theorem r_L_why_12 {ls : xL} {st : List Value} {σ : xS}  : xR mL_why 12 ls (st) σ = xR mL_why 14 ls (.int (-2) :: st) σ := y_bipush xe_L_why dL_why_12 (by decide +kernel)
theorem r_L_why_14 {ls : xL} {σ : xS} {x : Int32} : xR mL_why 14 ls ([.int x]) σ = some (.inl (some (.int x)), σ) := y_iret xe_L_why dL_why_14 rfl
theorem r_L_ifGlided_0 {ls : xL} {st : List Value} {σ : xS}  : xR mL_ifGlided 0 ls (st) σ = gA (lget ls 0) (fun x => xR mL_ifGlided 1 ls (.ref x :: st) σ) := y_aload_n xe_L_ifGlided dL_ifGlided_0
theorem r_L_ifGlided_1 {ls : xL} {st : List Value} {σ : xS}  : xR mL_ifGlided 1 ls (st) σ = gI (lget ls 1) (fun x => xR mL_ifGlided 2 ls (.int x :: st) σ) := y_iload_n xe_L_ifGlided dL_ifGlided_1
theorem r_L_ifGlided_2 {ls : xL} {st : List Value} {σ : xS}  : xR mL_ifGlided 2 ls (st) σ = gI (lget ls 2) (fun x => xR mL_ifGlided 3 ls (.int x :: st) σ) := y_iload_n xe_L_ifGlided dL_ifGlided_2
theorem r_L_ifGlided_3 {ls : xL} {st : List Value} {σ : xS}  : xR mL_ifGlided 3 ls (st) σ = gI (lget ls 3) (fun x => xR mL_ifGlided 4 ls (.int x :: st) σ) := y_iload_n xe_L_ifGlided dL_ifGlided_3
theorem r_L_ifGlided_4 {ls : xL} {st : List Value} {σ : xS}  : xR mL_ifGlided 4 ls (st) σ = gI (lget ls 4) (fun x => xR mL_ifGlided 6 ls (.int x :: st) σ) := y_iload xe_L_ifGlided dL_ifGlided_4
theorem r_L_ifGlided_6 {ls : xL} {σ : xS} {a : Nat} {x0 : Int32} {x1 : Int32} {x2 : Int32} {x3 : Int32} (hc : hcls σ a = some 5) : xR mL_ifGlided 6 ls [.int x3, .int x2, .int x1, .int x0, .ref a] σ = (match xC1 mX6_ifGlided [.ref a, .int x0, .int x1, .int x2, .int x3] σ with
      | none => none
      | some (.inl v, σ2) => xR mL_ifGlided 9 ls (v.toList ++ []) σ2
      | some (.inr x, σ2) => (match xcat mL_ifGlided 6 x ls with
        | some (pc2, l2) => xR mL_ifGlided pc2 l2 [] σ2
        | none => none)) := y_cT (as := [.ref a, .int x0, .int x1, .int x2, .int x3]) (as2 := [.int x0, .int x1, .int x2, .int x3]) (r := (vwCl[5]?).getD default) xe_L_ifGlided dL_ifGlided_6 cl_8_67 rfl rfl rfl rfl xe_X6_ifGlided ⟨Nat.le_of_ble_eq_true rfl, Nat.le_of_ble_eq_true rfl⟩ (Nat.le_of_ble_eq_true rfl) (Nat.le_of_ble_eq_true rfl) hc
theorem r_L_ifGlided_9 {ls : xL} {σ : xS} {x : Int32} : xR mL_ifGlided 9 ls ([.int x]) σ = some (.inl (some (.int x)), σ) := y_iret xe_L_ifGlided dL_ifGlided_9 rfl
theorem r_L_ifGlided_12 {ls : xL} {st : List Value} {σ : xS}  : xR mL_ifGlided 12 ls (st) σ = xR mL_ifGlided 14 ls (.int (-103) :: st) σ := y_bipush xe_L_ifGlided dL_ifGlided_12 (by decide +kernel)
theorem r_L_ifGlided_14 {ls : xL} {σ : xS} {x : Int32} : xR mL_ifGlided 14 ls ([.int x]) σ = some (.inl (some (.int x)), σ) := y_iret xe_L_ifGlided dL_ifGlided_14 rfl
theorem r_L_ifGlided_17 {ls : xL} {st : List Value} {σ : xS}  : xR mL_ifGlided 17 ls (st) σ = xR mL_ifGlided 19 ls (.int (-102) :: st) σ := y_bipush xe_L_ifGlided dL_ifGlided_17 (by decide +kernel)
theorem r_L_ifGlided_19 {ls : xL} {σ : xS} {x : Int32} : xR mL_ifGlided 19 ls ([.int x]) σ = some (.inl (some (.int x)), σ) := y_iret xe_L_ifGlided dL_ifGlided_19 rfl
theorem r_L_refuses_0 {ls : xL} {st : List Value} {σ : xS}  : xR mL_refuses 0 ls (st) σ = gI (lget ls 1) (fun x => xR mL_refuses 1 ls (.int x :: st) σ) := y_iload_n xe_L_refuses dL_refuses_0
theorem r_L_refuses_1 {ls : xL} {st : List Value} {σ : xS}  : xR mL_refuses 1 ls (st) σ = xR mL_refuses 2 ls (.int (nI 2) :: st) σ := y_iconst xe_L_refuses dL_refuses_1 (by decide +kernel)
theorem r_L_refuses_2 {ls : xL} {st : List Value} {σ : xS} {x y : Int32} : xR mL_refuses 2 ls (.int y :: .int x :: st) σ = if y = 0 then none else xR mL_refuses 3 ls (.int (x - x / y * y) :: st) σ := y_irem xe_L_refuses dL_refuses_2
theorem r_L_refuses_3 {ls : xL} {st : List Value} {σ : xS} {x : Int32} : xR mL_refuses 3 ls (.int x :: st) σ = if ¬ x = 0 then xR mL_refuses 12 ls (st) σ else xR mL_refuses 6 ls (st) σ := y_if_ne xe_L_refuses dL_refuses_3 (by decide)
theorem r_L_refuses_6 {ls : xL} {st : List Value} {σ : xS}  : xR mL_refuses 6 ls (st) σ = xR mL_refuses 7 ls (.int (nI 3) :: st) σ := y_iconst xe_L_refuses dL_refuses_6 (by decide +kernel)
theorem r_L_refuses_7 {ls : xL} {st : List Value} {σ : xS}  : xR mL_refuses 7 ls (st) σ = gI (lget ls 1) (fun x => xR mL_refuses 8 ls (.int x :: st) σ) := y_iload_n xe_L_refuses dL_refuses_7
theorem r_L_refuses_8 {ls : xL} {st : List Value} {σ : xS} {x y : Int32} : xR mL_refuses 8 ls (.int y :: .int x :: st) σ = xR mL_refuses 9 ls (.int (x + y) :: st) σ := y_iadd xe_L_refuses dL_refuses_8
theorem r_L_refuses_9 {ls : xL} {st : List Value} {σ : xS}  : xR mL_refuses 9 ls (st) σ = xR mL_refuses 15 ls (st) σ := y_goto xe_L_refuses dL_refuses_9 (by decide)
theorem r_L_refuses_12 {ls : xL} {st : List Value} {σ : xS}  : xR mL_refuses 12 ls (st) σ = xR mL_refuses 13 ls (.int (-1) :: st) σ := y_iconst xe_L_refuses dL_refuses_12 (by decide +kernel)
theorem r_L_refuses_13 {ls : xL} {st : List Value} {σ : xS}  : xR mL_refuses 13 ls (st) σ = gI (lget ls 1) (fun x => xR mL_refuses 14 ls (.int x :: st) σ) := y_iload_n xe_L_refuses dL_refuses_13
theorem r_L_refuses_14 {ls : xL} {st : List Value} {σ : xS} {x y : Int32} : xR mL_refuses 14 ls (.int y :: .int x :: st) σ = xR mL_refuses 15 ls (.int (x - y) :: st) σ := y_isub xe_L_refuses dL_refuses_14
theorem r_L_refuses_15 {ls : xL} {st : List Value} {σ : xS} {x : Int32} : xR mL_refuses 15 ls (.int x :: st) σ = (lst1 ls 2 (some (.int x))).bind (fun l => xR mL_refuses 16 l (st) σ) := y_istore_n xe_L_refuses dL_refuses_15
theorem r_L_refuses_16 {ls : xL} {st : List Value} {σ : xS}  : xR mL_refuses 16 ls (st) σ = gI (lget ls 1) (fun x => xR mL_refuses 17 ls (.int x :: st) σ) := y_iload_n xe_L_refuses dL_refuses_16
theorem r_L_refuses_17 {ls : xL} {st : List Value} {σ : xS}  : xR mL_refuses 17 ls (st) σ = xR mL_refuses 18 ls (.int (nI 2) :: st) σ := y_iconst xe_L_refuses dL_refuses_17 (by decide +kernel)
theorem r_L_refuses_18 {ls : xL} {st : List Value} {σ : xS} {x y : Int32} : xR mL_refuses 18 ls (.int y :: .int x :: st) σ = if y = 0 then none else xR mL_refuses 19 ls (.int (x - x / y * y) :: st) σ := y_irem xe_L_refuses dL_refuses_18
theorem r_L_refuses_19 {ls : xL} {st : List Value} {σ : xS} {x : Int32} : xR mL_refuses 19 ls (.int x :: st) σ = if ¬ x = 0 then xR mL_refuses 29 ls (st) σ else xR mL_refuses 22 ls (st) σ := y_if_ne xe_L_refuses dL_refuses_19 (by decide)
theorem r_L_refuses_22 {ls : xL} {st : List Value} {σ : xS}  : xR mL_refuses 22 ls (st) σ = xR mL_refuses 24 ls (.int (nI 8) :: st) σ := y_bipush xe_L_refuses dL_refuses_22 (by decide +kernel)
theorem r_L_refuses_24 {ls : xL} {st : List Value} {σ : xS}  : xR mL_refuses 24 ls (st) σ = gI (lget ls 1) (fun x => xR mL_refuses 25 ls (.int x :: st) σ) := y_iload_n xe_L_refuses dL_refuses_24
theorem r_L_refuses_25 {ls : xL} {st : List Value} {σ : xS} {x y : Int32} : xR mL_refuses 25 ls (.int y :: .int x :: st) σ = xR mL_refuses 26 ls (.int (x + y) :: st) σ := y_iadd xe_L_refuses dL_refuses_25
theorem r_L_refuses_26 {ls : xL} {st : List Value} {σ : xS}  : xR mL_refuses 26 ls (st) σ = xR mL_refuses 32 ls (st) σ := y_goto xe_L_refuses dL_refuses_26 (by decide)
theorem r_L_refuses_29 {ls : xL} {st : List Value} {σ : xS}  : xR mL_refuses 29 ls (st) σ = xR mL_refuses 30 ls (.int (-1) :: st) σ := y_iconst xe_L_refuses dL_refuses_29 (by decide +kernel)
theorem r_L_refuses_30 {ls : xL} {st : List Value} {σ : xS}  : xR mL_refuses 30 ls (st) σ = gI (lget ls 1) (fun x => xR mL_refuses 31 ls (.int x :: st) σ) := y_iload_n xe_L_refuses dL_refuses_30
theorem r_L_refuses_31 {ls : xL} {st : List Value} {σ : xS} {x y : Int32} : xR mL_refuses 31 ls (.int y :: .int x :: st) σ = xR mL_refuses 32 ls (.int (x - y) :: st) σ := y_isub xe_L_refuses dL_refuses_31
theorem r_L_refuses_32 {ls : xL} {st : List Value} {σ : xS} {x : Int32} : xR mL_refuses 32 ls (.int x :: st) σ = (lst1 ls 3 (some (.int x))).bind (fun l => xR mL_refuses 33 l (st) σ) := y_istore_n xe_L_refuses dL_refuses_32
theorem r_L_refuses_33 {ls : xL} {st : List Value} {σ : xS}  : xR mL_refuses 33 ls (st) σ = gA (lget ls 0) (fun x => xR mL_refuses 34 ls (.ref x :: st) σ) := y_aload_n xe_L_refuses dL_refuses_33
theorem r_L_refuses_34 {ls : xL} {st : List Value} {σ : xS}  : xR mL_refuses 34 ls (st) σ = gI (lget ls 2) (fun x => xR mL_refuses 35 ls (.int x :: st) σ) := y_iload_n xe_L_refuses dL_refuses_34
theorem r_L_refuses_35 {ls : xL} {st : List Value} {σ : xS}  : xR mL_refuses 35 ls (st) σ = xR mL_refuses 36 ls (.int (nI 0) :: st) σ := y_iconst xe_L_refuses dL_refuses_35 (by decide +kernel)
theorem r_L_refuses_36 {ls : xL} {st : List Value} {σ : xS}  : xR mL_refuses 36 ls (st) σ = xR mL_refuses 37 ls (.int (nI 0) :: st) σ := y_iconst xe_L_refuses dL_refuses_36 (by decide +kernel)
theorem r_L_refuses_37 {ls : xL} {st : List Value} {σ : xS} {x0 : Nat} {x1 : Int32} {x2 : Int32} {x3 : Int32} : xR mL_refuses 37 ls (.int x3 :: .int x2 :: .int x1 :: .ref x0 :: st) σ = yC (xwid st) (xC1 mL_glide [.ref x0, .int x1, .int x2, .int x3] σ) (fun v τ => xR mL_refuses 40 ls (v.toList ++ st) τ) := y_cL (as := [.ref x0, .int x1, .int x2, .int x3]) xe_L_refuses dL_refuses_37 cl_8_104 rfl xe_L_glide ⟨Nat.le_of_ble_eq_true rfl, Nat.le_of_ble_eq_true rfl⟩ (Nat.le_of_ble_eq_true rfl) (by decide)
theorem r_L_refuses_40 {ls : xL} {st : List Value} {σ : xS}  : xR mL_refuses 40 ls (st) σ = xR mL_refuses 42 ls (.int (-3) :: st) σ := y_bipush xe_L_refuses dL_refuses_40 (by decide +kernel)
theorem r_L_refuses_42 {ls : xL} {st : List Value} {σ : xS} {x y : Int32} : xR mL_refuses 42 ls (.int y :: .int x :: st) σ = if ¬ x = y then xR mL_refuses 438 ls (st) σ else xR mL_refuses 45 ls (st) σ := y_icmp_ne xe_L_refuses dL_refuses_42 (by decide)
theorem r_L_refuses_45 {ls : xL} {st : List Value} {σ : xS}  : xR mL_refuses 45 ls (st) σ = gA (lget ls 0) (fun x => xR mL_refuses 46 ls (.ref x :: st) σ) := y_aload_n xe_L_refuses dL_refuses_45
theorem r_L_refuses_46 {ls : xL} {st : List Value} {σ : xS}  : xR mL_refuses 46 ls (st) σ = xR mL_refuses 47 ls (.int (nI 0) :: st) σ := y_iconst xe_L_refuses dL_refuses_46 (by decide +kernel)
theorem r_L_refuses_47 {ls : xL} {st : List Value} {σ : xS}  : xR mL_refuses 47 ls (st) σ = xR mL_refuses 48 ls (.int (nI 4) :: st) σ := y_iconst xe_L_refuses dL_refuses_47 (by decide +kernel)
theorem r_L_refuses_48 {ls : xL} {st : List Value} {σ : xS}  : xR mL_refuses 48 ls (st) σ = gI (lget ls 1) (fun x => xR mL_refuses 49 ls (.int x :: st) σ) := y_iload_n xe_L_refuses dL_refuses_48
theorem r_L_refuses_49 {ls : xL} {st : List Value} {σ : xS} {x y : Int32} : xR mL_refuses 49 ls (.int y :: .int x :: st) σ = xR mL_refuses 50 ls (.int (x + y) :: st) σ := y_iadd xe_L_refuses dL_refuses_49
theorem r_L_refuses_50 {ls : xL} {st : List Value} {σ : xS}  : xR mL_refuses 50 ls (st) σ = xR mL_refuses 51 ls (.int (nI 1) :: st) σ := y_iconst xe_L_refuses dL_refuses_50 (by decide +kernel)
theorem r_L_refuses_51 {ls : xL} {st : List Value} {σ : xS} {x0 : Nat} {x1 : Int32} {x2 : Int32} {x3 : Int32} : xR mL_refuses 51 ls (.int x3 :: .int x2 :: .int x1 :: .ref x0 :: st) σ = yC (xwid st) (xC1 mL_glide [.ref x0, .int x1, .int x2, .int x3] σ) (fun v τ => xR mL_refuses 54 ls (v.toList ++ st) τ) := y_cL (as := [.ref x0, .int x1, .int x2, .int x3]) xe_L_refuses dL_refuses_51 cl_8_104 rfl xe_L_glide ⟨Nat.le_of_ble_eq_true rfl, Nat.le_of_ble_eq_true rfl⟩ (Nat.le_of_ble_eq_true rfl) (by decide)
theorem r_L_refuses_54 {ls : xL} {st : List Value} {σ : xS}  : xR mL_refuses 54 ls (st) σ = xR mL_refuses 56 ls (.int (-2) :: st) σ := y_bipush xe_L_refuses dL_refuses_54 (by decide +kernel)
theorem r_L_refuses_56 {ls : xL} {st : List Value} {σ : xS} {x y : Int32} : xR mL_refuses 56 ls (.int y :: .int x :: st) σ = if ¬ x = y then xR mL_refuses 438 ls (st) σ else xR mL_refuses 59 ls (st) σ := y_icmp_ne xe_L_refuses dL_refuses_56 (by decide)
theorem r_L_refuses_59 {ls : xL} {st : List Value} {σ : xS}  : xR mL_refuses 59 ls (st) σ = gA (lget ls 0) (fun x => xR mL_refuses 60 ls (.ref x :: st) σ) := y_aload_n xe_L_refuses dL_refuses_59
theorem r_L_refuses_60 {ls : xL} {st : List Value} {σ : xS}  : xR mL_refuses 60 ls (st) σ = xR mL_refuses 61 ls (.int (nI 0) :: st) σ := y_iconst xe_L_refuses dL_refuses_60 (by decide +kernel)
theorem r_L_refuses_61 {ls : xL} {st : List Value} {σ : xS}  : xR mL_refuses 61 ls (st) σ = xR mL_refuses 62 ls (.int (nI 0) :: st) σ := y_iconst xe_L_refuses dL_refuses_61 (by decide +kernel)
theorem r_L_refuses_62 {ls : xL} {st : List Value} {σ : xS}  : xR mL_refuses 62 ls (st) σ = xR mL_refuses 64 ls (.int (nI 9) :: st) σ := y_bipush xe_L_refuses dL_refuses_62 (by decide +kernel)
theorem r_L_refuses_64 {ls : xL} {st : List Value} {σ : xS}  : xR mL_refuses 64 ls (st) σ = gI (lget ls 1) (fun x => xR mL_refuses 65 ls (.int x :: st) σ) := y_iload_n xe_L_refuses dL_refuses_64
theorem r_L_refuses_65 {ls : xL} {st : List Value} {σ : xS} {x y : Int32} : xR mL_refuses 65 ls (.int y :: .int x :: st) σ = xR mL_refuses 66 ls (.int (x + y) :: st) σ := y_iadd xe_L_refuses dL_refuses_65
theorem r_L_refuses_66 {ls : xL} {st : List Value} {σ : xS} {x0 : Nat} {x1 : Int32} {x2 : Int32} {x3 : Int32} : xR mL_refuses 66 ls (.int x3 :: .int x2 :: .int x1 :: .ref x0 :: st) σ = yC (xwid st) (xC1 mL_glide [.ref x0, .int x1, .int x2, .int x3] σ) (fun v τ => xR mL_refuses 69 ls (v.toList ++ st) τ) := y_cL (as := [.ref x0, .int x1, .int x2, .int x3]) xe_L_refuses dL_refuses_66 cl_8_104 rfl xe_L_glide ⟨Nat.le_of_ble_eq_true rfl, Nat.le_of_ble_eq_true rfl⟩ (Nat.le_of_ble_eq_true rfl) (by decide)
theorem r_L_refuses_69 {ls : xL} {st : List Value} {σ : xS}  : xR mL_refuses 69 ls (st) σ = xR mL_refuses 71 ls (.int (-2) :: st) σ := y_bipush xe_L_refuses dL_refuses_69 (by decide +kernel)
theorem r_L_refuses_71 {ls : xL} {st : List Value} {σ : xS} {x y : Int32} : xR mL_refuses 71 ls (.int y :: .int x :: st) σ = if ¬ x = y then xR mL_refuses 438 ls (st) σ else xR mL_refuses 74 ls (st) σ := y_icmp_ne xe_L_refuses dL_refuses_71 (by decide)
theorem r_L_refuses_74 {ls : xL} {st : List Value} {σ : xS}  : xR mL_refuses 74 ls (st) σ = gA (lget ls 0) (fun x => xR mL_refuses 75 ls (.ref x :: st) σ) := y_aload_n xe_L_refuses dL_refuses_74
theorem r_L_refuses_75 {ls : xL} {st : List Value} {σ : xS}  : xR mL_refuses 75 ls (st) σ = gI (lget ls 3) (fun x => xR mL_refuses 76 ls (.int x :: st) σ) := y_iload_n xe_L_refuses dL_refuses_75
theorem r_L_refuses_76 {ls : xL} {st : List Value} {σ : xS}  : xR mL_refuses 76 ls (st) σ = xR mL_refuses 77 ls (.int (nI 0) :: st) σ := y_iconst xe_L_refuses dL_refuses_76 (by decide +kernel)
theorem r_L_refuses_77 {ls : xL} {st : List Value} {σ : xS} {x0 : Nat} {x1 : Int32} {x2 : Int32} : xR mL_refuses 77 ls (.int x2 :: .int x1 :: .ref x0 :: st) σ = yC (xwid st) (xC1 mL_hole [.ref x0, .int x1, .int x2] σ) (fun v τ => xR mL_refuses 80 ls (v.toList ++ st) τ) := y_cL (as := [.ref x0, .int x1, .int x2]) xe_L_refuses dL_refuses_77 cl_8_76 rfl xe_L_hole ⟨Nat.le_of_ble_eq_true rfl, Nat.le_of_ble_eq_true rfl⟩ (Nat.le_of_ble_eq_true rfl) (by decide)
theorem r_L_refuses_80 {ls : xL} {st : List Value} {σ : xS}  : xR mL_refuses 80 ls (st) σ = xR mL_refuses 82 ls (.int (-3) :: st) σ := y_bipush xe_L_refuses dL_refuses_80 (by decide +kernel)
theorem r_L_refuses_82 {ls : xL} {st : List Value} {σ : xS} {x y : Int32} : xR mL_refuses 82 ls (.int y :: .int x :: st) σ = if ¬ x = y then xR mL_refuses 438 ls (st) σ else xR mL_refuses 85 ls (st) σ := y_icmp_ne xe_L_refuses dL_refuses_82 (by decide)
theorem r_L_refuses_85 {ls : xL} {st : List Value} {σ : xS}  : xR mL_refuses 85 ls (st) σ = gA (lget ls 0) (fun x => xR mL_refuses 86 ls (.ref x :: st) σ) := y_aload_n xe_L_refuses dL_refuses_85
theorem r_L_refuses_86 {ls : xL} {st : List Value} {σ : xS}  : xR mL_refuses 86 ls (st) σ = xR mL_refuses 87 ls (.int (nI 0) :: st) σ := y_iconst xe_L_refuses dL_refuses_86 (by decide +kernel)
theorem r_L_refuses_87 {ls : xL} {st : List Value} {σ : xS}  : xR mL_refuses 87 ls (st) σ = gI (lget ls 3) (fun x => xR mL_refuses 88 ls (.int x :: st) σ) := y_iload_n xe_L_refuses dL_refuses_87
theorem r_L_refuses_88 {ls : xL} {st : List Value} {σ : xS} {x0 : Nat} {x1 : Int32} {x2 : Int32} : xR mL_refuses 88 ls (.int x2 :: .int x1 :: .ref x0 :: st) σ = yC (xwid st) (xC1 mL_hole [.ref x0, .int x1, .int x2] σ) (fun v τ => xR mL_refuses 91 ls (v.toList ++ st) τ) := y_cL (as := [.ref x0, .int x1, .int x2]) xe_L_refuses dL_refuses_88 cl_8_76 rfl xe_L_hole ⟨Nat.le_of_ble_eq_true rfl, Nat.le_of_ble_eq_true rfl⟩ (Nat.le_of_ble_eq_true rfl) (by decide)
theorem r_L_refuses_91 {ls : xL} {st : List Value} {σ : xS}  : xR mL_refuses 91 ls (st) σ = xR mL_refuses 93 ls (.int (-3) :: st) σ := y_bipush xe_L_refuses dL_refuses_91 (by decide +kernel)
theorem r_L_refuses_93 {ls : xL} {st : List Value} {σ : xS} {x y : Int32} : xR mL_refuses 93 ls (.int y :: .int x :: st) σ = if ¬ x = y then xR mL_refuses 438 ls (st) σ else xR mL_refuses 96 ls (st) σ := y_icmp_ne xe_L_refuses dL_refuses_93 (by decide)
theorem r_L_refuses_96 {ls : xL} {st : List Value} {σ : xS}  : xR mL_refuses 96 ls (st) σ = gA (lget ls 0) (fun x => xR mL_refuses 97 ls (.ref x :: st) σ) := y_aload_n xe_L_refuses dL_refuses_96
theorem r_L_refuses_97 {ls : xL} {st : List Value} {σ : xS}  : xR mL_refuses 97 ls (st) σ = gI (lget ls 2) (fun x => xR mL_refuses 98 ls (.int x :: st) σ) := y_iload_n xe_L_refuses dL_refuses_97
theorem r_L_refuses_98 {ls : xL} {st : List Value} {σ : xS}  : xR mL_refuses 98 ls (st) σ = xR mL_refuses 99 ls (.int (nI 0) :: st) σ := y_iconst xe_L_refuses dL_refuses_98 (by decide +kernel)
theorem r_L_refuses_99 {ls : xL} {st : List Value} {σ : xS} {x0 : Nat} {x1 : Int32} {x2 : Int32} : xR mL_refuses 99 ls (.int x2 :: .int x1 :: .ref x0 :: st) σ = yC (xwid st) (xC1 mL_pay [.ref x0, .int x1, .int x2] σ) (fun v τ => xR mL_refuses 102 ls (v.toList ++ st) τ) := y_cL (as := [.ref x0, .int x1, .int x2]) xe_L_refuses dL_refuses_99 cl_8_81 rfl xe_L_pay ⟨Nat.le_of_ble_eq_true rfl, Nat.le_of_ble_eq_true rfl⟩ (Nat.le_of_ble_eq_true rfl) (by decide)
theorem r_L_refuses_102 {ls : xL} {st : List Value} {σ : xS}  : xR mL_refuses 102 ls (st) σ = xR mL_refuses 104 ls (.int (-3) :: st) σ := y_bipush xe_L_refuses dL_refuses_102 (by decide +kernel)
theorem r_L_refuses_104 {ls : xL} {st : List Value} {σ : xS} {x y : Int32} : xR mL_refuses 104 ls (.int y :: .int x :: st) σ = if ¬ x = y then xR mL_refuses 438 ls (st) σ else xR mL_refuses 107 ls (st) σ := y_icmp_ne xe_L_refuses dL_refuses_104 (by decide)
theorem r_L_refuses_107 {ls : xL} {st : List Value} {σ : xS}  : xR mL_refuses 107 ls (st) σ = gA (lget ls 0) (fun x => xR mL_refuses 108 ls (.ref x :: st) σ) := y_aload_n xe_L_refuses dL_refuses_107
theorem r_L_refuses_108 {ls : xL} {st : List Value} {σ : xS}  : xR mL_refuses 108 ls (st) σ = xR mL_refuses 109 ls (.int (nI 0) :: st) σ := y_iconst xe_L_refuses dL_refuses_108 (by decide +kernel)
theorem r_L_refuses_109 {ls : xL} {st : List Value} {σ : xS}  : xR mL_refuses 109 ls (st) σ = xR mL_refuses 111 ls (.int (nI 100) :: st) σ := y_bipush xe_L_refuses dL_refuses_109 (by decide +kernel)
theorem r_L_refuses_111 {ls : xL} {st : List Value} {σ : xS}  : xR mL_refuses 111 ls (st) σ = gI (lget ls 1) (fun x => xR mL_refuses 112 ls (.int x :: st) σ) := y_iload_n xe_L_refuses dL_refuses_111
theorem r_L_refuses_112 {ls : xL} {st : List Value} {σ : xS} {x y : Int32} : xR mL_refuses 112 ls (.int y :: .int x :: st) σ = xR mL_refuses 113 ls (.int (x + y) :: st) σ := y_iadd xe_L_refuses dL_refuses_112
theorem r_L_refuses_113 {ls : xL} {st : List Value} {σ : xS} {x0 : Nat} {x1 : Int32} {x2 : Int32} : xR mL_refuses 113 ls (.int x2 :: .int x1 :: .ref x0 :: st) σ = yC (xwid st) (xC1 mL_pay [.ref x0, .int x1, .int x2] σ) (fun v τ => xR mL_refuses 116 ls (v.toList ++ st) τ) := y_cL (as := [.ref x0, .int x1, .int x2]) xe_L_refuses dL_refuses_113 cl_8_81 rfl xe_L_pay ⟨Nat.le_of_ble_eq_true rfl, Nat.le_of_ble_eq_true rfl⟩ (Nat.le_of_ble_eq_true rfl) (by decide)
theorem r_L_refuses_116 {ls : xL} {st : List Value} {σ : xS}  : xR mL_refuses 116 ls (st) σ = xR mL_refuses 118 ls (.int (-2) :: st) σ := y_bipush xe_L_refuses dL_refuses_116 (by decide +kernel)
theorem r_L_refuses_118 {ls : xL} {st : List Value} {σ : xS} {x y : Int32} : xR mL_refuses 118 ls (.int y :: .int x :: st) σ = if ¬ x = y then xR mL_refuses 438 ls (st) σ else xR mL_refuses 121 ls (st) σ := y_icmp_ne xe_L_refuses dL_refuses_118 (by decide)
theorem r_L_refuses_121 {ls : xL} {st : List Value} {σ : xS}  : xR mL_refuses 121 ls (st) σ = gA (lget ls 0) (fun x => xR mL_refuses 122 ls (.ref x :: st) σ) := y_aload_n xe_L_refuses dL_refuses_121
theorem r_L_refuses_122 {ls : xL} {st : List Value} {σ : xS}  : xR mL_refuses 122 ls (st) σ = gI (lget ls 2) (fun x => xR mL_refuses 123 ls (.int x :: st) σ) := y_iload_n xe_L_refuses dL_refuses_122
theorem r_L_refuses_123 {ls : xL} {st : List Value} {σ : xS}  : xR mL_refuses 123 ls (st) σ = xR mL_refuses 124 ls (.int (nI 0) :: st) σ := y_iconst xe_L_refuses dL_refuses_123 (by decide +kernel)
theorem r_L_refuses_124 {ls : xL} {st : List Value} {σ : xS} {x0 : Nat} {x1 : Int32} {x2 : Int32} : xR mL_refuses 124 ls (.int x2 :: .int x1 :: .ref x0 :: st) σ = yC (xwid st) (xC1 mL_set [.ref x0, .int x1, .int x2] σ) (fun v τ => xR mL_refuses 127 ls (v.toList ++ st) τ) := y_cL (as := [.ref x0, .int x1, .int x2]) xe_L_refuses dL_refuses_124 cl_8_83 rfl xe_L_set ⟨Nat.le_of_ble_eq_true rfl, Nat.le_of_ble_eq_true rfl⟩ (Nat.le_of_ble_eq_true rfl) (by decide)
theorem r_L_refuses_127 {ls : xL} {st : List Value} {σ : xS}  : xR mL_refuses 127 ls (st) σ = xR mL_refuses 129 ls (.int (-3) :: st) σ := y_bipush xe_L_refuses dL_refuses_127 (by decide +kernel)
theorem r_L_refuses_129 {ls : xL} {st : List Value} {σ : xS} {x y : Int32} : xR mL_refuses 129 ls (.int y :: .int x :: st) σ = if ¬ x = y then xR mL_refuses 438 ls (st) σ else xR mL_refuses 132 ls (st) σ := y_icmp_ne xe_L_refuses dL_refuses_129 (by decide)
theorem r_L_refuses_132 {ls : xL} {st : List Value} {σ : xS}  : xR mL_refuses 132 ls (st) σ = gA (lget ls 0) (fun x => xR mL_refuses 133 ls (.ref x :: st) σ) := y_aload_n xe_L_refuses dL_refuses_132
theorem r_L_refuses_133 {ls : xL} {st : List Value} {σ : xS}  : xR mL_refuses 133 ls (st) σ = xR mL_refuses 134 ls (.int (nI 0) :: st) σ := y_iconst xe_L_refuses dL_refuses_133 (by decide +kernel)
theorem r_L_refuses_134 {ls : xL} {st : List Value} {σ : xS}  : xR mL_refuses 134 ls (st) σ = xR mL_refuses 136 ls (.int (nI 10) :: st) σ := y_bipush xe_L_refuses dL_refuses_134 (by decide +kernel)
theorem r_L_refuses_136 {ls : xL} {st : List Value} {σ : xS}  : xR mL_refuses 136 ls (st) σ = gI (lget ls 1) (fun x => xR mL_refuses 137 ls (.int x :: st) σ) := y_iload_n xe_L_refuses dL_refuses_136
theorem r_L_refuses_137 {ls : xL} {st : List Value} {σ : xS} {x y : Int32} : xR mL_refuses 137 ls (.int y :: .int x :: st) σ = xR mL_refuses 138 ls (.int (x + y) :: st) σ := y_iadd xe_L_refuses dL_refuses_137
theorem r_L_refuses_138 {ls : xL} {st : List Value} {σ : xS} {x0 : Nat} {x1 : Int32} {x2 : Int32} : xR mL_refuses 138 ls (.int x2 :: .int x1 :: .ref x0 :: st) σ = yC (xwid st) (xC1 mL_set [.ref x0, .int x1, .int x2] σ) (fun v τ => xR mL_refuses 141 ls (v.toList ++ st) τ) := y_cL (as := [.ref x0, .int x1, .int x2]) xe_L_refuses dL_refuses_138 cl_8_83 rfl xe_L_set ⟨Nat.le_of_ble_eq_true rfl, Nat.le_of_ble_eq_true rfl⟩ (Nat.le_of_ble_eq_true rfl) (by decide)
theorem r_L_refuses_141 {ls : xL} {st : List Value} {σ : xS}  : xR mL_refuses 141 ls (st) σ = xR mL_refuses 143 ls (.int (-2) :: st) σ := y_bipush xe_L_refuses dL_refuses_141 (by decide +kernel)
theorem r_L_refuses_143 {ls : xL} {st : List Value} {σ : xS} {x y : Int32} : xR mL_refuses 143 ls (.int y :: .int x :: st) σ = if ¬ x = y then xR mL_refuses 438 ls (st) σ else xR mL_refuses 146 ls (st) σ := y_icmp_ne xe_L_refuses dL_refuses_143 (by decide)
theorem r_L_refuses_146 {ls : xL} {st : List Value} {σ : xS}  : xR mL_refuses 146 ls (st) σ = gA (lget ls 0) (fun x => xR mL_refuses 147 ls (.ref x :: st) σ) := y_aload_n xe_L_refuses dL_refuses_146
theorem r_L_refuses_147 {ls : xL} {st : List Value} {σ : xS}  : xR mL_refuses 147 ls (st) σ = xR mL_refuses 148 ls (.int (nI 1) :: st) σ := y_iconst xe_L_refuses dL_refuses_147 (by decide +kernel)
theorem r_L_refuses_148 {ls : xL} {st : List Value} {σ : xS}  : xR mL_refuses 148 ls (st) σ = xR mL_refuses 149 ls (.int (nI 0) :: st) σ := y_iconst xe_L_refuses dL_refuses_148 (by decide +kernel)
theorem r_L_refuses_149 {ls : xL} {st : List Value} {σ : xS} {x0 : Nat} {x1 : Int32} {x2 : Int32} : xR mL_refuses 149 ls (.int x2 :: .int x1 :: .ref x0 :: st) σ = yC (xwid st) (xC1 mL_set [.ref x0, .int x1, .int x2] σ) (fun v τ => xR mL_refuses 152 ls (v.toList ++ st) τ) := y_cL (as := [.ref x0, .int x1, .int x2]) xe_L_refuses dL_refuses_149 cl_8_83 rfl xe_L_set ⟨Nat.le_of_ble_eq_true rfl, Nat.le_of_ble_eq_true rfl⟩ (Nat.le_of_ble_eq_true rfl) (by decide)
theorem r_L_refuses_152 {ls : xL} {st : List Value} {σ : xS}  : xR mL_refuses 152 ls (st) σ = xR mL_refuses 154 ls (.int (-2) :: st) σ := y_bipush xe_L_refuses dL_refuses_152 (by decide +kernel)
theorem r_L_refuses_154 {ls : xL} {st : List Value} {σ : xS} {x y : Int32} : xR mL_refuses 154 ls (.int y :: .int x :: st) σ = if ¬ x = y then xR mL_refuses 438 ls (st) σ else xR mL_refuses 157 ls (st) σ := y_icmp_ne xe_L_refuses dL_refuses_154 (by decide)
theorem r_L_refuses_157 {ls : xL} {st : List Value} {σ : xS}  : xR mL_refuses 157 ls (st) σ = gA (lget ls 0) (fun x => xR mL_refuses 158 ls (.ref x :: st) σ) := y_aload_n xe_L_refuses dL_refuses_157
theorem r_L_refuses_158 {ls : xL} {st : List Value} {σ : xS}  : xR mL_refuses 158 ls (st) σ = xR mL_refuses 159 ls (.int (nI 2) :: st) σ := y_iconst xe_L_refuses dL_refuses_158 (by decide +kernel)
theorem r_L_refuses_159 {ls : xL} {st : List Value} {σ : xS}  : xR mL_refuses 159 ls (st) σ = xR mL_refuses 160 ls (.int (nI 5) :: st) σ := y_iconst xe_L_refuses dL_refuses_159 (by decide +kernel)
theorem r_L_refuses_160 {ls : xL} {st : List Value} {σ : xS}  : xR mL_refuses 160 ls (st) σ = gI (lget ls 1) (fun x => xR mL_refuses 161 ls (.int x :: st) σ) := y_iload_n xe_L_refuses dL_refuses_160
theorem r_L_refuses_161 {ls : xL} {st : List Value} {σ : xS} {x y : Int32} : xR mL_refuses 161 ls (.int y :: .int x :: st) σ = xR mL_refuses 162 ls (.int (x + y) :: st) σ := y_iadd xe_L_refuses dL_refuses_161
theorem r_L_refuses_162 {ls : xL} {st : List Value} {σ : xS} {x0 : Nat} {x1 : Int32} {x2 : Int32} : xR mL_refuses 162 ls (.int x2 :: .int x1 :: .ref x0 :: st) σ = yC (xwid st) (xC1 mL_set [.ref x0, .int x1, .int x2] σ) (fun v τ => xR mL_refuses 165 ls (v.toList ++ st) τ) := y_cL (as := [.ref x0, .int x1, .int x2]) xe_L_refuses dL_refuses_162 cl_8_83 rfl xe_L_set ⟨Nat.le_of_ble_eq_true rfl, Nat.le_of_ble_eq_true rfl⟩ (Nat.le_of_ble_eq_true rfl) (by decide)
theorem r_L_refuses_165 {ls : xL} {st : List Value} {σ : xS}  : xR mL_refuses 165 ls (st) σ = xR mL_refuses 167 ls (.int (-2) :: st) σ := y_bipush xe_L_refuses dL_refuses_165 (by decide +kernel)
theorem r_L_refuses_167 {ls : xL} {st : List Value} {σ : xS} {x y : Int32} : xR mL_refuses 167 ls (.int y :: .int x :: st) σ = if ¬ x = y then xR mL_refuses 438 ls (st) σ else xR mL_refuses 170 ls (st) σ := y_icmp_ne xe_L_refuses dL_refuses_167 (by decide)
theorem r_L_refuses_170 {ls : xL} {st : List Value} {σ : xS}  : xR mL_refuses 170 ls (st) σ = gA (lget ls 0) (fun x => xR mL_refuses 171 ls (.ref x :: st) σ) := y_aload_n xe_L_refuses dL_refuses_170
theorem r_L_refuses_171 {ls : xL} {st : List Value} {σ : xS}  : xR mL_refuses 171 ls (st) σ = gI (lget ls 3) (fun x => xR mL_refuses 172 ls (.int x :: st) σ) := y_iload_n xe_L_refuses dL_refuses_171
theorem r_L_refuses_172 {ls : xL} {st : List Value} {σ : xS}  : xR mL_refuses 172 ls (st) σ = xR mL_refuses 173 ls (.int (nI 0) :: st) σ := y_iconst xe_L_refuses dL_refuses_172 (by decide +kernel)
theorem r_L_refuses_173 {ls : xL} {st : List Value} {σ : xS}  : xR mL_refuses 173 ls (st) σ = xR mL_refuses 174 ls (.int (nI 0) :: st) σ := y_iconst xe_L_refuses dL_refuses_173 (by decide +kernel)
theorem r_L_refuses_174 {ls : xL} {st : List Value} {σ : xS} {x0 : Nat} {x1 : Int32} {x2 : Int32} {x3 : Int32} : xR mL_refuses 174 ls (.int x3 :: .int x2 :: .int x1 :: .ref x0 :: st) σ = yC (xwid st) (xC1 mL_pond [.ref x0, .int x1, .int x2, .int x3] σ) (fun v τ => xR mL_refuses 177 ls (v.toList ++ st) τ) := y_cL (as := [.ref x0, .int x1, .int x2, .int x3]) xe_L_refuses dL_refuses_174 cl_8_107 rfl xe_L_pond ⟨Nat.le_of_ble_eq_true rfl, Nat.le_of_ble_eq_true rfl⟩ (Nat.le_of_ble_eq_true rfl) (by decide)
theorem r_L_refuses_177 {ls : xL} {st : List Value} {σ : xS}  : xR mL_refuses 177 ls (st) σ = xR mL_refuses 179 ls (.int (-3) :: st) σ := y_bipush xe_L_refuses dL_refuses_177 (by decide +kernel)
theorem r_L_refuses_179 {ls : xL} {st : List Value} {σ : xS} {x y : Int32} : xR mL_refuses 179 ls (.int y :: .int x :: st) σ = if ¬ x = y then xR mL_refuses 438 ls (st) σ else xR mL_refuses 182 ls (st) σ := y_icmp_ne xe_L_refuses dL_refuses_179 (by decide)
theorem r_L_refuses_182 {ls : xL} {st : List Value} {σ : xS}  : xR mL_refuses 182 ls (st) σ = gA (lget ls 0) (fun x => xR mL_refuses 183 ls (.ref x :: st) σ) := y_aload_n xe_L_refuses dL_refuses_182
theorem r_L_refuses_183 {ls : xL} {st : List Value} {σ : xS}  : xR mL_refuses 183 ls (st) σ = xR mL_refuses 184 ls (.int (nI 0) :: st) σ := y_iconst xe_L_refuses dL_refuses_183 (by decide +kernel)
theorem r_L_refuses_184 {ls : xL} {st : List Value} {σ : xS}  : xR mL_refuses 184 ls (st) σ = xR mL_refuses 185 ls (.int (nI 0) :: st) σ := y_iconst xe_L_refuses dL_refuses_184 (by decide +kernel)
theorem r_L_refuses_185 {ls : xL} {st : List Value} {σ : xS}  : xR mL_refuses 185 ls (st) σ = xR mL_refuses 187 ls (.int (nI 6) :: st) σ := y_bipush xe_L_refuses dL_refuses_185 (by decide +kernel)
theorem r_L_refuses_187 {ls : xL} {st : List Value} {σ : xS}  : xR mL_refuses 187 ls (st) σ = gI (lget ls 1) (fun x => xR mL_refuses 188 ls (.int x :: st) σ) := y_iload_n xe_L_refuses dL_refuses_187
theorem r_L_refuses_188 {ls : xL} {st : List Value} {σ : xS} {x y : Int32} : xR mL_refuses 188 ls (.int y :: .int x :: st) σ = xR mL_refuses 189 ls (.int (x + y) :: st) σ := y_iadd xe_L_refuses dL_refuses_188
theorem r_L_refuses_189 {ls : xL} {st : List Value} {σ : xS} {x0 : Nat} {x1 : Int32} {x2 : Int32} {x3 : Int32} : xR mL_refuses 189 ls (.int x3 :: .int x2 :: .int x1 :: .ref x0 :: st) σ = yC (xwid st) (xC1 mL_pond [.ref x0, .int x1, .int x2, .int x3] σ) (fun v τ => xR mL_refuses 192 ls (v.toList ++ st) τ) := y_cL (as := [.ref x0, .int x1, .int x2, .int x3]) xe_L_refuses dL_refuses_189 cl_8_107 rfl xe_L_pond ⟨Nat.le_of_ble_eq_true rfl, Nat.le_of_ble_eq_true rfl⟩ (Nat.le_of_ble_eq_true rfl) (by decide)
theorem r_L_refuses_192 {ls : xL} {st : List Value} {σ : xS}  : xR mL_refuses 192 ls (st) σ = xR mL_refuses 194 ls (.int (-2) :: st) σ := y_bipush xe_L_refuses dL_refuses_192 (by decide +kernel)
theorem r_L_refuses_194 {ls : xL} {st : List Value} {σ : xS} {x y : Int32} : xR mL_refuses 194 ls (.int y :: .int x :: st) σ = if ¬ x = y then xR mL_refuses 438 ls (st) σ else xR mL_refuses 197 ls (st) σ := y_icmp_ne xe_L_refuses dL_refuses_194 (by decide)
theorem r_L_refuses_197 {ls : xL} {st : List Value} {σ : xS}  : xR mL_refuses 197 ls (st) σ = gA (lget ls 0) (fun x => xR mL_refuses 198 ls (.ref x :: st) σ) := y_aload_n xe_L_refuses dL_refuses_197
theorem r_L_refuses_198 {ls : xL} {st : List Value} {σ : xS}  : xR mL_refuses 198 ls (st) σ = xR mL_refuses 200 ls (.int (nI 9) :: st) σ := y_bipush xe_L_refuses dL_refuses_198 (by decide +kernel)
theorem r_L_refuses_200 {ls : xL} {st : List Value} {σ : xS}  : xR mL_refuses 200 ls (st) σ = gI (lget ls 1) (fun x => xR mL_refuses 201 ls (.int x :: st) σ) := y_iload_n xe_L_refuses dL_refuses_200
theorem r_L_refuses_201 {ls : xL} {st : List Value} {σ : xS} {x y : Int32} : xR mL_refuses 201 ls (.int y :: .int x :: st) σ = xR mL_refuses 202 ls (.int (x + y) :: st) σ := y_iadd xe_L_refuses dL_refuses_201
theorem r_L_refuses_202 {ls : xL} {st : List Value} {σ : xS}  : xR mL_refuses 202 ls (st) σ = xR mL_refuses 203 ls (.int (nI 0) :: st) σ := y_iconst xe_L_refuses dL_refuses_202 (by decide +kernel)
theorem r_L_refuses_203 {ls : xL} {st : List Value} {σ : xS}  : xR mL_refuses 203 ls (st) σ = xR mL_refuses 204 ls (.int (nI 2) :: st) σ := y_iconst xe_L_refuses dL_refuses_203 (by decide +kernel)
theorem r_L_refuses_204 {ls : xL} {st : List Value} {σ : xS}  : xR mL_refuses 204 ls (st) σ = xR mL_refuses 205 ls (.int (nI 0) :: st) σ := y_iconst xe_L_refuses dL_refuses_204 (by decide +kernel)
theorem r_L_refuses_205 {ls : xL} {st : List Value} {σ : xS} {x0 : Nat} {x1 : Int32} {x2 : Int32} {x3 : Int32} {x4 : Int32} : xR mL_refuses 205 ls (.int x4 :: .int x3 :: .int x2 :: .int x1 :: .ref x0 :: st) σ = yC (xwid st) (xC1 mL_line [.ref x0, .int x1, .int x2, .int x3, .int x4] σ) (fun v τ => xR mL_refuses 208 ls (v.toList ++ st) τ) := y_cL (as := [.ref x0, .int x1, .int x2, .int x3, .int x4]) xe_L_refuses dL_refuses_205 cl_8_110 rfl xe_L_line ⟨Nat.le_of_ble_eq_true rfl, Nat.le_of_ble_eq_true rfl⟩ (Nat.le_of_ble_eq_true rfl) (by decide)
theorem r_L_refuses_208 {ls : xL} {st : List Value} {σ : xS}  : xR mL_refuses 208 ls (st) σ = xR mL_refuses 210 ls (.int (-3) :: st) σ := y_bipush xe_L_refuses dL_refuses_208 (by decide +kernel)
theorem r_L_refuses_210 {ls : xL} {st : List Value} {σ : xS} {x y : Int32} : xR mL_refuses 210 ls (.int y :: .int x :: st) σ = if ¬ x = y then xR mL_refuses 438 ls (st) σ else xR mL_refuses 213 ls (st) σ := y_icmp_ne xe_L_refuses dL_refuses_210 (by decide)
theorem r_L_refuses_213 {ls : xL} {st : List Value} {σ : xS}  : xR mL_refuses 213 ls (st) σ = gA (lget ls 0) (fun x => xR mL_refuses 214 ls (.ref x :: st) σ) := y_aload_n xe_L_refuses dL_refuses_213
theorem r_L_refuses_214 {ls : xL} {st : List Value} {σ : xS}  : xR mL_refuses 214 ls (st) σ = xR mL_refuses 216 ls (.int (nI 8) :: st) σ := y_bipush xe_L_refuses dL_refuses_214 (by decide +kernel)
theorem r_L_refuses_216 {ls : xL} {st : List Value} {σ : xS}  : xR mL_refuses 216 ls (st) σ = xR mL_refuses 217 ls (.int (nI 0) :: st) σ := y_iconst xe_L_refuses dL_refuses_216 (by decide +kernel)
theorem r_L_refuses_217 {ls : xL} {st : List Value} {σ : xS}  : xR mL_refuses 217 ls (st) σ = xR mL_refuses 218 ls (.int (nI 1) :: st) σ := y_iconst xe_L_refuses dL_refuses_217 (by decide +kernel)
theorem r_L_refuses_218 {ls : xL} {st : List Value} {σ : xS}  : xR mL_refuses 218 ls (st) σ = xR mL_refuses 220 ls (.int (nI 9) :: st) σ := y_bipush xe_L_refuses dL_refuses_218 (by decide +kernel)
theorem r_L_refuses_220 {ls : xL} {st : List Value} {σ : xS} {x0 : Nat} {x1 : Int32} {x2 : Int32} {x3 : Int32} {x4 : Int32} : xR mL_refuses 220 ls (.int x4 :: .int x3 :: .int x2 :: .int x1 :: .ref x0 :: st) σ = yC (xwid st) (xC1 mL_line [.ref x0, .int x1, .int x2, .int x3, .int x4] σ) (fun v τ => xR mL_refuses 223 ls (v.toList ++ st) τ) := y_cL (as := [.ref x0, .int x1, .int x2, .int x3, .int x4]) xe_L_refuses dL_refuses_220 cl_8_110 rfl xe_L_line ⟨Nat.le_of_ble_eq_true rfl, Nat.le_of_ble_eq_true rfl⟩ (Nat.le_of_ble_eq_true rfl) (by decide)
theorem r_L_refuses_223 {ls : xL} {st : List Value} {σ : xS}  : xR mL_refuses 223 ls (st) σ = xR mL_refuses 225 ls (.int (-3) :: st) σ := y_bipush xe_L_refuses dL_refuses_223 (by decide +kernel)
theorem r_L_refuses_225 {ls : xL} {st : List Value} {σ : xS} {x y : Int32} : xR mL_refuses 225 ls (.int y :: .int x :: st) σ = if ¬ x = y then xR mL_refuses 438 ls (st) σ else xR mL_refuses 228 ls (st) σ := y_icmp_ne xe_L_refuses dL_refuses_225 (by decide)
theorem r_L_refuses_228 {ls : xL} {st : List Value} {σ : xS}  : xR mL_refuses 228 ls (st) σ = gA (lget ls 0) (fun x => xR mL_refuses 229 ls (.ref x :: st) σ) := y_aload_n xe_L_refuses dL_refuses_228
theorem r_L_refuses_229 {ls : xL} {st : List Value} {σ : xS}  : xR mL_refuses 229 ls (st) σ = xR mL_refuses 230 ls (.int (nI 0) :: st) σ := y_iconst xe_L_refuses dL_refuses_229 (by decide +kernel)
theorem r_L_refuses_230 {ls : xL} {st : List Value} {σ : xS}  : xR mL_refuses 230 ls (st) σ = xR mL_refuses 232 ls (.int (nI 8) :: st) σ := y_bipush xe_L_refuses dL_refuses_230 (by decide +kernel)
theorem r_L_refuses_232 {ls : xL} {st : List Value} {σ : xS}  : xR mL_refuses 232 ls (st) σ = xR mL_refuses 233 ls (.int (nI 2) :: st) σ := y_iconst xe_L_refuses dL_refuses_232 (by decide +kernel)
theorem r_L_refuses_233 {ls : xL} {st : List Value} {σ : xS}  : xR mL_refuses 233 ls (st) σ = xR mL_refuses 235 ls (.int (nI 9) :: st) σ := y_bipush xe_L_refuses dL_refuses_233 (by decide +kernel)
theorem r_L_refuses_235 {ls : xL} {st : List Value} {σ : xS} {x0 : Nat} {x1 : Int32} {x2 : Int32} {x3 : Int32} {x4 : Int32} : xR mL_refuses 235 ls (.int x4 :: .int x3 :: .int x2 :: .int x1 :: .ref x0 :: st) σ = yC (xwid st) (xC1 mL_line [.ref x0, .int x1, .int x2, .int x3, .int x4] σ) (fun v τ => xR mL_refuses 238 ls (v.toList ++ st) τ) := y_cL (as := [.ref x0, .int x1, .int x2, .int x3, .int x4]) xe_L_refuses dL_refuses_235 cl_8_110 rfl xe_L_line ⟨Nat.le_of_ble_eq_true rfl, Nat.le_of_ble_eq_true rfl⟩ (Nat.le_of_ble_eq_true rfl) (by decide)
theorem r_L_refuses_238 {ls : xL} {st : List Value} {σ : xS}  : xR mL_refuses 238 ls (st) σ = xR mL_refuses 240 ls (.int (-3) :: st) σ := y_bipush xe_L_refuses dL_refuses_238 (by decide +kernel)
theorem r_L_refuses_240 {ls : xL} {st : List Value} {σ : xS} {x y : Int32} : xR mL_refuses 240 ls (.int y :: .int x :: st) σ = if ¬ x = y then xR mL_refuses 438 ls (st) σ else xR mL_refuses 243 ls (st) σ := y_icmp_ne xe_L_refuses dL_refuses_240 (by decide)
theorem r_L_refuses_243 {ls : xL} {st : List Value} {σ : xS}  : xR mL_refuses 243 ls (st) σ = gA (lget ls 0) (fun x => xR mL_refuses 244 ls (.ref x :: st) σ) := y_aload_n xe_L_refuses dL_refuses_243
theorem r_L_refuses_244 {ls : xL} {st : List Value} {σ : xS}  : xR mL_refuses 244 ls (st) σ = xR mL_refuses 245 ls (.int (nI 0) :: st) σ := y_iconst xe_L_refuses dL_refuses_244 (by decide +kernel)
theorem r_L_refuses_245 {ls : xL} {st : List Value} {σ : xS}  : xR mL_refuses 245 ls (st) σ = xR mL_refuses 246 ls (.int (nI 0) :: st) σ := y_iconst xe_L_refuses dL_refuses_245 (by decide +kernel)
theorem r_L_refuses_246 {ls : xL} {st : List Value} {σ : xS}  : xR mL_refuses 246 ls (st) σ = xR mL_refuses 247 ls (.int (nI 1) :: st) σ := y_iconst xe_L_refuses dL_refuses_246 (by decide +kernel)
theorem r_L_refuses_247 {ls : xL} {st : List Value} {σ : xS}  : xR mL_refuses 247 ls (st) σ = xR mL_refuses 248 ls (.int (nI 3) :: st) σ := y_iconst xe_L_refuses dL_refuses_247 (by decide +kernel)
theorem r_L_refuses_248 {ls : xL} {st : List Value} {σ : xS}  : xR mL_refuses 248 ls (st) σ = gI (lget ls 1) (fun x => xR mL_refuses 249 ls (.int x :: st) σ) := y_iload_n xe_L_refuses dL_refuses_248
theorem r_L_refuses_249 {ls : xL} {st : List Value} {σ : xS} {x y : Int32} : xR mL_refuses 249 ls (.int y :: .int x :: st) σ = xR mL_refuses 250 ls (.int (x + y) :: st) σ := y_iadd xe_L_refuses dL_refuses_249
theorem r_L_refuses_250 {ls : xL} {st : List Value} {σ : xS} {x0 : Nat} {x1 : Int32} {x2 : Int32} {x3 : Int32} {x4 : Int32} : xR mL_refuses 250 ls (.int x4 :: .int x3 :: .int x2 :: .int x1 :: .ref x0 :: st) σ = yC (xwid st) (xC1 mL_line [.ref x0, .int x1, .int x2, .int x3, .int x4] σ) (fun v τ => xR mL_refuses 253 ls (v.toList ++ st) τ) := y_cL (as := [.ref x0, .int x1, .int x2, .int x3, .int x4]) xe_L_refuses dL_refuses_250 cl_8_110 rfl xe_L_line ⟨Nat.le_of_ble_eq_true rfl, Nat.le_of_ble_eq_true rfl⟩ (Nat.le_of_ble_eq_true rfl) (by decide)
theorem r_L_refuses_253 {ls : xL} {st : List Value} {σ : xS}  : xR mL_refuses 253 ls (st) σ = xR mL_refuses 255 ls (.int (-2) :: st) σ := y_bipush xe_L_refuses dL_refuses_253 (by decide +kernel)
theorem r_L_refuses_255 {ls : xL} {st : List Value} {σ : xS} {x y : Int32} : xR mL_refuses 255 ls (.int y :: .int x :: st) σ = if ¬ x = y then xR mL_refuses 438 ls (st) σ else xR mL_refuses 258 ls (st) σ := y_icmp_ne xe_L_refuses dL_refuses_255 (by decide)
theorem r_L_refuses_258 {ls : xL} {st : List Value} {σ : xS}  : xR mL_refuses 258 ls (st) σ = gA (lget ls 0) (fun x => xR mL_refuses 259 ls (.ref x :: st) σ) := y_aload_n xe_L_refuses dL_refuses_258
theorem r_L_refuses_259 {ls : xL} {st : List Value} {σ : xS}  : xR mL_refuses 259 ls (st) σ = gI (lget ls 2) (fun x => xR mL_refuses 260 ls (.int x :: st) σ) := y_iload_n xe_L_refuses dL_refuses_259
theorem r_L_refuses_260 {ls : xL} {st : List Value} {σ : xS}  : xR mL_refuses 260 ls (st) σ = xR mL_refuses 262 ls (.int (nI 9) :: st) σ := y_bipush xe_L_refuses dL_refuses_260 (by decide +kernel)
theorem r_L_refuses_262 {ls : xL} {st : List Value} {σ : xS} {x0 : Nat} {x1 : Int32} {x2 : Int32} : xR mL_refuses 262 ls (.int x2 :: .int x1 :: .ref x0 :: st) σ = yC (xwid st) (xC1 mL_skater [.ref x0, .int x1, .int x2] σ) (fun v τ => xR mL_refuses 265 ls (v.toList ++ st) τ) := y_cL (as := [.ref x0, .int x1, .int x2]) xe_L_refuses dL_refuses_262 cl_8_117 rfl xe_L_skater ⟨Nat.le_of_ble_eq_true rfl, Nat.le_of_ble_eq_true rfl⟩ (Nat.le_of_ble_eq_true rfl) (by decide)
theorem r_L_refuses_265 {ls : xL} {st : List Value} {σ : xS}  : xR mL_refuses 265 ls (st) σ = xR mL_refuses 267 ls (.int (-3) :: st) σ := y_bipush xe_L_refuses dL_refuses_265 (by decide +kernel)
theorem r_L_refuses_267 {ls : xL} {st : List Value} {σ : xS} {x y : Int32} : xR mL_refuses 267 ls (.int y :: .int x :: st) σ = if ¬ x = y then xR mL_refuses 438 ls (st) σ else xR mL_refuses 270 ls (st) σ := y_icmp_ne xe_L_refuses dL_refuses_267 (by decide)
theorem r_L_refuses_270 {ls : xL} {st : List Value} {σ : xS}  : xR mL_refuses 270 ls (st) σ = gA (lget ls 0) (fun x => xR mL_refuses 271 ls (.ref x :: st) σ) := y_aload_n xe_L_refuses dL_refuses_270
theorem r_L_refuses_271 {ls : xL} {st : List Value} {σ : xS}  : xR mL_refuses 271 ls (st) σ = xR mL_refuses 272 ls (.int (nI 0) :: st) σ := y_iconst xe_L_refuses dL_refuses_271 (by decide +kernel)
theorem r_L_refuses_272 {ls : xL} {st : List Value} {σ : xS}  : xR mL_refuses 272 ls (st) σ = xR mL_refuses 274 ls (.int (nI 9) :: st) σ := y_bipush xe_L_refuses dL_refuses_272 (by decide +kernel)
theorem r_L_refuses_274 {ls : xL} {st : List Value} {σ : xS}  : xR mL_refuses 274 ls (st) σ = gI (lget ls 1) (fun x => xR mL_refuses 275 ls (.int x :: st) σ) := y_iload_n xe_L_refuses dL_refuses_274
theorem r_L_refuses_275 {ls : xL} {st : List Value} {σ : xS} {x y : Int32} : xR mL_refuses 275 ls (.int y :: .int x :: st) σ = xR mL_refuses 276 ls (.int (x + y) :: st) σ := y_iadd xe_L_refuses dL_refuses_275
theorem r_L_refuses_276 {ls : xL} {st : List Value} {σ : xS} {x0 : Nat} {x1 : Int32} {x2 : Int32} : xR mL_refuses 276 ls (.int x2 :: .int x1 :: .ref x0 :: st) σ = yC (xwid st) (xC1 mL_skater [.ref x0, .int x1, .int x2] σ) (fun v τ => xR mL_refuses 279 ls (v.toList ++ st) τ) := y_cL (as := [.ref x0, .int x1, .int x2]) xe_L_refuses dL_refuses_276 cl_8_117 rfl xe_L_skater ⟨Nat.le_of_ble_eq_true rfl, Nat.le_of_ble_eq_true rfl⟩ (Nat.le_of_ble_eq_true rfl) (by decide)
theorem r_L_refuses_279 {ls : xL} {st : List Value} {σ : xS}  : xR mL_refuses 279 ls (st) σ = xR mL_refuses 281 ls (.int (-2) :: st) σ := y_bipush xe_L_refuses dL_refuses_279 (by decide +kernel)
theorem r_L_refuses_281 {ls : xL} {st : List Value} {σ : xS} {x y : Int32} : xR mL_refuses 281 ls (.int y :: .int x :: st) σ = if ¬ x = y then xR mL_refuses 438 ls (st) σ else xR mL_refuses 284 ls (st) σ := y_icmp_ne xe_L_refuses dL_refuses_281 (by decide)
theorem r_L_refuses_284 {ls : xL} {st : List Value} {σ : xS}  : xR mL_refuses 284 ls (st) σ = gA (lget ls 0) (fun x => xR mL_refuses 285 ls (.ref x :: st) σ) := y_aload_n xe_L_refuses dL_refuses_284
theorem r_L_refuses_285 {ls : xL} {st : List Value} {σ : xS}  : xR mL_refuses 285 ls (st) σ = xR mL_refuses 286 ls (.int (-1) :: st) σ := y_iconst xe_L_refuses dL_refuses_285 (by decide +kernel)
theorem r_L_refuses_286 {ls : xL} {st : List Value} {σ : xS}  : xR mL_refuses 286 ls (st) σ = gI (lget ls 1) (fun x => xR mL_refuses 287 ls (.int x :: st) σ) := y_iload_n xe_L_refuses dL_refuses_286
theorem r_L_refuses_287 {ls : xL} {st : List Value} {σ : xS} {x y : Int32} : xR mL_refuses 287 ls (.int y :: .int x :: st) σ = xR mL_refuses 288 ls (.int (x - y) :: st) σ := y_isub xe_L_refuses dL_refuses_287
theorem r_L_refuses_288 {ls : xL} {st : List Value} {σ : xS}  : xR mL_refuses 288 ls (st) σ = xR mL_refuses 289 ls (.int (nI 5) :: st) σ := y_iconst xe_L_refuses dL_refuses_288 (by decide +kernel)
theorem r_L_refuses_289 {ls : xL} {st : List Value} {σ : xS} {x0 : Nat} {x1 : Int32} {x2 : Int32} : xR mL_refuses 289 ls (.int x2 :: .int x1 :: .ref x0 :: st) σ = yC (xwid st) (xC1 mL_rink [.ref x0, .int x1, .int x2] σ) (fun v τ => xR mL_refuses 292 ls (v.toList ++ st) τ) := y_cL (as := [.ref x0, .int x1, .int x2]) xe_L_refuses dL_refuses_289 cl_8_115 rfl xe_L_rink ⟨Nat.le_of_ble_eq_true rfl, Nat.le_of_ble_eq_true rfl⟩ (Nat.le_of_ble_eq_true rfl) (by decide)
theorem r_L_refuses_292 {ls : xL} {st : List Value} {σ : xS}  : xR mL_refuses 292 ls (st) σ = xR mL_refuses 294 ls (.int (-3) :: st) σ := y_bipush xe_L_refuses dL_refuses_292 (by decide +kernel)
theorem r_L_refuses_294 {ls : xL} {st : List Value} {σ : xS} {x y : Int32} : xR mL_refuses 294 ls (.int y :: .int x :: st) σ = if ¬ x = y then xR mL_refuses 438 ls (st) σ else xR mL_refuses 297 ls (st) σ := y_icmp_ne xe_L_refuses dL_refuses_294 (by decide)
theorem r_L_refuses_297 {ls : xL} {st : List Value} {σ : xS}  : xR mL_refuses 297 ls (st) σ = gA (lget ls 0) (fun x => xR mL_refuses 298 ls (.ref x :: st) σ) := y_aload_n xe_L_refuses dL_refuses_297
theorem r_L_refuses_298 {ls : xL} {st : List Value} {σ : xS}  : xR mL_refuses 298 ls (st) σ = xR mL_refuses 299 ls (.int (nI 0) :: st) σ := y_iconst xe_L_refuses dL_refuses_298 (by decide +kernel)
theorem r_L_refuses_299 {ls : xL} {st : List Value} {σ : xS}  : xR mL_refuses 299 ls (st) σ = xR mL_refuses 300 ls (.int (nI 3) :: st) σ := y_iconst xe_L_refuses dL_refuses_299 (by decide +kernel)
theorem r_L_refuses_300 {ls : xL} {st : List Value} {σ : xS}  : xR mL_refuses 300 ls (st) σ = gI (lget ls 1) (fun x => xR mL_refuses 301 ls (.int x :: st) σ) := y_iload_n xe_L_refuses dL_refuses_300
theorem r_L_refuses_301 {ls : xL} {st : List Value} {σ : xS} {x y : Int32} : xR mL_refuses 301 ls (.int y :: .int x :: st) σ = xR mL_refuses 302 ls (.int (x + y) :: st) σ := y_iadd xe_L_refuses dL_refuses_301
theorem r_L_refuses_302 {ls : xL} {st : List Value} {σ : xS} {x0 : Nat} {x1 : Int32} {x2 : Int32} : xR mL_refuses 302 ls (.int x2 :: .int x1 :: .ref x0 :: st) σ = yC (xwid st) (xC1 mL_rink [.ref x0, .int x1, .int x2] σ) (fun v τ => xR mL_refuses 305 ls (v.toList ++ st) τ) := y_cL (as := [.ref x0, .int x1, .int x2]) xe_L_refuses dL_refuses_302 cl_8_115 rfl xe_L_rink ⟨Nat.le_of_ble_eq_true rfl, Nat.le_of_ble_eq_true rfl⟩ (Nat.le_of_ble_eq_true rfl) (by decide)
theorem r_L_refuses_305 {ls : xL} {st : List Value} {σ : xS}  : xR mL_refuses 305 ls (st) σ = xR mL_refuses 307 ls (.int (-2) :: st) σ := y_bipush xe_L_refuses dL_refuses_305 (by decide +kernel)
theorem r_L_refuses_307 {ls : xL} {st : List Value} {σ : xS} {x y : Int32} : xR mL_refuses 307 ls (.int y :: .int x :: st) σ = if ¬ x = y then xR mL_refuses 438 ls (st) σ else xR mL_refuses 310 ls (st) σ := y_icmp_ne xe_L_refuses dL_refuses_307 (by decide)
theorem r_L_refuses_310 {ls : xL} {st : List Value} {σ : xS}  : xR mL_refuses 310 ls (st) σ = gA (lget ls 0) (fun x => xR mL_refuses 311 ls (.ref x :: st) σ) := y_aload_n xe_L_refuses dL_refuses_310
theorem r_L_refuses_311 {ls : xL} {st : List Value} {σ : xS}  : xR mL_refuses 311 ls (st) σ = xR mL_refuses 313 ls (.int (nI 12) :: st) σ := y_bipush xe_L_refuses dL_refuses_311 (by decide +kernel)
theorem r_L_refuses_313 {ls : xL} {st : List Value} {σ : xS}  : xR mL_refuses 313 ls (st) σ = gI (lget ls 1) (fun x => xR mL_refuses 314 ls (.int x :: st) σ) := y_iload_n xe_L_refuses dL_refuses_313
theorem r_L_refuses_314 {ls : xL} {st : List Value} {σ : xS} {x y : Int32} : xR mL_refuses 314 ls (.int y :: .int x :: st) σ = xR mL_refuses 315 ls (.int (x + y) :: st) σ := y_iadd xe_L_refuses dL_refuses_314
theorem r_L_refuses_315 {ls : xL} {st : List Value} {σ : xS} {x0 : Nat} {x1 : Int32} : xR mL_refuses 315 ls (.int x1 :: .ref x0 :: st) σ = yC (xwid st) (xC1 mL_count [.ref x0, .int x1] σ) (fun v τ => xR mL_refuses 318 ls (v.toList ++ st) τ) := y_cL (as := [.ref x0, .int x1]) xe_L_refuses dL_refuses_315 cl_8_113 rfl xe_L_count ⟨Nat.le_of_ble_eq_true rfl, Nat.le_of_ble_eq_true rfl⟩ (Nat.le_of_ble_eq_true rfl) (by decide)
theorem r_L_refuses_318 {ls : xL} {st : List Value} {σ : xS}  : xR mL_refuses 318 ls (st) σ = xR mL_refuses 320 ls (.int (-2) :: st) σ := y_bipush xe_L_refuses dL_refuses_318 (by decide +kernel)
theorem r_L_refuses_320 {ls : xL} {st : List Value} {σ : xS} {x y : Int32} : xR mL_refuses 320 ls (.int y :: .int x :: st) σ = if ¬ x = y then xR mL_refuses 438 ls (st) σ else xR mL_refuses 323 ls (st) σ := y_icmp_ne xe_L_refuses dL_refuses_320 (by decide)
theorem r_L_refuses_323 {ls : xL} {st : List Value} {σ : xS}  : xR mL_refuses 323 ls (st) σ = gA (lget ls 0) (fun x => xR mL_refuses 324 ls (.ref x :: st) σ) := y_aload_n xe_L_refuses dL_refuses_323
theorem r_L_refuses_324 {ls : xL} {st : List Value} {σ : xS}  : xR mL_refuses 324 ls (st) σ = xR mL_refuses 325 ls (.int (-1) :: st) σ := y_iconst xe_L_refuses dL_refuses_324 (by decide +kernel)
theorem r_L_refuses_325 {ls : xL} {st : List Value} {σ : xS}  : xR mL_refuses 325 ls (st) σ = gI (lget ls 1) (fun x => xR mL_refuses 326 ls (.int x :: st) σ) := y_iload_n xe_L_refuses dL_refuses_325
theorem r_L_refuses_326 {ls : xL} {st : List Value} {σ : xS} {x y : Int32} : xR mL_refuses 326 ls (.int y :: .int x :: st) σ = xR mL_refuses 327 ls (.int (x - y) :: st) σ := y_isub xe_L_refuses dL_refuses_326
theorem r_L_refuses_327 {ls : xL} {st : List Value} {σ : xS} {x0 : Nat} {x1 : Int32} : xR mL_refuses 327 ls (.int x1 :: .ref x0 :: st) σ = yC (xwid st) (xC1 mL_count [.ref x0, .int x1] σ) (fun v τ => xR mL_refuses 330 ls (v.toList ++ st) τ) := y_cL (as := [.ref x0, .int x1]) xe_L_refuses dL_refuses_327 cl_8_113 rfl xe_L_count ⟨Nat.le_of_ble_eq_true rfl, Nat.le_of_ble_eq_true rfl⟩ (Nat.le_of_ble_eq_true rfl) (by decide)
theorem r_L_refuses_330 {ls : xL} {st : List Value} {σ : xS}  : xR mL_refuses 330 ls (st) σ = xR mL_refuses 332 ls (.int (-2) :: st) σ := y_bipush xe_L_refuses dL_refuses_330 (by decide +kernel)
theorem r_L_refuses_332 {ls : xL} {st : List Value} {σ : xS} {x y : Int32} : xR mL_refuses 332 ls (.int y :: .int x :: st) σ = if ¬ x = y then xR mL_refuses 438 ls (st) σ else xR mL_refuses 335 ls (st) σ := y_icmp_ne xe_L_refuses dL_refuses_332 (by decide)
theorem r_L_refuses_335 {ls : xL} {st : List Value} {σ : xS}  : xR mL_refuses 335 ls (st) σ = gA (lget ls 0) (fun x => xR mL_refuses 336 ls (.ref x :: st) σ) := y_aload_n xe_L_refuses dL_refuses_335
theorem r_L_refuses_336 {ls : xL} {st : List Value} {σ : xS}  : xR mL_refuses 336 ls (st) σ = gI (lget ls 2) (fun x => xR mL_refuses 337 ls (.int x :: st) σ) := y_iload_n xe_L_refuses dL_refuses_336
theorem r_L_refuses_337 {ls : xL} {st : List Value} {σ : xS}  : xR mL_refuses 337 ls (st) σ = xR mL_refuses 339 ls (.int (nI 9) :: st) σ := y_bipush xe_L_refuses dL_refuses_337 (by decide +kernel)
theorem r_L_refuses_339 {ls : xL} {st : List Value} {σ : xS} {x0 : Nat} {x1 : Int32} {x2 : Int32} : xR mL_refuses 339 ls (.int x2 :: .int x1 :: .ref x0 :: st) σ = yC (xwid st) (xC1 mL_why [.ref x0, .int x1, .int x2] σ) (fun v τ => xR mL_refuses 342 ls (v.toList ++ st) τ) := y_cL (as := [.ref x0, .int x1, .int x2]) xe_L_refuses dL_refuses_339 cl_8_119 rfl xe_L_why ⟨Nat.le_of_ble_eq_true rfl, Nat.le_of_ble_eq_true rfl⟩ (Nat.le_of_ble_eq_true rfl) (by decide)
theorem r_L_refuses_342 {ls : xL} {st : List Value} {σ : xS}  : xR mL_refuses 342 ls (st) σ = xR mL_refuses 344 ls (.int (-3) :: st) σ := y_bipush xe_L_refuses dL_refuses_342 (by decide +kernel)
theorem r_L_refuses_344 {ls : xL} {st : List Value} {σ : xS} {x y : Int32} : xR mL_refuses 344 ls (.int y :: .int x :: st) σ = if ¬ x = y then xR mL_refuses 438 ls (st) σ else xR mL_refuses 347 ls (st) σ := y_icmp_ne xe_L_refuses dL_refuses_344 (by decide)
theorem r_L_refuses_347 {ls : xL} {st : List Value} {σ : xS}  : xR mL_refuses 347 ls (st) σ = gA (lget ls 0) (fun x => xR mL_refuses 348 ls (.ref x :: st) σ) := y_aload_n xe_L_refuses dL_refuses_347
theorem r_L_refuses_348 {ls : xL} {st : List Value} {σ : xS}  : xR mL_refuses 348 ls (st) σ = xR mL_refuses 349 ls (.int (nI 0) :: st) σ := y_iconst xe_L_refuses dL_refuses_348 (by decide +kernel)
theorem r_L_refuses_349 {ls : xL} {st : List Value} {σ : xS}  : xR mL_refuses 349 ls (st) σ = xR mL_refuses 350 ls (.int (-1) :: st) σ := y_iconst xe_L_refuses dL_refuses_349 (by decide +kernel)
theorem r_L_refuses_350 {ls : xL} {st : List Value} {σ : xS}  : xR mL_refuses 350 ls (st) σ = gI (lget ls 1) (fun x => xR mL_refuses 351 ls (.int x :: st) σ) := y_iload_n xe_L_refuses dL_refuses_350
theorem r_L_refuses_351 {ls : xL} {st : List Value} {σ : xS} {x y : Int32} : xR mL_refuses 351 ls (.int y :: .int x :: st) σ = xR mL_refuses 352 ls (.int (x - y) :: st) σ := y_isub xe_L_refuses dL_refuses_351
theorem r_L_refuses_352 {ls : xL} {st : List Value} {σ : xS} {x0 : Nat} {x1 : Int32} {x2 : Int32} : xR mL_refuses 352 ls (.int x2 :: .int x1 :: .ref x0 :: st) σ = yC (xwid st) (xC1 mL_why [.ref x0, .int x1, .int x2] σ) (fun v τ => xR mL_refuses 355 ls (v.toList ++ st) τ) := y_cL (as := [.ref x0, .int x1, .int x2]) xe_L_refuses dL_refuses_352 cl_8_119 rfl xe_L_why ⟨Nat.le_of_ble_eq_true rfl, Nat.le_of_ble_eq_true rfl⟩ (Nat.le_of_ble_eq_true rfl) (by decide)
theorem r_L_refuses_355 {ls : xL} {st : List Value} {σ : xS}  : xR mL_refuses 355 ls (st) σ = xR mL_refuses 357 ls (.int (-2) :: st) σ := y_bipush xe_L_refuses dL_refuses_355 (by decide +kernel)
theorem r_L_refuses_357 {ls : xL} {st : List Value} {σ : xS} {x y : Int32} : xR mL_refuses 357 ls (.int y :: .int x :: st) σ = if ¬ x = y then xR mL_refuses 438 ls (st) σ else xR mL_refuses 360 ls (st) σ := y_icmp_ne xe_L_refuses dL_refuses_357 (by decide)
theorem r_L_refuses_360 {ls : xL} {st : List Value} {σ : xS}  : xR mL_refuses 360 ls (st) σ = gA (lget ls 0) (fun x => xR mL_refuses 361 ls (.ref x :: st) σ) := y_aload_n xe_L_refuses dL_refuses_360
theorem r_L_refuses_361 {ls : xL} {st : List Value} {σ : xS}  : xR mL_refuses 361 ls (st) σ = gI (lget ls 2) (fun x => xR mL_refuses 362 ls (.int x :: st) σ) := y_iload_n xe_L_refuses dL_refuses_361
theorem r_L_refuses_362 {ls : xL} {st : List Value} {σ : xS}  : xR mL_refuses 362 ls (st) σ = xR mL_refuses 363 ls (.int (nI 0) :: st) σ := y_iconst xe_L_refuses dL_refuses_362 (by decide +kernel)
theorem r_L_refuses_363 {ls : xL} {st : List Value} {σ : xS}  : xR mL_refuses 363 ls (st) σ = xR mL_refuses 364 ls (.int (nI 1) :: st) σ := y_iconst xe_L_refuses dL_refuses_363 (by decide +kernel)
theorem r_L_refuses_364 {ls : xL} {st : List Value} {σ : xS}  : xR mL_refuses 364 ls (st) σ = xR mL_refuses 365 ls (.int (nI 0) :: st) σ := y_iconst xe_L_refuses dL_refuses_364 (by decide +kernel)
theorem r_L_refuses_365 {ls : xL} {st : List Value} {σ : xS} {x0 : Nat} {x1 : Int32} {x2 : Int32} {x3 : Int32} {x4 : Int32} : xR mL_refuses 365 ls (.int x4 :: .int x3 :: .int x2 :: .int x1 :: .ref x0 :: st) σ = yC (xwid st) (xC1 mL_ifGlided [.ref x0, .int x1, .int x2, .int x3, .int x4] σ) (fun v τ => xR mL_refuses 368 ls (v.toList ++ st) τ) := y_cL (as := [.ref x0, .int x1, .int x2, .int x3, .int x4]) xe_L_refuses dL_refuses_365 cl_8_121 rfl xe_L_ifGlided ⟨Nat.le_of_ble_eq_true rfl, Nat.le_of_ble_eq_true rfl⟩ (Nat.le_of_ble_eq_true rfl) (by decide)
theorem r_L_refuses_368 {ls : xL} {st : List Value} {σ : xS}  : xR mL_refuses 368 ls (st) σ = xR mL_refuses 370 ls (.int (-103) :: st) σ := y_bipush xe_L_refuses dL_refuses_368 (by decide +kernel)
theorem r_L_refuses_370 {ls : xL} {st : List Value} {σ : xS} {x y : Int32} : xR mL_refuses 370 ls (.int y :: .int x :: st) σ = if ¬ x = y then xR mL_refuses 438 ls (st) σ else xR mL_refuses 373 ls (st) σ := y_icmp_ne xe_L_refuses dL_refuses_370 (by decide)
theorem r_L_refuses_373 {ls : xL} {st : List Value} {σ : xS}  : xR mL_refuses 373 ls (st) σ = gA (lget ls 0) (fun x => xR mL_refuses 374 ls (.ref x :: st) σ) := y_aload_n xe_L_refuses dL_refuses_373
theorem r_L_refuses_374 {ls : xL} {st : List Value} {σ : xS}  : xR mL_refuses 374 ls (st) σ = xR mL_refuses 375 ls (.int (nI 0) :: st) σ := y_iconst xe_L_refuses dL_refuses_374 (by decide +kernel)
theorem r_L_refuses_375 {ls : xL} {st : List Value} {σ : xS}  : xR mL_refuses 375 ls (st) σ = xR mL_refuses 376 ls (.int (nI 0) :: st) σ := y_iconst xe_L_refuses dL_refuses_375 (by decide +kernel)
theorem r_L_refuses_376 {ls : xL} {st : List Value} {σ : xS}  : xR mL_refuses 376 ls (st) σ = xR mL_refuses 377 ls (.int (nI 1) :: st) σ := y_iconst xe_L_refuses dL_refuses_376 (by decide +kernel)
theorem r_L_refuses_377 {ls : xL} {st : List Value} {σ : xS}  : xR mL_refuses 377 ls (st) σ = xR mL_refuses 378 ls (.int (nI 4) :: st) σ := y_iconst xe_L_refuses dL_refuses_377 (by decide +kernel)
theorem r_L_refuses_378 {ls : xL} {st : List Value} {σ : xS}  : xR mL_refuses 378 ls (st) σ = gI (lget ls 1) (fun x => xR mL_refuses 379 ls (.int x :: st) σ) := y_iload_n xe_L_refuses dL_refuses_378
theorem r_L_refuses_379 {ls : xL} {st : List Value} {σ : xS} {x y : Int32} : xR mL_refuses 379 ls (.int y :: .int x :: st) σ = xR mL_refuses 380 ls (.int (x + y) :: st) σ := y_iadd xe_L_refuses dL_refuses_379
theorem r_L_refuses_380 {ls : xL} {st : List Value} {σ : xS} {x0 : Nat} {x1 : Int32} {x2 : Int32} {x3 : Int32} {x4 : Int32} : xR mL_refuses 380 ls (.int x4 :: .int x3 :: .int x2 :: .int x1 :: .ref x0 :: st) σ = yC (xwid st) (xC1 mL_ifGlided [.ref x0, .int x1, .int x2, .int x3, .int x4] σ) (fun v τ => xR mL_refuses 383 ls (v.toList ++ st) τ) := y_cL (as := [.ref x0, .int x1, .int x2, .int x3, .int x4]) xe_L_refuses dL_refuses_380 cl_8_121 rfl xe_L_ifGlided ⟨Nat.le_of_ble_eq_true rfl, Nat.le_of_ble_eq_true rfl⟩ (Nat.le_of_ble_eq_true rfl) (by decide)
theorem r_L_refuses_383 {ls : xL} {st : List Value} {σ : xS}  : xR mL_refuses 383 ls (st) σ = xR mL_refuses 385 ls (.int (-102) :: st) σ := y_bipush xe_L_refuses dL_refuses_383 (by decide +kernel)
theorem r_L_refuses_385 {ls : xL} {st : List Value} {σ : xS} {x y : Int32} : xR mL_refuses 385 ls (.int y :: .int x :: st) σ = if ¬ x = y then xR mL_refuses 438 ls (st) σ else xR mL_refuses 388 ls (st) σ := y_icmp_ne xe_L_refuses dL_refuses_385 (by decide)
theorem r_L_refuses_388 {ls : xL} {st : List Value} {σ : xS}  : xR mL_refuses 388 ls (st) σ = gA (lget ls 0) (fun x => xR mL_refuses 389 ls (.ref x :: st) σ) := y_aload_n xe_L_refuses dL_refuses_388
theorem r_L_refuses_389 {ls : xL} {st : List Value} {σ : xS}  : xR mL_refuses 389 ls (st) σ = gI (lget ls 2) (fun x => xR mL_refuses 390 ls (.int x :: st) σ) := y_iload_n xe_L_refuses dL_refuses_389
theorem r_L_refuses_390 {ls : xL} {st : List Value} {σ : xS} {x0 : Nat} {x1 : Int32} : xR mL_refuses 390 ls (.int x1 :: .ref x0 :: st) σ = yC (xwid st) (xC1 mL_best [.ref x0, .int x1] σ) (fun v τ => xR mL_refuses 393 ls (v.toList ++ st) τ) := y_cL (as := [.ref x0, .int x1]) xe_L_refuses dL_refuses_390 cl_8_134 rfl xe_L_best ⟨Nat.le_of_ble_eq_true rfl, Nat.le_of_ble_eq_true rfl⟩ (Nat.le_of_ble_eq_true rfl) (by decide)
theorem r_L_refuses_393 {ls : xL} {st : List Value} {σ : xS}  : xR mL_refuses 393 ls (st) σ = xR mL_refuses 395 ls (.int (-3) :: st) σ := y_bipush xe_L_refuses dL_refuses_393 (by decide +kernel)
theorem r_L_refuses_395 {ls : xL} {st : List Value} {σ : xS} {x y : Int32} : xR mL_refuses 395 ls (.int y :: .int x :: st) σ = if ¬ x = y then xR mL_refuses 438 ls (st) σ else xR mL_refuses 398 ls (st) σ := y_icmp_ne xe_L_refuses dL_refuses_395 (by decide)
theorem r_L_refuses_398 {ls : xL} {st : List Value} {σ : xS}  : xR mL_refuses 398 ls (st) σ = gA (lget ls 0) (fun x => xR mL_refuses 399 ls (.ref x :: st) σ) := y_aload_n xe_L_refuses dL_refuses_398
theorem r_L_refuses_399 {ls : xL} {st : List Value} {σ : xS}  : xR mL_refuses 399 ls (st) σ = gI (lget ls 2) (fun x => xR mL_refuses 400 ls (.int x :: st) σ) := y_iload_n xe_L_refuses dL_refuses_399
theorem r_L_refuses_400 {ls : xL} {st : List Value} {σ : xS} {x0 : Nat} {x1 : Int32} : xR mL_refuses 400 ls (.int x1 :: .ref x0 :: st) σ = yC (xwid st) (xC1 mL_setting [.ref x0, .int x1] σ) (fun v τ => xR mL_refuses 403 ls (v.toList ++ st) τ) := y_cL (as := [.ref x0, .int x1]) xe_L_refuses dL_refuses_400 cl_8_136 rfl xe_L_setting ⟨Nat.le_of_ble_eq_true rfl, Nat.le_of_ble_eq_true rfl⟩ (Nat.le_of_ble_eq_true rfl) (by decide)
theorem r_L_refuses_403 {ls : xL} {st : List Value} {σ : xS}  : xR mL_refuses 403 ls (st) σ = xR mL_refuses 405 ls (.int (-2) :: st) σ := y_bipush xe_L_refuses dL_refuses_403 (by decide +kernel)
theorem r_L_refuses_405 {ls : xL} {st : List Value} {σ : xS} {x y : Int32} : xR mL_refuses 405 ls (.int y :: .int x :: st) σ = if ¬ x = y then xR mL_refuses 438 ls (st) σ else xR mL_refuses 408 ls (st) σ := y_icmp_ne xe_L_refuses dL_refuses_405 (by decide)
theorem r_L_refuses_408 {ls : xL} {st : List Value} {σ : xS}  : xR mL_refuses 408 ls (st) σ = gA (lget ls 0) (fun x => xR mL_refuses 409 ls (.ref x :: st) σ) := y_aload_n xe_L_refuses dL_refuses_408
theorem r_L_refuses_409 {ls : xL} {st : List Value} {σ : xS}  : xR mL_refuses 409 ls (st) σ = xR mL_refuses 411 ls (.int (nI 32) :: st) σ := y_bipush xe_L_refuses dL_refuses_409 (by decide +kernel)
theorem r_L_refuses_411 {ls : xL} {st : List Value} {σ : xS}  : xR mL_refuses 411 ls (st) σ = gI (lget ls 1) (fun x => xR mL_refuses 412 ls (.int x :: st) σ) := y_iload_n xe_L_refuses dL_refuses_411
theorem r_L_refuses_412 {ls : xL} {st : List Value} {σ : xS} {x y : Int32} : xR mL_refuses 412 ls (.int y :: .int x :: st) σ = xR mL_refuses 413 ls (.int (x - y) :: st) σ := y_isub xe_L_refuses dL_refuses_412
theorem r_L_refuses_413 {ls : xL} {st : List Value} {σ : xS} {x0 : Nat} {x1 : Int32} : xR mL_refuses 413 ls (.int x1 :: .ref x0 :: st) σ = yC (xwid st) (xC1 mL_append [.ref x0, .int x1] σ) (fun v τ => xR mL_refuses 416 ls (v.toList ++ st) τ) := y_cL (as := [.ref x0, .int x1]) xe_L_refuses dL_refuses_413 cl_8_96 rfl xe_L_append ⟨Nat.le_of_ble_eq_true rfl, Nat.le_of_ble_eq_true rfl⟩ (Nat.le_of_ble_eq_true rfl) (by decide)
theorem r_L_refuses_416 {ls : xL} {st : List Value} {σ : xS}  : xR mL_refuses 416 ls (st) σ = xR mL_refuses 418 ls (.int (-2) :: st) σ := y_bipush xe_L_refuses dL_refuses_416 (by decide +kernel)
theorem r_L_refuses_418 {ls : xL} {st : List Value} {σ : xS} {x y : Int32} : xR mL_refuses 418 ls (.int y :: .int x :: st) σ = if ¬ x = y then xR mL_refuses 438 ls (st) σ else xR mL_refuses 421 ls (st) σ := y_icmp_ne xe_L_refuses dL_refuses_418 (by decide)
theorem r_L_refuses_421 {ls : xL} {st : List Value} {σ : xS}  : xR mL_refuses 421 ls (st) σ = gA (lget ls 0) (fun x => xR mL_refuses 422 ls (.ref x :: st) σ) := y_aload_n xe_L_refuses dL_refuses_421
theorem r_L_refuses_422 {ls : xL} {st : List Value} {σ : xS}  : xR mL_refuses 422 ls (st) σ = xR mL_refuses 424 ls (.int (nI 127) :: st) σ := y_bipush xe_L_refuses dL_refuses_422 (by decide +kernel)
theorem r_L_refuses_424 {ls : xL} {st : List Value} {σ : xS}  : xR mL_refuses 424 ls (st) σ = gI (lget ls 1) (fun x => xR mL_refuses 425 ls (.int x :: st) σ) := y_iload_n xe_L_refuses dL_refuses_424
theorem r_L_refuses_425 {ls : xL} {st : List Value} {σ : xS} {x y : Int32} : xR mL_refuses 425 ls (.int y :: .int x :: st) σ = xR mL_refuses 426 ls (.int (x + y) :: st) σ := y_iadd xe_L_refuses dL_refuses_425
theorem r_L_refuses_426 {ls : xL} {st : List Value} {σ : xS} {x0 : Nat} {x1 : Int32} : xR mL_refuses 426 ls (.int x1 :: .ref x0 :: st) σ = yC (xwid st) (xC1 mL_append [.ref x0, .int x1] σ) (fun v τ => xR mL_refuses 429 ls (v.toList ++ st) τ) := y_cL (as := [.ref x0, .int x1]) xe_L_refuses dL_refuses_426 cl_8_96 rfl xe_L_append ⟨Nat.le_of_ble_eq_true rfl, Nat.le_of_ble_eq_true rfl⟩ (Nat.le_of_ble_eq_true rfl) (by decide)
theorem r_L_refuses_429 {ls : xL} {st : List Value} {σ : xS}  : xR mL_refuses 429 ls (st) σ = xR mL_refuses 431 ls (.int (-2) :: st) σ := y_bipush xe_L_refuses dL_refuses_429 (by decide +kernel)
theorem r_L_refuses_431 {ls : xL} {st : List Value} {σ : xS} {x y : Int32} : xR mL_refuses 431 ls (.int y :: .int x :: st) σ = if ¬ x = y then xR mL_refuses 438 ls (st) σ else xR mL_refuses 434 ls (st) σ := y_icmp_ne xe_L_refuses dL_refuses_431 (by decide)
theorem r_L_refuses_434 {ls : xL} {st : List Value} {σ : xS}  : xR mL_refuses 434 ls (st) σ = xR mL_refuses 435 ls (.int (nI 1) :: st) σ := y_iconst xe_L_refuses dL_refuses_434 (by decide +kernel)
theorem r_L_refuses_435 {ls : xL} {st : List Value} {σ : xS}  : xR mL_refuses 435 ls (st) σ = xR mL_refuses 439 ls (st) σ := y_goto xe_L_refuses dL_refuses_435 (by decide)
theorem r_L_refuses_438 {ls : xL} {st : List Value} {σ : xS}  : xR mL_refuses 438 ls (st) σ = xR mL_refuses 439 ls (.int (nI 0) :: st) σ := y_iconst xe_L_refuses dL_refuses_438 (by decide +kernel)
theorem r_L_refuses_439 {ls : xL} {st : List Value} {σ : xS} {x : Int32} : xR mL_refuses 439 ls (.int x :: st) σ = (lst1 ls 4 (some (.int x))).bind (fun l => xR mL_refuses 441 l (st) σ) := y_istore xe_L_refuses dL_refuses_439
theorem r_L_refuses_441 {ls : xL} {st : List Value} {σ : xS}  : xR mL_refuses 441 ls (st) σ = gA (lget ls 0) (fun x => xR mL_refuses 442 ls (.ref x :: st) σ) := y_aload_n xe_L_refuses dL_refuses_441
theorem r_L_refuses_442 {ls : xL} {st : List Value} {σ : xS} {a : Nat}  : xR mL_refuses 442 ls (.ref a :: st) σ = yV (hcls σ a) 5 (xwid st) (xC1 mX6_clearBuffer [.ref a] σ) (fun v τ => xR mL_refuses 445 ls (v.toList ++ st) τ) := y_cV (as := [.ref a]) (as2 := []) (r := (vwCl[5]?).getD default) xe_L_refuses dL_refuses_442 cl_8_93 rfl rfl rfl rfl xe_X6_clearBuffer ⟨Nat.le_of_ble_eq_true rfl, Nat.le_of_ble_eq_true rfl⟩ (Nat.le_of_ble_eq_true rfl) (by decide)
theorem r_L_refuses_445 {ls : xL} {st : List Value} {σ : xS} {x : Int32} : xR mL_refuses 445 ls (.int x :: st) σ = (lst1 ls 5 (some (.int x))).bind (fun l => xR mL_refuses 447 l (st) σ) := y_istore xe_L_refuses dL_refuses_445
theorem r_L_refuses_447 {ls : xL} {st : List Value} {σ : xS}  : xR mL_refuses 447 ls (st) σ = gI (lget ls 4) (fun x => xR mL_refuses 449 ls (.int x :: st) σ) := y_iload xe_L_refuses dL_refuses_447
theorem r_L_refuses_449 {ls : xL} {st : List Value} {σ : xS} {x : Int32} : xR mL_refuses 449 ls (.int x :: st) σ = if x = 0 then xR mL_refuses 504 ls (st) σ else xR mL_refuses 452 ls (st) σ := y_if_eq xe_L_refuses dL_refuses_449 (by decide)
theorem r_L_refuses_452 {ls : xL} {st : List Value} {σ : xS}  : xR mL_refuses 452 ls (st) σ = gI (lget ls 5) (fun x => xR mL_refuses 454 ls (.int x :: st) σ) := y_iload xe_L_refuses dL_refuses_452
theorem r_L_refuses_454 {ls : xL} {st : List Value} {σ : xS} {x : Int32} : xR mL_refuses 454 ls (.int x :: st) σ = if x < 0 then xR mL_refuses 504 ls (st) σ else xR mL_refuses 457 ls (st) σ := y_if_lt xe_L_refuses dL_refuses_454 (by decide)
theorem r_L_refuses_457 {ls : xL} {st : List Value} {σ : xS}  : xR mL_refuses 457 ls (st) σ = gA (lget ls 0) (fun x => xR mL_refuses 458 ls (.ref x :: st) σ) := y_aload_n xe_L_refuses dL_refuses_457
theorem r_L_refuses_458 {ls : xL} {st : List Value} {σ : xS} {x0 : Nat} : xR mL_refuses 458 ls (.ref x0 :: st) σ = yC (xwid st) (xC1 mL_play [.ref x0] σ) (fun v τ => xR mL_refuses 461 ls (v.toList ++ st) τ) := y_cL (as := [.ref x0]) xe_L_refuses dL_refuses_458 cl_8_102 rfl xe_L_play ⟨Nat.le_of_ble_eq_true rfl, Nat.le_of_ble_eq_true rfl⟩ (Nat.le_of_ble_eq_true rfl) (by decide)
theorem r_L_refuses_461 {ls : xL} {st : List Value} {σ : xS}  : xR mL_refuses 461 ls (st) σ = xR mL_refuses 463 ls (.int (-2) :: st) σ := y_bipush xe_L_refuses dL_refuses_461 (by decide +kernel)
theorem r_L_refuses_463 {ls : xL} {st : List Value} {σ : xS} {x y : Int32} : xR mL_refuses 463 ls (.int y :: .int x :: st) σ = if ¬ x = y then xR mL_refuses 504 ls (st) σ else xR mL_refuses 466 ls (st) σ := y_icmp_ne xe_L_refuses dL_refuses_463 (by decide)
theorem r_L_refuses_466 {ls : xL} {st : List Value} {σ : xS}  : xR mL_refuses 466 ls (st) σ = gA (lget ls 0) (fun x => xR mL_refuses 467 ls (.ref x :: st) σ) := y_aload_n xe_L_refuses dL_refuses_466
theorem r_L_refuses_467 {ls : xL} {st : List Value} {σ : xS}  : xR mL_refuses 467 ls (st) σ = xR mL_refuses 469 ls (.int (nI 59) :: st) σ := y_bipush xe_L_refuses dL_refuses_467 (by decide +kernel)
theorem r_L_refuses_469 {ls : xL} {st : List Value} {σ : xS} {x0 : Nat} {x1 : Int32} : xR mL_refuses 469 ls (.int x1 :: .ref x0 :: st) σ = yC (xwid st) (xC1 mL_append [.ref x0, .int x1] σ) (fun v τ => xR mL_refuses 472 ls (v.toList ++ st) τ) := y_cL (as := [.ref x0, .int x1]) xe_L_refuses dL_refuses_469 cl_8_96 rfl xe_L_append ⟨Nat.le_of_ble_eq_true rfl, Nat.le_of_ble_eq_true rfl⟩ (Nat.le_of_ble_eq_true rfl) (by decide)
theorem r_L_refuses_472 {ls : xL} {st : List Value} {σ : xS}  : xR mL_refuses 472 ls (st) σ = xR mL_refuses 473 ls (.int (nI 1) :: st) σ := y_iconst xe_L_refuses dL_refuses_472 (by decide +kernel)
theorem r_L_refuses_473 {ls : xL} {st : List Value} {σ : xS} {x y : Int32} : xR mL_refuses 473 ls (.int y :: .int x :: st) σ = if ¬ x = y then xR mL_refuses 504 ls (st) σ else xR mL_refuses 476 ls (st) σ := y_icmp_ne xe_L_refuses dL_refuses_473 (by decide)
theorem r_L_refuses_476 {ls : xL} {st : List Value} {σ : xS}  : xR mL_refuses 476 ls (st) σ = gA (lget ls 0) (fun x => xR mL_refuses 477 ls (.ref x :: st) σ) := y_aload_n xe_L_refuses dL_refuses_476
theorem r_L_refuses_477 {ls : xL} {st : List Value} {σ : xS} {a : Nat}  : xR mL_refuses 477 ls (.ref a :: st) σ = yV (hcls σ a) 5 (xwid st) (xC1 mX6_firstError [.ref a] σ) (fun v τ => xR mL_refuses 480 ls (v.toList ++ st) τ) := y_cV (as := [.ref a]) (as2 := []) (r := (vwCl[5]?).getD default) xe_L_refuses dL_refuses_477 cl_8_99 rfl rfl rfl rfl xe_X6_firstError ⟨Nat.le_of_ble_eq_true rfl, Nat.le_of_ble_eq_true rfl⟩ (Nat.le_of_ble_eq_true rfl) (by decide)
theorem r_L_refuses_480 {ls : xL} {st : List Value} {σ : xS} {x : Int32} : xR mL_refuses 480 ls (.int x :: st) σ = if ¬ x = 0 then xR mL_refuses 504 ls (st) σ else xR mL_refuses 483 ls (st) σ := y_if_ne xe_L_refuses dL_refuses_480 (by decide)
theorem r_L_refuses_483 {ls : xL} {st : List Value} {σ : xS}  : xR mL_refuses 483 ls (st) σ = gA (lget ls 0) (fun x => xR mL_refuses 484 ls (.ref x :: st) σ) := y_aload_n xe_L_refuses dL_refuses_483
theorem r_L_refuses_484 {ls : xL} {st : List Value} {σ : xS} {x0 : Nat} : xR mL_refuses 484 ls (.ref x0 :: st) σ = yC (xwid st) (xC1 mL_play [.ref x0] σ) (fun v τ => xR mL_refuses 487 ls (v.toList ++ st) τ) := y_cL (as := [.ref x0]) xe_L_refuses dL_refuses_484 cl_8_102 rfl xe_L_play ⟨Nat.le_of_ble_eq_true rfl, Nat.le_of_ble_eq_true rfl⟩ (Nat.le_of_ble_eq_true rfl) (by decide)
theorem r_L_refuses_487 {ls : xL} {st : List Value} {σ : xS}  : xR mL_refuses 487 ls (st) σ = xR mL_refuses 489 ls (.int (-2) :: st) σ := y_bipush xe_L_refuses dL_refuses_487 (by decide +kernel)
theorem r_L_refuses_489 {ls : xL} {st : List Value} {σ : xS} {x y : Int32} : xR mL_refuses 489 ls (.int y :: .int x :: st) σ = if ¬ x = y then xR mL_refuses 504 ls (st) σ else xR mL_refuses 492 ls (st) σ := y_icmp_ne xe_L_refuses dL_refuses_489 (by decide)
theorem r_L_refuses_492 {ls : xL} {st : List Value} {σ : xS}  : xR mL_refuses 492 ls (st) σ = gA (lget ls 0) (fun x => xR mL_refuses 493 ls (.ref x :: st) σ) := y_aload_n xe_L_refuses dL_refuses_492
theorem r_L_refuses_493 {ls : xL} {st : List Value} {σ : xS} {a : Nat}  : xR mL_refuses 493 ls (.ref a :: st) σ = yV (hcls σ a) 5 (xwid st) (xC1 mX6_clearBuffer [.ref a] σ) (fun v τ => xR mL_refuses 496 ls (v.toList ++ st) τ) := y_cV (as := [.ref a]) (as2 := []) (r := (vwCl[5]?).getD default) xe_L_refuses dL_refuses_493 cl_8_93 rfl rfl rfl rfl xe_X6_clearBuffer ⟨Nat.le_of_ble_eq_true rfl, Nat.le_of_ble_eq_true rfl⟩ (Nat.le_of_ble_eq_true rfl) (by decide)
theorem r_L_refuses_496 {ls : xL} {st : List Value} {σ : xS}  : xR mL_refuses 496 ls (st) σ = xR mL_refuses 497 ls (.int (nI 1) :: st) σ := y_iconst xe_L_refuses dL_refuses_496 (by decide +kernel)
theorem r_L_refuses_497 {ls : xL} {st : List Value} {σ : xS} {x y : Int32} : xR mL_refuses 497 ls (.int y :: .int x :: st) σ = if ¬ x = y then xR mL_refuses 504 ls (st) σ else xR mL_refuses 500 ls (st) σ := y_icmp_ne xe_L_refuses dL_refuses_497 (by decide)
theorem r_L_refuses_500 {ls : xL} {st : List Value} {σ : xS}  : xR mL_refuses 500 ls (st) σ = xR mL_refuses 501 ls (.int (nI 1) :: st) σ := y_iconst xe_L_refuses dL_refuses_500 (by decide +kernel)
theorem r_L_refuses_501 {ls : xL} {st : List Value} {σ : xS}  : xR mL_refuses 501 ls (st) σ = xR mL_refuses 505 ls (st) σ := y_goto xe_L_refuses dL_refuses_501 (by decide)
theorem r_L_refuses_504 {ls : xL} {st : List Value} {σ : xS}  : xR mL_refuses 504 ls (st) σ = xR mL_refuses 505 ls (.int (nI 0) :: st) σ := y_iconst xe_L_refuses dL_refuses_504 (by decide +kernel)
theorem r_L_refuses_505 {ls : xL} {σ : xS} {x : Int32} : xR mL_refuses 505 ls ([.int x]) σ = if x = 0 ∨ x = 1 then some (.inl (some (.int x)), σ) else none := y_zret xe_L_refuses dL_refuses_505 rfl
theorem r_L_setting_0 {ls : xL} {st : List Value} {σ : xS}  : xR mL_setting 0 ls (st) σ = gA (lget ls 0) (fun x => xR mL_setting 1 ls (.ref x :: st) σ) := y_aload_n xe_L_setting dL_setting_0
theorem r_L_setting_1 {ls : xL} {st : List Value} {σ : xS}  : xR mL_setting 1 ls (st) σ = gI (lget ls 1) (fun x => xR mL_setting 2 ls (.int x :: st) σ) := y_iload_n xe_L_setting dL_setting_1
theorem r_L_setting_2 {ls : xL} {σ : xS} {a : Nat} {x0 : Int32} (hc : hcls σ a = some 5) : xR mL_setting 2 ls [.int x0, .ref a] σ = (match xC1 mX6_setting [.ref a, .int x0] σ with
      | none => none
      | some (.inl v, σ2) => xR mL_setting 5 ls (v.toList ++ []) σ2
      | some (.inr x, σ2) => (match xcat mL_setting 2 x ls with
        | some (pc2, l2) => xR mL_setting pc2 l2 [] σ2
        | none => none)) := y_cT (as := [.ref a, .int x0]) (as2 := [.int x0]) (r := (vwCl[5]?).getD default) xe_L_setting dL_setting_2 cl_8_64 rfl rfl rfl rfl xe_X6_setting ⟨Nat.le_of_ble_eq_true rfl, Nat.le_of_ble_eq_true rfl⟩ (Nat.le_of_ble_eq_true rfl) (Nat.le_of_ble_eq_true rfl) hc
theorem r_L_setting_5 {ls : xL} {σ : xS} {x : Int32} : xR mL_setting 5 ls ([.int x]) σ = some (.inl (some (.int x)), σ) := y_iret xe_L_setting dL_setting_5 rfl
theorem r_L_setting_7 {ls : xL} {st : List Value} {σ : xS}  : xR mL_setting 7 ls (st) σ = xR mL_setting 9 ls (.int (-2) :: st) σ := y_bipush xe_L_setting dL_setting_7 (by decide +kernel)
theorem r_L_setting_9 {ls : xL} {σ : xS} {x : Int32} : xR mL_setting 9 ls ([.int x]) σ = some (.inl (some (.int x)), σ) := y_iret xe_L_setting dL_setting_9 rfl
theorem r_L_law_0 {ls : xL} {st : List Value} {σ : xS}  : xR mL_law 0 ls (st) σ = if σ.2.2.1 = 0 ∧ σ.2.1 < 999 then xR mL_law 3 ls (.ref σ.2.1 :: st) (hnew σ (.inr (5, xblk 5)) (xblk 5).length) else none := y_new xe_L_law dL_law_0 nl_8_10
theorem r_L_law_3I {ls : xL} {st : List Value} {σ : xS} {x : Int32} : xR mL_law 3 ls (.int x :: st) σ = xR mL_law 4 ls (.int x :: .int x :: st) σ := y_dupI xe_L_law dL_law_3
theorem r_L_law_3A {ls : xL} {st : List Value} {σ : xS} {x : Nat} : xR mL_law 3 ls (.ref x :: st) σ = xR mL_law 4 ls (.ref x :: .ref x :: st) σ := y_dupA xe_L_law dL_law_3
theorem r_L_law_4 {ls : xL} {st : List Value} {σ : xS} {a : Nat}  : xR mL_law 4 ls (.ref a :: st) σ = yC (xwid st) (xC1 mX6_init [.ref a] σ) (fun v τ => xR mL_law 7 ls (v.toList ++ st) τ) := y_cI (as := [.ref a]) (as2 := []) xe_L_law dL_law_4 cl_8_138 rfl rfl xe_X6_init ⟨Nat.le_of_ble_eq_true rfl, Nat.le_of_ble_eq_true rfl⟩ (Nat.le_of_ble_eq_true rfl) (by decide)
theorem r_L_law_7 {ls : xL} {st : List Value} {σ : xS} {x : Nat} : xR mL_law 7 ls (.ref x :: st) σ = (lst1 ls 1 (some (.ref x))).bind (fun l => xR mL_law 8 l (st) σ) := y_astore_n xe_L_law dL_law_7
theorem r_L_law_8 {ls : xL} {st : List Value} {σ : xS}  : xR mL_law 8 ls (st) σ = if σ.2.2.1 = 0 ∧ σ.2.1 < 999 then xR mL_law 11 ls (.ref σ.2.1 :: st) (hnew σ (.inr (5, xblk 5)) (xblk 5).length) else none := y_new xe_L_law dL_law_8 nl_8_10
theorem r_L_law_11I {ls : xL} {st : List Value} {σ : xS} {x : Int32} : xR mL_law 11 ls (.int x :: st) σ = xR mL_law 12 ls (.int x :: .int x :: st) σ := y_dupI xe_L_law dL_law_11
theorem r_L_law_11A {ls : xL} {st : List Value} {σ : xS} {x : Nat} : xR mL_law 11 ls (.ref x :: st) σ = xR mL_law 12 ls (.ref x :: .ref x :: st) σ := y_dupA xe_L_law dL_law_11
theorem r_L_law_12 {ls : xL} {st : List Value} {σ : xS} {a : Nat}  : xR mL_law 12 ls (.ref a :: st) σ = yC (xwid st) (xC1 mX6_init [.ref a] σ) (fun v τ => xR mL_law 15 ls (v.toList ++ st) τ) := y_cI (as := [.ref a]) (as2 := []) xe_L_law dL_law_12 cl_8_138 rfl rfl xe_X6_init ⟨Nat.le_of_ble_eq_true rfl, Nat.le_of_ble_eq_true rfl⟩ (Nat.le_of_ble_eq_true rfl) (by decide)
theorem r_L_law_15 {ls : xL} {st : List Value} {σ : xS} {x : Nat} : xR mL_law 15 ls (.ref x :: st) σ = (lst1 ls 2 (some (.ref x))).bind (fun l => xR mL_law 16 l (st) σ) := y_astore_n xe_L_law dL_law_15
theorem r_L_law_16 {ls : xL} {st : List Value} {σ : xS}  : xR mL_law 16 ls (st) σ = gA (lget ls 1) (fun x => xR mL_law 17 ls (.ref x :: st) σ) := y_aload_n xe_L_law dL_law_16
theorem r_L_law_17 {ls : xL} {st : List Value} {σ : xS} {x0 : Nat} : xR mL_law 17 ls (.ref x0 :: st) σ = yC (xwid st) (xC1 mL_undo [.ref x0] σ) (fun v τ => xR mL_law 20 ls (v.toList ++ st) τ) := y_cL (as := [.ref x0]) xe_L_law dL_law_17 cl_8_85 rfl xe_L_undo ⟨Nat.le_of_ble_eq_true rfl, Nat.le_of_ble_eq_true rfl⟩ (Nat.le_of_ble_eq_true rfl) (by decide)
theorem r_L_law_20 {ls : xL} {st : List Value} {σ : xS}  : xR mL_law 20 ls (st) σ = xR mL_law 22 ls (.int (-2) :: st) σ := y_bipush xe_L_law dL_law_20 (by decide +kernel)
theorem r_L_law_22 {ls : xL} {st : List Value} {σ : xS} {x y : Int32} : xR mL_law 22 ls (.int y :: .int x :: st) σ = if ¬ x = y then xR mL_law 90 ls (st) σ else xR mL_law 25 ls (st) σ := y_icmp_ne xe_L_law dL_law_22 (by decide)
theorem r_L_law_25 {ls : xL} {st : List Value} {σ : xS}  : xR mL_law 25 ls (st) σ = gA (lget ls 1) (fun x => xR mL_law 26 ls (.ref x :: st) σ) := y_aload_n xe_L_law dL_law_25
theorem r_L_law_26 {ls : xL} {st : List Value} {σ : xS} {x0 : Nat} : xR mL_law 26 ls (.ref x0 :: st) σ = yC (xwid st) (xC1 mL_goBack [.ref x0] σ) (fun v τ => xR mL_law 29 ls (v.toList ++ st) τ) := y_cL (as := [.ref x0]) xe_L_law dL_law_26 cl_8_91 rfl xe_L_goBack ⟨Nat.le_of_ble_eq_true rfl, Nat.le_of_ble_eq_true rfl⟩ (Nat.le_of_ble_eq_true rfl) (by decide)
theorem r_L_law_29 {ls : xL} {st : List Value} {σ : xS}  : xR mL_law 29 ls (st) σ = xR mL_law 31 ls (.int (-2) :: st) σ := y_bipush xe_L_law dL_law_29 (by decide +kernel)
theorem r_L_law_31 {ls : xL} {st : List Value} {σ : xS} {x y : Int32} : xR mL_law 31 ls (.int y :: .int x :: st) σ = if ¬ x = y then xR mL_law 90 ls (st) σ else xR mL_law 34 ls (st) σ := y_icmp_ne xe_L_law dL_law_31 (by decide)
theorem r_L_law_34 {ls : xL} {st : List Value} {σ : xS}  : xR mL_law 34 ls (st) σ = gA (lget ls 1) (fun x => xR mL_law 35 ls (.ref x :: st) σ) := y_aload_n xe_L_law dL_law_34
theorem r_L_law_35 {ls : xL} {st : List Value} {σ : xS} {a : Nat}  : xR mL_law 35 ls (.ref a :: st) σ = yV (hcls σ a) 5 (xwid st) (xC1 mX6_firstError [.ref a] σ) (fun v τ => xR mL_law 38 ls (v.toList ++ st) τ) := y_cV (as := [.ref a]) (as2 := []) (r := (vwCl[5]?).getD default) xe_L_law dL_law_35 cl_8_99 rfl rfl rfl rfl xe_X6_firstError ⟨Nat.le_of_ble_eq_true rfl, Nat.le_of_ble_eq_true rfl⟩ (Nat.le_of_ble_eq_true rfl) (by decide)
theorem r_L_law_38 {ls : xL} {st : List Value} {σ : xS} {x : Int32} : xR mL_law 38 ls (.int x :: st) σ = if ¬ x = 0 then xR mL_law 90 ls (st) σ else xR mL_law 41 ls (st) σ := y_if_ne xe_L_law dL_law_38 (by decide)
theorem r_L_law_41 {ls : xL} {st : List Value} {σ : xS}  : xR mL_law 41 ls (st) σ = gA (lget ls 1) (fun x => xR mL_law 42 ls (.ref x :: st) σ) := y_aload_n xe_L_law dL_law_41
theorem r_L_law_42 {ls : xL} {st : List Value} {σ : xS} {x0 : Nat} : xR mL_law 42 ls (.ref x0 :: st) σ = yC (xwid st) (xC1 mL_play [.ref x0] σ) (fun v τ => xR mL_law 45 ls (v.toList ++ st) τ) := y_cL (as := [.ref x0]) xe_L_law dL_law_42 cl_8_102 rfl xe_L_play ⟨Nat.le_of_ble_eq_true rfl, Nat.le_of_ble_eq_true rfl⟩ (Nat.le_of_ble_eq_true rfl) (by decide)
theorem r_L_law_45 {ls : xL} {st : List Value} {σ : xS}  : xR mL_law 45 ls (st) σ = xR mL_law 47 ls (.int (-2) :: st) σ := y_bipush xe_L_law dL_law_45 (by decide +kernel)
theorem r_L_law_47 {ls : xL} {st : List Value} {σ : xS} {x y : Int32} : xR mL_law 47 ls (.int y :: .int x :: st) σ = if ¬ x = y then xR mL_law 90 ls (st) σ else xR mL_law 50 ls (st) σ := y_icmp_ne xe_L_law dL_law_47 (by decide)
theorem r_L_law_50 {ls : xL} {st : List Value} {σ : xS}  : xR mL_law 50 ls (st) σ = gA (lget ls 1) (fun x => xR mL_law 51 ls (.ref x :: st) σ) := y_aload_n xe_L_law dL_law_50
theorem r_L_law_51 {ls : xL} {st : List Value} {σ : xS} {a : Nat}  : xR mL_law 51 ls (.ref a :: st) σ = yV (hcls σ a) 5 (xwid st) (xC1 mX6_calm [.ref a] σ) (fun v τ => xR mL_law 54 ls (v.toList ++ st) τ) := y_cV (as := [.ref a]) (as2 := []) (r := (vwCl[5]?).getD default) xe_L_law dL_law_51 cl_8_123 rfl rfl rfl rfl xe_X6_calm ⟨Nat.le_of_ble_eq_true rfl, Nat.le_of_ble_eq_true rfl⟩ (Nat.le_of_ble_eq_true rfl) (by decide)
theorem r_L_law_54 {ls : xL} {st : List Value} {σ : xS} {x : Int32} : xR mL_law 54 ls (.int x :: st) σ = if ¬ x = 0 then xR mL_law 90 ls (st) σ else xR mL_law 57 ls (st) σ := y_if_ne xe_L_law dL_law_54 (by decide)
theorem r_L_law_57 {ls : xL} {st : List Value} {σ : xS}  : xR mL_law 57 ls (st) σ = gA (lget ls 1) (fun x => xR mL_law 58 ls (.ref x :: st) σ) := y_aload_n xe_L_law dL_law_57
theorem r_L_law_58 {ls : xL} {st : List Value} {σ : xS}  : xR mL_law 58 ls (st) σ = xR mL_law 59 ls (.int (nI 0) :: st) σ := y_iconst xe_L_law dL_law_58 (by decide +kernel)
theorem r_L_law_59 {ls : xL} {st : List Value} {σ : xS} {x0 : Nat} {x1 : Int32} : xR mL_law 59 ls (.int x1 :: .ref x0 :: st) σ = yC (xwid st) (xC1 mL_best [.ref x0, .int x1] σ) (fun v τ => xR mL_law 62 ls (v.toList ++ st) τ) := y_cL (as := [.ref x0, .int x1]) xe_L_law dL_law_59 cl_8_134 rfl xe_L_best ⟨Nat.le_of_ble_eq_true rfl, Nat.le_of_ble_eq_true rfl⟩ (Nat.le_of_ble_eq_true rfl) (by decide)
theorem r_L_law_62 {ls : xL} {st : List Value} {σ : xS}  : xR mL_law 62 ls (st) σ = xR mL_law 64 ls (.int (nI 11) :: st) σ := y_bipush xe_L_law dL_law_62 (by decide +kernel)
theorem r_L_law_64 {ls : xL} {st : List Value} {σ : xS} {x y : Int32} : xR mL_law 64 ls (.int y :: .int x :: st) σ = if ¬ x = y then xR mL_law 90 ls (st) σ else xR mL_law 67 ls (st) σ := y_icmp_ne xe_L_law dL_law_64 (by decide)
theorem r_L_law_67 {ls : xL} {st : List Value} {σ : xS}  : xR mL_law 67 ls (st) σ = gA (lget ls 1) (fun x => xR mL_law 68 ls (.ref x :: st) σ) := y_aload_n xe_L_law dL_law_67
theorem r_L_law_68 {ls : xL} {st : List Value} {σ : xS} {a : Nat}  : xR mL_law 68 ls (.ref a :: st) σ = yV (hcls σ a) 5 (xwid st) (xC1 mX6_digest [.ref a] σ) (fun v τ => xR mL_law 71 ls (v.toList ++ st) τ) := y_cV (as := [.ref a]) (as2 := []) (r := (vwCl[5]?).getD default) xe_L_law dL_law_68 cl_8_139 rfl rfl rfl rfl xe_X6_digest ⟨Nat.le_of_ble_eq_true rfl, Nat.le_of_ble_eq_true rfl⟩ (Nat.le_of_ble_eq_true rfl) (by decide)
theorem r_L_law_71 {ls : xL} {st : List Value} {σ : xS}  : xR mL_law 71 ls (st) σ = gA (lget ls 2) (fun x => xR mL_law 72 ls (.ref x :: st) σ) := y_aload_n xe_L_law dL_law_71
theorem r_L_law_72 {ls : xL} {st : List Value} {σ : xS} {a : Nat}  : xR mL_law 72 ls (.ref a :: st) σ = yV (hcls σ a) 5 (xwid st) (xC1 mX6_digest [.ref a] σ) (fun v τ => xR mL_law 75 ls (v.toList ++ st) τ) := y_cV (as := [.ref a]) (as2 := []) (r := (vwCl[5]?).getD default) xe_L_law dL_law_72 cl_8_139 rfl rfl rfl rfl xe_X6_digest ⟨Nat.le_of_ble_eq_true rfl, Nat.le_of_ble_eq_true rfl⟩ (Nat.le_of_ble_eq_true rfl) (by decide)
theorem r_L_law_75 {ls : xL} {st : List Value} {σ : xS} {x y : Int64} : xR mL_law 75 ls (.long y :: .long x :: st) σ = xR mL_law 76 ls (.int (lg_cmp x y) :: st) σ := y_lcmp xe_L_law dL_law_75
theorem r_L_law_76 {ls : xL} {st : List Value} {σ : xS} {x : Int32} : xR mL_law 76 ls (.int x :: st) σ = if ¬ x = 0 then xR mL_law 90 ls (st) σ else xR mL_law 79 ls (st) σ := y_if_ne xe_L_law dL_law_76 (by decide)
theorem r_L_law_79 {ls : xL} {st : List Value} {σ : xS}  : xR mL_law 79 ls (st) σ = gA (lget ls 1) (fun x => xR mL_law 80 ls (.ref x :: st) σ) := y_aload_n xe_L_law dL_law_79
theorem r_L_law_80 {ls : xL} {st : List Value} {σ : xS} {x0 : Nat} : xR mL_law 80 ls (.ref x0 :: st) σ = yC (xwid st) (xC1 mL_hangs [.ref x0] σ) (fun v τ => xR mL_law 83 ls (v.toList ++ st) τ) := y_cM (as := [.ref x0]) xe_L_law dL_law_80 cl_8_143 rfl xe_L_hangs ⟨Nat.le_of_ble_eq_true rfl, Nat.le_of_ble_eq_true rfl⟩ (Nat.le_of_ble_eq_true rfl) (by decide) (by decide)
theorem r_L_law_83 {ls : xL} {st : List Value} {σ : xS} {x : Int32} : xR mL_law 83 ls (.int x :: st) σ = if x = 0 then xR mL_law 90 ls (st) σ else xR mL_law 86 ls (st) σ := y_if_eq xe_L_law dL_law_83 (by decide)
theorem r_L_law_86 {ls : xL} {st : List Value} {σ : xS}  : xR mL_law 86 ls (st) σ = xR mL_law 87 ls (.int (nI 1) :: st) σ := y_iconst xe_L_law dL_law_86 (by decide +kernel)
theorem r_L_law_87 {ls : xL} {st : List Value} {σ : xS}  : xR mL_law 87 ls (st) σ = xR mL_law 91 ls (st) σ := y_goto xe_L_law dL_law_87 (by decide)
theorem r_L_law_90 {ls : xL} {st : List Value} {σ : xS}  : xR mL_law 90 ls (st) σ = xR mL_law 91 ls (.int (nI 0) :: st) σ := y_iconst xe_L_law dL_law_90 (by decide +kernel)
theorem r_L_law_91 {ls : xL} {st : List Value} {σ : xS} {x : Int32} : xR mL_law 91 ls (.int x :: st) σ = (lst1 ls 3 (some (.int x))).bind (fun l => xR mL_law 92 l (st) σ) := y_istore_n xe_L_law dL_law_91
theorem r_L_law_92 {ls : xL} {st : List Value} {σ : xS}  : xR mL_law 92 ls (st) σ = xR mL_law 93 ls (.int (nI 0) :: st) σ := y_iconst xe_L_law dL_law_92 (by decide +kernel)
theorem r_L_law_93 {ls : xL} {st : List Value} {σ : xS} {x : Int32} : xR mL_law 93 ls (.int x :: st) σ = (lst1 ls 4 (some (.int x))).bind (fun l => xR mL_law 95 l (st) σ) := y_istore xe_L_law dL_law_93
theorem r_L_law_95 {ls : xL} {st : List Value} {σ : xS}  : xR mL_law 95 ls (st) σ = gI (lget ls 4) (fun x => xR mL_law 97 ls (.int x :: st) σ) := y_iload xe_L_law dL_law_95
theorem r_L_law_97 {ls : xL} {st : List Value} {σ : xS}  : xR mL_law 97 ls (st) σ = xR mL_law 99 ls (.int (nI 30) :: st) σ := y_bipush xe_L_law dL_law_97 (by decide +kernel)
theorem r_L_law_99 {ls : xL} {st : List Value} {σ : xS} {x y : Int32} : xR mL_law 99 ls (.int y :: .int x :: st) σ = if y ≤ x then xR mL_law 204 ls (st) σ else xR mL_law 102 ls (st) σ := y_icmp_ge xe_L_law dL_law_99 (by decide)
theorem r_L_law_102 {ls : xL} {st : List Value} {σ : xS}  : xR mL_law 102 ls (st) σ = gI (lget ls 3) (fun x => xR mL_law 103 ls (.int x :: st) σ) := y_iload_n xe_L_law dL_law_102
theorem r_L_law_103 {ls : xL} {st : List Value} {σ : xS} {x : Int32} : xR mL_law 103 ls (.int x :: st) σ = if x = 0 then xR mL_law 204 ls (st) σ else xR mL_law 106 ls (st) σ := y_if_eq xe_L_law dL_law_103 (by decide)
theorem r_L_law_106 {ls : xL} {st : List Value} {σ : xS}  : xR mL_law 106 ls (st) σ = gA (lget ls 0) (fun x => xR mL_law 107 ls (.ref x :: st) σ) := y_aload_n xe_L_law dL_law_106
theorem r_L_law_107 {ls : xL} {st : List Value} {σ : xS}  : xR mL_law 107 ls (st) σ = gI (lget ls 4) (fun x => xR mL_law 109 ls (.int x :: st) σ) := y_iload xe_L_law dL_law_107
theorem r_L_law_109 {ls : xL} {st : List Value} {σ : xS} {x0 : Nat} {x1 : Int32} : xR mL_law 109 ls (.int x1 :: .ref x0 :: st) σ = yC (xwid st) (xC1 mL_cell [.ref x0, .int x1] σ) (fun v τ => xR mL_law 112 ls (v.toList ++ st) τ) := y_cM (as := [.ref x0, .int x1]) xe_L_law dL_law_109 cl_8_147 rfl xe_L_cell ⟨Nat.le_of_ble_eq_true rfl, Nat.le_of_ble_eq_true rfl⟩ (Nat.le_of_ble_eq_true rfl) (by decide) (by decide)
theorem r_L_law_112 {ls : xL} {st : List Value} {σ : xS} {x : Int32} : xR mL_law 112 ls (.int x :: st) σ = (lst1 ls 5 (some (.int x))).bind (fun l => xR mL_law 114 l (st) σ) := y_istore xe_L_law dL_law_112
theorem r_L_law_114 {ls : xL} {st : List Value} {σ : xS}  : xR mL_law 114 ls (st) σ = gA (lget ls 1) (fun x => xR mL_law 115 ls (.ref x :: st) σ) := y_aload_n xe_L_law dL_law_114
theorem r_L_law_115 {ls : xL} {st : List Value} {σ : xS}  : xR mL_law 115 ls (st) σ = gI (lget ls 5) (fun x => xR mL_law 117 ls (.int x :: st) σ) := y_iload xe_L_law dL_law_115
theorem r_L_law_117 {ls : xL} {st : List Value} {σ : xS} {x0 : Nat} {x1 : Int32} : xR mL_law 117 ls (.int x1 :: .ref x0 :: st) σ = yC (xwid st) (xC1 mL_acts [.ref x0, .int x1] σ) (fun v τ => xR mL_law 120 ls (v.toList ++ st) τ) := y_cM (as := [.ref x0, .int x1]) xe_L_law dL_law_117 cl_8_150 rfl xe_L_acts ⟨Nat.le_of_ble_eq_true rfl, Nat.le_of_ble_eq_true rfl⟩ (Nat.le_of_ble_eq_true rfl) (by decide) (by decide)
theorem r_L_law_120 {ls : xL} {st : List Value} {σ : xS} {x : Int32} : xR mL_law 120 ls (.int x :: st) σ = (lst1 ls 6 (some (.int x))).bind (fun l => xR mL_law 122 l (st) σ) := y_istore xe_L_law dL_law_120
theorem r_L_law_122 {ls : xL} {st : List Value} {σ : xS}  : xR mL_law 122 ls (st) σ = gI (lget ls 4) (fun x => xR mL_law 124 ls (.int x :: st) σ) := y_iload xe_L_law dL_law_122
theorem r_L_law_124 {ls : xL} {st : List Value} {σ : xS}  : xR mL_law 124 ls (st) σ = xR mL_law 125 ls (.int (nI 3) :: st) σ := y_iconst xe_L_law dL_law_124 (by decide +kernel)
theorem r_L_law_125 {ls : xL} {st : List Value} {σ : xS} {x y : Int32} : xR mL_law 125 ls (.int y :: .int x :: st) σ = if y = 0 then none else xR mL_law 126 ls (.int (x - x / y * y) :: st) σ := y_irem xe_L_law dL_law_125
theorem r_L_law_126 {ls : xL} {st : List Value} {σ : xS} {x : Int32} : xR mL_law 126 ls (.int x :: st) σ = if 0 < x then xR mL_law 141 ls (st) σ else xR mL_law 129 ls (st) σ := y_if_gt xe_L_law dL_law_126 (by decide)
theorem r_L_law_129 {ls : xL} {st : List Value} {σ : xS}  : xR mL_law 129 ls (st) σ = gA (lget ls 2) (fun x => xR mL_law 130 ls (.ref x :: st) σ) := y_aload_n xe_L_law dL_law_129
theorem r_L_law_130 {ls : xL} {st : List Value} {σ : xS}  : xR mL_law 130 ls (st) σ = gI (lget ls 5) (fun x => xR mL_law 132 ls (.int x :: st) σ) := y_iload xe_L_law dL_law_130
theorem r_L_law_132 {ls : xL} {st : List Value} {σ : xS}  : xR mL_law 132 ls (st) σ = xR mL_law 134 ls (.int (100000) :: st) σ := y_ldc xe_L_law dL_law_132 kl_8_153
theorem r_L_law_134 {ls : xL} {st : List Value} {σ : xS} {x y : Int32} : xR mL_law 134 ls (.int y :: .int x :: st) σ = if y = 0 then none else xR mL_law 135 ls (.int (x - x / y * y) :: st) σ := y_irem xe_L_law dL_law_134
theorem r_L_law_135 {ls : xL} {st : List Value} {σ : xS} {x0 : Nat} {x1 : Int32} : xR mL_law 135 ls (.int x1 :: .ref x0 :: st) σ = yC (xwid st) (xC1 mL_refuses [.ref x0, .int x1] σ) (fun v τ => xR mL_law 138 ls (v.toList ++ st) τ) := y_cM (as := [.ref x0, .int x1]) xe_L_law dL_law_135 cl_8_154 rfl xe_L_refuses ⟨Nat.le_of_ble_eq_true rfl, Nat.le_of_ble_eq_true rfl⟩ (Nat.le_of_ble_eq_true rfl) (by decide) (by decide)
theorem r_L_law_138 {ls : xL} {st : List Value} {σ : xS} {x : Int32} : xR mL_law 138 ls (.int x :: st) σ = if x = 0 then xR mL_law 196 ls (st) σ else xR mL_law 141 ls (st) σ := y_if_eq xe_L_law dL_law_138 (by decide)
theorem r_L_law_141 {ls : xL} {st : List Value} {σ : xS}  : xR mL_law 141 ls (st) σ = gA (lget ls 2) (fun x => xR mL_law 142 ls (.ref x :: st) σ) := y_aload_n xe_L_law dL_law_141
theorem r_L_law_142 {ls : xL} {st : List Value} {σ : xS}  : xR mL_law 142 ls (st) σ = gI (lget ls 5) (fun x => xR mL_law 144 ls (.int x :: st) σ) := y_iload xe_L_law dL_law_142
theorem r_L_law_144 {ls : xL} {st : List Value} {σ : xS} {x0 : Nat} {x1 : Int32} : xR mL_law 144 ls (.int x1 :: .ref x0 :: st) σ = yC (xwid st) (xC1 mL_acts [.ref x0, .int x1] σ) (fun v τ => xR mL_law 147 ls (v.toList ++ st) τ) := y_cM (as := [.ref x0, .int x1]) xe_L_law dL_law_144 cl_8_150 rfl xe_L_acts ⟨Nat.le_of_ble_eq_true rfl, Nat.le_of_ble_eq_true rfl⟩ (Nat.le_of_ble_eq_true rfl) (by decide) (by decide)
theorem r_L_law_147 {ls : xL} {st : List Value} {σ : xS}  : xR mL_law 147 ls (st) σ = gI (lget ls 6) (fun x => xR mL_law 149 ls (.int x :: st) σ) := y_iload xe_L_law dL_law_147
theorem r_L_law_149 {ls : xL} {st : List Value} {σ : xS} {x y : Int32} : xR mL_law 149 ls (.int y :: .int x :: st) σ = if ¬ x = y then xR mL_law 196 ls (st) σ else xR mL_law 152 ls (st) σ := y_icmp_ne xe_L_law dL_law_149 (by decide)
theorem r_L_law_152 {ls : xL} {st : List Value} {σ : xS}  : xR mL_law 152 ls (st) σ = gA (lget ls 1) (fun x => xR mL_law 153 ls (.ref x :: st) σ) := y_aload_n xe_L_law dL_law_152
theorem r_L_law_153 {ls : xL} {st : List Value} {σ : xS}  : xR mL_law 153 ls (st) σ = xR mL_law 155 ls (.int (nI 11) :: st) σ := y_bipush xe_L_law dL_law_153 (by decide +kernel)
theorem r_L_law_155 {ls : xL} {st : List Value} {σ : xS} {x0 : Nat} {x1 : Int32} : xR mL_law 155 ls (.int x1 :: .ref x0 :: st) σ = yC (xwid st) (xC1 mL_count [.ref x0, .int x1] σ) (fun v τ => xR mL_law 158 ls (v.toList ++ st) τ) := y_cL (as := [.ref x0, .int x1]) xe_L_law dL_law_155 cl_8_113 rfl xe_L_count ⟨Nat.le_of_ble_eq_true rfl, Nat.le_of_ble_eq_true rfl⟩ (Nat.le_of_ble_eq_true rfl) (by decide)
theorem r_L_law_158 {ls : xL} {st : List Value} {σ : xS}  : xR mL_law 158 ls (st) σ = gA (lget ls 2) (fun x => xR mL_law 159 ls (.ref x :: st) σ) := y_aload_n xe_L_law dL_law_158
theorem r_L_law_159 {ls : xL} {st : List Value} {σ : xS}  : xR mL_law 159 ls (st) σ = xR mL_law 161 ls (.int (nI 11) :: st) σ := y_bipush xe_L_law dL_law_159 (by decide +kernel)
theorem r_L_law_161 {ls : xL} {st : List Value} {σ : xS} {x0 : Nat} {x1 : Int32} : xR mL_law 161 ls (.int x1 :: .ref x0 :: st) σ = yC (xwid st) (xC1 mL_count [.ref x0, .int x1] σ) (fun v τ => xR mL_law 164 ls (v.toList ++ st) τ) := y_cL (as := [.ref x0, .int x1]) xe_L_law dL_law_161 cl_8_113 rfl xe_L_count ⟨Nat.le_of_ble_eq_true rfl, Nat.le_of_ble_eq_true rfl⟩ (Nat.le_of_ble_eq_true rfl) (by decide)
theorem r_L_law_164 {ls : xL} {st : List Value} {σ : xS} {x y : Int32} : xR mL_law 164 ls (.int y :: .int x :: st) σ = if ¬ x = y then xR mL_law 196 ls (st) σ else xR mL_law 167 ls (st) σ := y_icmp_ne xe_L_law dL_law_164 (by decide)
theorem r_L_law_167 {ls : xL} {st : List Value} {σ : xS}  : xR mL_law 167 ls (st) σ = gI (lget ls 4) (fun x => xR mL_law 169 ls (.int x :: st) σ) := y_iload xe_L_law dL_law_167
theorem r_L_law_169 {ls : xL} {st : List Value} {σ : xS}  : xR mL_law 169 ls (st) σ = xR mL_law 170 ls (.int (nI 5) :: st) σ := y_iconst xe_L_law dL_law_169 (by decide +kernel)
theorem r_L_law_170 {ls : xL} {st : List Value} {σ : xS} {x y : Int32} : xR mL_law 170 ls (.int y :: .int x :: st) σ = if y = 0 then none else xR mL_law 171 ls (.int (x - x / y * y) :: st) σ := y_irem xe_L_law dL_law_170
theorem r_L_law_171 {ls : xL} {st : List Value} {σ : xS} {x : Int32} : xR mL_law 171 ls (.int x :: st) σ = if 0 < x then xR mL_law 192 ls (st) σ else xR mL_law 174 ls (st) σ := y_if_gt xe_L_law dL_law_171 (by decide)
theorem r_L_law_174 {ls : xL} {st : List Value} {σ : xS}  : xR mL_law 174 ls (st) σ = gI (lget ls 4) (fun x => xR mL_law 176 ls (.int x :: st) σ) := y_iload xe_L_law dL_law_174
theorem r_L_law_176 {ls : xL} {st : List Value} {σ : xS}  : xR mL_law 176 ls (st) σ = xR mL_law 177 ls (.int (nI 2) :: st) σ := y_iconst xe_L_law dL_law_176 (by decide +kernel)
theorem r_L_law_177 {ls : xL} {st : List Value} {σ : xS} {x y : Int32} : xR mL_law 177 ls (.int y :: .int x :: st) σ = if y = 0 then none else xR mL_law 178 ls (.int (x - x / y * y) :: st) σ := y_irem xe_L_law dL_law_177
theorem r_L_law_178 {ls : xL} {st : List Value} {σ : xS} {x : Int32} : xR mL_law 178 ls (.int x :: st) σ = if ¬ x = 0 then xR mL_law 185 ls (st) σ else xR mL_law 181 ls (st) σ := y_if_ne xe_L_law dL_law_178 (by decide)
theorem r_L_law_181 {ls : xL} {st : List Value} {σ : xS}  : xR mL_law 181 ls (st) σ = gA (lget ls 1) (fun x => xR mL_law 182 ls (.ref x :: st) σ) := y_aload_n xe_L_law dL_law_181
theorem r_L_law_182 {ls : xL} {st : List Value} {σ : xS}  : xR mL_law 182 ls (st) σ = xR mL_law 186 ls (st) σ := y_goto xe_L_law dL_law_182 (by decide)
theorem r_L_law_185 {ls : xL} {st : List Value} {σ : xS}  : xR mL_law 185 ls (st) σ = gA (lget ls 2) (fun x => xR mL_law 186 ls (.ref x :: st) σ) := y_aload_n xe_L_law dL_law_185
theorem r_L_law_186 {ls : xL} {st : List Value} {σ : xS} {x0 : Nat} : xR mL_law 186 ls (.ref x0 :: st) σ = yC (xwid st) (xC1 mL_hangs [.ref x0] σ) (fun v τ => xR mL_law 189 ls (v.toList ++ st) τ) := y_cM (as := [.ref x0]) xe_L_law dL_law_186 cl_8_143 rfl xe_L_hangs ⟨Nat.le_of_ble_eq_true rfl, Nat.le_of_ble_eq_true rfl⟩ (Nat.le_of_ble_eq_true rfl) (by decide) (by decide)
theorem r_L_law_189 {ls : xL} {st : List Value} {σ : xS} {x : Int32} : xR mL_law 189 ls (.int x :: st) σ = if x = 0 then xR mL_law 196 ls (st) σ else xR mL_law 192 ls (st) σ := y_if_eq xe_L_law dL_law_189 (by decide)
theorem r_L_law_192 {ls : xL} {st : List Value} {σ : xS}  : xR mL_law 192 ls (st) σ = xR mL_law 193 ls (.int (nI 1) :: st) σ := y_iconst xe_L_law dL_law_192 (by decide +kernel)
theorem r_L_law_193 {ls : xL} {st : List Value} {σ : xS}  : xR mL_law 193 ls (st) σ = xR mL_law 197 ls (st) σ := y_goto xe_L_law dL_law_193 (by decide)
theorem r_L_law_196 {ls : xL} {st : List Value} {σ : xS}  : xR mL_law 196 ls (st) σ = xR mL_law 197 ls (.int (nI 0) :: st) σ := y_iconst xe_L_law dL_law_196 (by decide +kernel)
theorem r_L_law_197 {ls : xL} {st : List Value} {σ : xS} {x : Int32} : xR mL_law 197 ls (.int x :: st) σ = (lst1 ls 3 (some (.int x))).bind (fun l => xR mL_law 198 l (st) σ) := y_istore_n xe_L_law dL_law_197
theorem r_L_law_198 {ls : xL} {st : List Value} {σ : xS}  : xR mL_law 198 ls (st) σ = gI (lget ls 4) (fun x => (lst1 ls 4 (some (.int (x + (nI 1))))).bind (fun l => xR mL_law 201 l (st) σ)) := y_iinc xe_L_law dL_law_198 (by decide +kernel)
theorem r_L_law_201 {ls : xL} {st : List Value} {σ : xS}  : xR mL_law 201 ls (st) σ = xR mL_law 95 ls (st) σ := y_goto xe_L_law dL_law_201 (by decide)
theorem r_L_law_204 {ls : xL} {st : List Value} {σ : xS}  : xR mL_law 204 ls (st) σ = gA (lget ls 1) (fun x => xR mL_law 205 ls (.ref x :: st) σ) := y_aload_n xe_L_law dL_law_204
theorem r_L_law_205 {ls : xL} {st : List Value} {σ : xS} {a : Nat}  : xR mL_law 205 ls (.ref a :: st) σ = yV (hcls σ a) 5 (xwid st) (xC1 mX6_clearBuffer [.ref a] σ) (fun v τ => xR mL_law 208 ls (v.toList ++ st) τ) := y_cV (as := [.ref a]) (as2 := []) (r := (vwCl[5]?).getD default) xe_L_law dL_law_205 cl_8_93 rfl rfl rfl rfl xe_X6_clearBuffer ⟨Nat.le_of_ble_eq_true rfl, Nat.le_of_ble_eq_true rfl⟩ (Nat.le_of_ble_eq_true rfl) (by decide)
theorem r_L_law_208 {ls : xL} {st : List Value} {σ : xS} {x : Int32} : xR mL_law 208 ls (.int x :: st) σ = (lst1 ls 4 (some (.int x))).bind (fun l => xR mL_law 210 l (st) σ) := y_istore xe_L_law dL_law_208
theorem r_L_law_210 {ls : xL} {st : List Value} {σ : xS}  : xR mL_law 210 ls (st) σ = gA (lget ls 2) (fun x => xR mL_law 211 ls (.ref x :: st) σ) := y_aload_n xe_L_law dL_law_210
theorem r_L_law_211 {ls : xL} {st : List Value} {σ : xS} {a : Nat}  : xR mL_law 211 ls (.ref a :: st) σ = yV (hcls σ a) 5 (xwid st) (xC1 mX6_clearBuffer [.ref a] σ) (fun v τ => xR mL_law 214 ls (v.toList ++ st) τ) := y_cV (as := [.ref a]) (as2 := []) (r := (vwCl[5]?).getD default) xe_L_law dL_law_211 cl_8_93 rfl rfl rfl rfl xe_X6_clearBuffer ⟨Nat.le_of_ble_eq_true rfl, Nat.le_of_ble_eq_true rfl⟩ (Nat.le_of_ble_eq_true rfl) (by decide)
theorem r_L_law_214 {ls : xL} {st : List Value} {σ : xS} {x : Int32} : xR mL_law 214 ls (.int x :: st) σ = (lst1 ls 5 (some (.int x))).bind (fun l => xR mL_law 216 l (st) σ) := y_istore xe_L_law dL_law_214
theorem r_L_law_216 {ls : xL} {st : List Value} {σ : xS}  : xR mL_law 216 ls (st) σ = gI (lget ls 3) (fun x => xR mL_law 217 ls (.int x :: st) σ) := y_iload_n xe_L_law dL_law_216
theorem r_L_law_217 {ls : xL} {st : List Value} {σ : xS} {x : Int32} : xR mL_law 217 ls (.int x :: st) σ = if x = 0 then xR mL_law 253 ls (st) σ else xR mL_law 220 ls (st) σ := y_if_eq xe_L_law dL_law_217 (by decide)
theorem r_L_law_220 {ls : xL} {st : List Value} {σ : xS}  : xR mL_law 220 ls (st) σ = gI (lget ls 4) (fun x => xR mL_law 222 ls (.int x :: st) σ) := y_iload xe_L_law dL_law_220
theorem r_L_law_222 {ls : xL} {st : List Value} {σ : xS} {x : Int32} : xR mL_law 222 ls (.int x :: st) σ = if x < 0 then xR mL_law 253 ls (st) σ else xR mL_law 225 ls (st) σ := y_if_lt xe_L_law dL_law_222 (by decide)
theorem r_L_law_225 {ls : xL} {st : List Value} {σ : xS}  : xR mL_law 225 ls (st) σ = gI (lget ls 5) (fun x => xR mL_law 227 ls (.int x :: st) σ) := y_iload xe_L_law dL_law_225
theorem r_L_law_227 {ls : xL} {st : List Value} {σ : xS} {x : Int32} : xR mL_law 227 ls (.int x :: st) σ = if x < 0 then xR mL_law 253 ls (st) σ else xR mL_law 230 ls (st) σ := y_if_lt xe_L_law dL_law_227 (by decide)
theorem r_L_law_230 {ls : xL} {st : List Value} {σ : xS}  : xR mL_law 230 ls (st) σ = gA (lget ls 1) (fun x => xR mL_law 231 ls (.ref x :: st) σ) := y_aload_n xe_L_law dL_law_230
theorem r_L_law_231 {ls : xL} {st : List Value} {σ : xS} {a : Nat}  : xR mL_law 231 ls (.ref a :: st) σ = yV (hcls σ a) 5 (xwid st) (xC1 mX6_digest [.ref a] σ) (fun v τ => xR mL_law 234 ls (v.toList ++ st) τ) := y_cV (as := [.ref a]) (as2 := []) (r := (vwCl[5]?).getD default) xe_L_law dL_law_231 cl_8_139 rfl rfl rfl rfl xe_X6_digest ⟨Nat.le_of_ble_eq_true rfl, Nat.le_of_ble_eq_true rfl⟩ (Nat.le_of_ble_eq_true rfl) (by decide)
theorem r_L_law_234 {ls : xL} {st : List Value} {σ : xS}  : xR mL_law 234 ls (st) σ = gA (lget ls 2) (fun x => xR mL_law 235 ls (.ref x :: st) σ) := y_aload_n xe_L_law dL_law_234
theorem r_L_law_235 {ls : xL} {st : List Value} {σ : xS} {a : Nat}  : xR mL_law 235 ls (.ref a :: st) σ = yV (hcls σ a) 5 (xwid st) (xC1 mX6_digest [.ref a] σ) (fun v τ => xR mL_law 238 ls (v.toList ++ st) τ) := y_cV (as := [.ref a]) (as2 := []) (r := (vwCl[5]?).getD default) xe_L_law dL_law_235 cl_8_139 rfl rfl rfl rfl xe_X6_digest ⟨Nat.le_of_ble_eq_true rfl, Nat.le_of_ble_eq_true rfl⟩ (Nat.le_of_ble_eq_true rfl) (by decide)
theorem r_L_law_238 {ls : xL} {st : List Value} {σ : xS} {x y : Int64} : xR mL_law 238 ls (.long y :: .long x :: st) σ = xR mL_law 239 ls (.int (lg_cmp x y) :: st) σ := y_lcmp xe_L_law dL_law_238
theorem r_L_law_239 {ls : xL} {st : List Value} {σ : xS} {x : Int32} : xR mL_law 239 ls (.int x :: st) σ = if ¬ x = 0 then xR mL_law 253 ls (st) σ else xR mL_law 242 ls (st) σ := y_if_ne xe_L_law dL_law_239 (by decide)
theorem r_L_law_242 {ls : xL} {st : List Value} {σ : xS}  : xR mL_law 242 ls (st) σ = gA (lget ls 1) (fun x => xR mL_law 243 ls (.ref x :: st) σ) := y_aload_n xe_L_law dL_law_242
theorem r_L_law_243 {ls : xL} {st : List Value} {σ : xS} {x0 : Nat} : xR mL_law 243 ls (.ref x0 :: st) σ = yC (xwid st) (xC1 mL_hangs [.ref x0] σ) (fun v τ => xR mL_law 246 ls (v.toList ++ st) τ) := y_cM (as := [.ref x0]) xe_L_law dL_law_243 cl_8_143 rfl xe_L_hangs ⟨Nat.le_of_ble_eq_true rfl, Nat.le_of_ble_eq_true rfl⟩ (Nat.le_of_ble_eq_true rfl) (by decide) (by decide)
theorem r_L_law_246 {ls : xL} {st : List Value} {σ : xS} {x : Int32} : xR mL_law 246 ls (.int x :: st) σ = if x = 0 then xR mL_law 253 ls (st) σ else xR mL_law 249 ls (st) σ := y_if_eq xe_L_law dL_law_246 (by decide)
theorem r_L_law_249 {ls : xL} {st : List Value} {σ : xS}  : xR mL_law 249 ls (st) σ = xR mL_law 250 ls (.int (nI 1) :: st) σ := y_iconst xe_L_law dL_law_249 (by decide +kernel)
theorem r_L_law_250 {ls : xL} {st : List Value} {σ : xS}  : xR mL_law 250 ls (st) σ = xR mL_law 254 ls (st) σ := y_goto xe_L_law dL_law_250 (by decide)
theorem r_L_law_253 {ls : xL} {st : List Value} {σ : xS}  : xR mL_law 253 ls (st) σ = xR mL_law 254 ls (.int (nI 0) :: st) σ := y_iconst xe_L_law dL_law_253 (by decide +kernel)
theorem r_L_law_254 {ls : xL} {σ : xS} {x : Int32} : xR mL_law 254 ls ([.int x]) σ = if x = 0 ∨ x = 1 then some (.inl (some (.int x)), σ) else none := y_zret xe_L_law dL_law_254 rfl
