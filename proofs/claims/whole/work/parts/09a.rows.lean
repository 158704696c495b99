/-! ===== the law and its catchers: rows, by program (wip/tools/gen_law.py) ===== -/
def hl9 (σ : xS) (a : Nat) : Option (Nat × (Nat → Int32)) := match hint σ 0 a with
  | some q => some q
  | none => hint σ 9 a
section Y9
variable {μ pc : Nat} {en : xMe} {ls : xL} {st : List Value} {σ τ : xS}
theorem y_iald9 {a : Nat} {i : Int32} (he : xM[μ]? = some en) (hd : decode en.2.1 pc = .ok (.iaload, 1)) (hk : en.2.2.2.2.2.2.2 = 3) : xR μ pc ls (.int i :: .ref a :: st) σ = (hl9 σ a).bind (fun q => if xin i q.1 = true then xR μ (pc + 1) ls (.int (q.2 i.toNatClampNeg) :: st) σ else none) := by
  rw [y0 he hd]
  show xK μ pc (match hint σ 0 a with
    | some q => if xin i q.1 = true then xnx (pc + 1) ls (.int (q.2 i.toNatClampNeg) :: st) σ else none
    | none => (hint σ 9 a).bind fun q => if en.2.2.2.2.2.2.2 = 3 ∧ xin i q.1 = true then xnx (pc + 1) ls (.int (q.2 i.toNatClampNeg) :: st) σ else none) = _
  unfold hl9
  cases hint σ 0 a with
  | some q => exact yk_if
  | none =>
    cases hint σ 9 a with
    | none => rfl
    | some q =>
      show xK μ pc (if en.2.2.2.2.2.2.2 = 3 ∧ xin i q.1 = true then _ else none) = (if xin i q.1 = true then _ else none)
      by_cases h : xin i q.1 = true
      · rw [if_pos ⟨hk, h⟩, if_pos h]; rfl
      · rw [if_neg (fun g => h g.2), if_neg h]; rfl
theorem y_alen9 {a : Nat} (he : xM[μ]? = some en) (hd : decode en.2.1 pc = .ok (.arraylength, 1)) (hk : en.2.2.2.2.2.2.2 = 3) : xR μ pc ls (.ref a :: st) σ = (hint σ 9 a).bind (fun q => xR μ (pc + 1) ls (.int (nI q.1) :: st) σ) := by
  rw [y0 he hd]
  show xK μ pc ((hint σ 9 a).bind fun q => if en.2.2.2.2.2.2.2 = 3 then xnx (pc + 1) ls (.int (nI q.1) :: st) σ else none) = _
  rw [yk_b]
  congr 1
  funext q
  rw [if_pos hk]
  rfl
theorem y_cL {k ν n p1 p2 p3 p4 : Nat} {f : xMe} {as st0 : List Value} (he : xM[μ]? = some en) (hd : decode en.2.1 pc = .ok (.invokestatic k, 3)) (hq : xfind xCL en.2.2.2.2.1 k = some (11, ν, n, p1, p2, p3, p4)) (hp : xpop n st0 = some (as, st)) (hf : xM[ν]? = some f) (hrm : (f.2.2.2.2.2.1 + 1 ≤ en.2.2.2.2.2.1 ∧ 8 + (f.2.2.1 + 11) + f.2.2.2.2.2.2.1 ≤ en.2.2.2.2.2.2.1)) (hs : (xspr as).length ≤ f.2.2.1) (hk : en.2.2.2.2.2.2.2 ≠ 2) : xR μ pc ls st0 σ = yC (xwid st) (xC1 ν as σ) (fun v τ => xR μ (pc + 3) ls (v.toList ++ st) τ) := by
  rw [y0 he hd]
  show xK μ pc ((xfind xCL en.2.2.2.2.1 k).bind _) = _
  rw [hq]
  show xK μ pc ((xpop n st0).bind _) = _
  rw [hp]
  exact yk_cal hf hrm hs he hk
theorem yk_calT {ν pc2 : Nat} {f : xMe} {as : List Value} (hf : xM[ν]? = some f) (hrm : (f.2.2.2.2.2.1 + 1 ≤ en.2.2.2.2.2.1 ∧ 8 + (f.2.2.1 + 11) + f.2.2.2.2.2.2.1 ≤ en.2.2.2.2.2.2.1)) (hs : (xspr as).length ≤ f.2.2.1) (hw : xwid st ≤ 8) : xK μ pc (xcal en ν as pc2 ls st σ) = (match xC1 ν as σ with
      | none => none
      | some (.inl v, σ2) => xR μ pc2 ls (v.toList ++ st) σ2
      | some (.inr x, σ2) => (match xcat μ pc x ls with
        | some (pc2, l2) => xR μ pc2 l2 [] σ2
        | none => none)) := by
  unfold xcal
  simp only [hf, Option.bind_some]
  rw [if_pos ⟨hw, hrm.1, hrm.2, hs⟩]
  rfl
theorem y_cT {k ν n p1 p2 p3 p4 a ci : Nat} {f : xMe} {r : vw_C} {as as2 st0 : List Value} (he : xM[μ]? = some en) (hd : decode en.2.1 pc = .ok (.invokevirtual k, 3)) (hq : xfind xCL en.2.2.2.2.1 k = some (10, ν, n, p1, p2, p3, p4)) (ha : as = .ref a :: as2) (hp : xpop n st0 = some (as2, .ref a :: st)) (hr : vwCl[ci]? = some r) (hn : r.1 = f.1.cls) (hf : xM[ν]? = some f) (hrm : (f.2.2.2.2.2.1 + 1 ≤ en.2.2.2.2.2.1 ∧ 8 + (f.2.2.1 + 11) + f.2.2.2.2.2.2.1 ≤ en.2.2.2.2.2.2.1)) (hs : (xspr as).length ≤ f.2.2.1) (hw : xwid st ≤ 8) (hc : hcls σ a = some ci) : xR μ pc ls st0 σ = (match xC1 ν as σ with
      | none => none
      | some (.inl v, σ2) => xR μ (pc + 3) ls (v.toList ++ st) σ2
      | some (.inr x, σ2) => (match xcat μ pc x ls with
        | some (pc2, l2) => xR μ pc2 l2 [] σ2
        | none => none)) := by
  subst ha
  rw [y0 he hd]
  show xK μ pc ((xfind xCL en.2.2.2.2.1 k).bind _) = _
  rw [hq]
  show xK μ pc ((xpop n st0).bind _) = _
  rw [hp]
  show xK μ pc ((xM[ν]?).bind fun f => if (hcls σ a).bind (fun c => (vwCl[c]?).map (fun r => r.1)) = some f.1.cls then xcal en ν (.ref a :: as2) (pc + 3) ls st σ else none) = _
  rw [hf, Option.bind_some, ← hn, hc, Option.bind_some, hr, if_pos (show Option.map (fun (r : vw_C) => r.1) (some r) = some r.1 from rfl)]
  exact yk_calT hf hrm hs hw
end Y9
set_option maxRecDepth 100000 in
theorem cl_8_7 : xfind xCL 8 7 = some (10, 84, 3, 577, 578, 579, 60) := rfl
set_option maxRecDepth 100000 in
theorem cl_8_17 : xfind xCL 8 17 = some (10, 90, 2, 684, 685, 686, 60) := rfl
set_option maxRecDepth 100000 in
theorem cl_8_23 : xfind xCL 8 23 = some (10, 92, 2, 710, 711, 712, 60) := rfl
set_option maxRecDepth 100000 in
theorem cl_8_26 : xfind xCL 8 26 = some (10, 94, 2, 719, 720, 721, 60) := rfl
set_option maxRecDepth 100000 in
theorem cl_8_29 : xfind xCL 8 29 = some (10, 99, 1, 737, 738, 739, 60) := rfl
set_option maxRecDepth 100000 in
theorem cl_8_33 : xfind xCL 8 33 = some (10, 103, 0, 754, 755, 756, 60) := rfl
set_option maxRecDepth 100000 in
theorem cl_8_37 : xfind xCL 8 37 = some (10, 107, 0, 772, 773, 774, 60) := rfl
set_option maxRecDepth 100000 in
theorem cl_8_40 : xfind xCL 8 40 = some (10, 109, 0, 780, 781, 782, 60) := rfl
set_option maxRecDepth 100000 in
theorem cl_8_43 : xfind xCL 8 43 = some (10, 112, 3, 792, 793, 794, 60) := rfl
set_option maxRecDepth 100000 in
theorem cl_8_46 : xfind xCL 8 46 = some (10, 114, 4, 800, 801, 802, 60) := rfl
set_option maxRecDepth 100000 in
theorem cl_8_50 : xfind xCL 8 50 = some (10, 117, 2, 812, 813, 814, 60) := rfl
set_option maxRecDepth 100000 in
theorem cl_8_53 : xfind xCL 8 53 = some (10, 119, 2, 819, 820, 821, 60) := rfl
set_option maxRecDepth 100000 in
theorem cl_8_56 : xfind xCL 8 56 = some (10, 122, 1, 831, 832, 833, 60) := rfl
set_option maxRecDepth 100000 in
theorem cl_8_59 : xfind xCL 8 59 = some (10, 124, 1, 838, 839, 840, 60) := rfl
set_option maxRecDepth 100000 in
theorem cl_8_62 : xfind xCL 8 62 = some (10, 126, 2, 845, 846, 847, 60) := rfl
set_option maxRecDepth 100000 in
theorem cl_8_65 : xfind xCL 8 65 = some (10, 128, 4, 853, 854, 855, 60) := rfl
set_option maxRecDepth 100000 in
theorem cl_8_68 : xfind xCL 8 68 = some (10, 130, 1, 861, 862, 863, 60) := rfl
set_option maxRecDepth 100000 in
theorem cl_8_71 : xfind xCL 8 71 = some (2, 0, 0, 81, 82, 60, 0) := rfl
set_option maxRecDepth 100000 in
theorem cl_8_74 : xfind xCL 8 74 = some (2, 131, 0, 867, 868, 66, 0) := rfl
set_option maxRecDepth 100000 in
theorem cl_8_75 : xfind xCL 8 75 = some (11, 83, 5, 572, 573, 59, 0) := rfl
set_option maxRecDepth 100000 in
theorem cl_8_80 : xfind xCL 8 80 = some (1, 134, 3, 919, 920, 921, 66) := rfl
set_option maxRecDepth 100000 in
theorem cl_8_81 : xfind xCL 8 81 = some (1, 133, 0, 915, 916, 917, 66) := rfl
set_option maxRecDepth 100000 in
theorem cl_8_84 : xfind xCL 8 84 = some (1, 6, 0, 245, 246, 247, 60) := rfl
set_option maxRecDepth 100000 in
theorem cl_8_87 : xfind xCL 8 87 = some (1, 154, 0, 993, 994, 995, 66) := rfl
set_option maxRecDepth 100000 in
theorem cl_8_88 : xfind xCL 8 88 = some (11, 89, 4, 680, 681, 59, 0) := rfl
set_option maxRecDepth 100000 in
theorem cl_8_91 : xfind xCL 8 91 = some (1, 157, 2, 1005, 1006, 1007, 66) := rfl
set_option maxRecDepth 100000 in
theorem cl_8_92 : xfind xCL 8 92 = some (11, 91, 4, 707, 708, 59, 0) := rfl
set_option maxRecDepth 100000 in
theorem cl_8_94 : xfind xCL 8 94 = some (1, 158, 2, 1009, 1010, 1011, 66) := rfl
set_option maxRecDepth 100000 in
theorem cl_8_95 : xfind xCL 8 95 = some (11, 93, 4, 716, 717, 59, 0) := rfl
set_option maxRecDepth 100000 in
theorem cl_8_97 : xfind xCL 8 97 = some (1, 159, 2, 1013, 1014, 1015, 66) := rfl
set_option maxRecDepth 100000 in
theorem cl_8_98 : xfind xCL 8 98 = some (11, 98, 3, 734, 735, 59, 0) := rfl
set_option maxRecDepth 100000 in
theorem cl_8_101 : xfind xCL 8 101 = some (1, 161, 1, 1020, 1021, 1022, 66) := rfl
set_option maxRecDepth 100000 in
theorem cl_8_102 : xfind xCL 8 102 = some (1, 18, 0, 296, 297, 298, 60) := rfl
set_option maxRecDepth 100000 in
theorem cl_8_105 : xfind xCL 8 105 = some (1, 162, 0, 1024, 1025, 1026, 66) := rfl
set_option maxRecDepth 100000 in
theorem cl_8_106 : xfind xCL 8 106 = some (1, 19, 0, 300, 301, 302, 60) := rfl
set_option maxRecDepth 100000 in
theorem cl_8_109 : xfind xCL 8 109 = some (1, 163, 0, 1028, 1029, 1030, 66) := rfl
set_option maxRecDepth 100000 in
theorem cl_8_110 : xfind xCL 8 110 = some (11, 102, 2, 751, 752, 59, 0) := rfl
set_option maxRecDepth 100000 in
theorem cl_8_113 : xfind xCL 8 113 = some (1, 167, 0, 1042, 1043, 1044, 66) := rfl
set_option maxRecDepth 100000 in
theorem cl_8_114 : xfind xCL 8 114 = some (1, 23, 0, 314, 315, 316, 60) := rfl
set_option maxRecDepth 100000 in
theorem cl_8_117 : xfind xCL 8 117 = some (1, 169, 0, 1050, 1051, 1052, 66) := rfl
set_option maxRecDepth 100000 in
theorem cl_8_118 : xfind xCL 8 118 = some (11, 106, 2, 769, 770, 59, 0) := rfl
set_option maxRecDepth 100000 in
theorem cl_8_120 : xfind xCL 8 120 = some (1, 171, 0, 1058, 1059, 1060, 66) := rfl
set_option maxRecDepth 100000 in
theorem cl_8_121 : xfind xCL 8 121 = some (11, 108, 2, 777, 778, 59, 0) := rfl
set_option maxRecDepth 100000 in
theorem cl_8_123 : xfind xCL 8 123 = some (1, 172, 0, 1062, 1063, 1064, 66) := rfl
set_option maxRecDepth 100000 in
theorem cl_8_124 : xfind xCL 8 124 = some (11, 111, 5, 789, 790, 59, 0) := rfl
set_option maxRecDepth 100000 in
theorem cl_8_126 : xfind xCL 8 126 = some (1, 173, 3, 1066, 1067, 1068, 66) := rfl
set_option maxRecDepth 100000 in
theorem cl_8_127 : xfind xCL 8 127 = some (11, 113, 6, 797, 798, 59, 0) := rfl
set_option maxRecDepth 100000 in
theorem cl_8_130 : xfind xCL 8 130 = some (1, 178, 4, 1086, 1087, 1088, 66) := rfl
set_option maxRecDepth 100000 in
theorem cl_8_131 : xfind xCL 8 131 = some (11, 116, 4, 809, 810, 59, 0) := rfl
set_option maxRecDepth 100000 in
theorem cl_8_133 : xfind xCL 8 133 = some (1, 180, 2, 1094, 1095, 1096, 66) := rfl
set_option maxRecDepth 100000 in
theorem cl_8_134 : xfind xCL 8 134 = some (11, 118, 4, 816, 817, 59, 0) := rfl
set_option maxRecDepth 100000 in
theorem cl_8_136 : xfind xCL 8 136 = some (1, 184, 2, 1110, 1111, 1112, 66) := rfl
set_option maxRecDepth 100000 in
theorem cl_8_137 : xfind xCL 8 137 = some (11, 121, 3, 828, 829, 59, 0) := rfl
set_option maxRecDepth 100000 in
theorem cl_8_139 : xfind xCL 8 139 = some (1, 187, 1, 1122, 1123, 1124, 66) := rfl
set_option maxRecDepth 100000 in
theorem cl_8_140 : xfind xCL 8 140 = some (11, 123, 3, 835, 836, 59, 0) := rfl
set_option maxRecDepth 100000 in
theorem cl_8_142 : xfind xCL 8 142 = some (1, 194, 1, 1150, 1151, 1152, 66) := rfl
set_option maxRecDepth 100000 in
theorem cl_8_143 : xfind xCL 8 143 = some (11, 125, 4, 842, 843, 59, 0) := rfl
set_option maxRecDepth 100000 in
theorem cl_8_145 : xfind xCL 8 145 = some (1, 195, 2, 1154, 1155, 1156, 66) := rfl
set_option maxRecDepth 100000 in
theorem cl_8_146 : xfind xCL 8 146 = some (11, 127, 6, 850, 851, 59, 0) := rfl
set_option maxRecDepth 100000 in
theorem cl_8_148 : xfind xCL 8 148 = some (1, 196, 4, 1158, 1159, 1160, 66) := rfl
set_option maxRecDepth 100000 in
theorem cl_8_149 : xfind xCL 8 149 = some (11, 129, 3, 858, 859, 59, 0) := rfl
set_option maxRecDepth 100000 in
theorem cl_8_151 : xfind xCL 8 151 = some (1, 197, 1, 1162, 1163, 1164, 66) := rfl
set_option maxRecDepth 100000 in
theorem cl_8_152 : xfind xCL 8 152 = some (1, 25, 0, 323, 324, 325, 60) := rfl
set_option maxRecDepth 100000 in
theorem cl_8_155 : xfind xCL 8 155 = some (1, 199, 0, 1170, 1171, 1172, 66) := rfl
set_option maxRecDepth 100000 in
theorem cl_8_156 : xfind xCL 8 156 = some (1, 27, 0, 331, 332, 333, 60) := rfl
set_option maxRecDepth 100000 in
theorem cl_8_160 : xfind xCL 8 160 = some (1, 200, 0, 1174, 1175, 1176, 66) := rfl
set_option maxRecDepth 100000 in
theorem cl_8_161 : xfind xCL 8 161 = some (1, 30, 0, 343, 344, 345, 60) := rfl
set_option maxRecDepth 100000 in
theorem cl_8_165 : xfind xCL 8 165 = some (1, 203, 0, 1186, 1187, 1188, 66) := rfl
set_option maxRecDepth 100000 in
theorem cl_8_166 : xfind xCL 8 166 = some (1, 35, 0, 366, 367, 368, 60) := rfl
set_option maxRecDepth 100000 in
theorem cl_8_170 : xfind xCL 8 170 = some (1, 205, 0, 1194, 1195, 1196, 66) := rfl
theorem nl_8_8 : xfind xNL 8 8 = some (5, 79) := by decide +kernel
theorem nl_8_72 : xfind xNL 8 72 = some (6, 865) := by decide +kernel
theorem r_L_glide_0 {ls : xL} {st : List Value} {σ : xS}  : xR mL_glide 0 ls (st) σ = gA (lget ls 4) (fun x => xR mL_glide 2 ls (.ref x :: st) σ) := y_aload xe_L_glide dL_glide_0
theorem r_L_glide_2 {ls : xL} {st : List Value} {σ : xS}  : xR mL_glide 2 ls (st) σ = xR mL_glide 3 ls (.int (nI 0) :: st) σ := y_iconst xe_L_glide dL_glide_2 (by decide +kernel)
theorem r_L_glide_3 {ls : xL} {st : List Value} {σ : xS}  : xR mL_glide 3 ls (st) σ = gA (lget ls 0) (fun x => xR mL_glide 4 ls (.ref x :: st) σ) := y_aload_n xe_L_glide dL_glide_3
theorem r_L_glide_4 {ls : xL} {st : List Value} {σ : xS}  : xR mL_glide 4 ls (st) σ = gI (lget ls 1) (fun x => xR mL_glide 5 ls (.int x :: st) σ) := y_iload_n xe_L_glide dL_glide_4
theorem r_L_glide_5 {ls : xL} {st : List Value} {σ : xS}  : xR mL_glide 5 ls (st) σ = gI (lget ls 2) (fun x => xR mL_glide 6 ls (.int x :: st) σ) := y_iload_n xe_L_glide dL_glide_5
theorem r_L_glide_6 {ls : xL} {st : List Value} {σ : xS}  : xR mL_glide 6 ls (st) σ = gI (lget ls 3) (fun x => xR mL_glide 7 ls (.int x :: st) σ) := y_iload_n xe_L_glide dL_glide_6
theorem r_L_glide_7 {ls : xL} {σ : xS} {a b : Nat} {i : Int32} {x0 : Int32} {x1 : Int32} {x2 : Int32} (hc : hcls σ a = some 5) : xR mL_glide 7 ls [.int x2, .int x1, .int x0, .ref a, .int i, .ref b] σ = (match xC1 mX6_glide [.ref a, .int x0, .int x1, .int x2] σ with
      | none => none
      | some (.inl v, σ2) => xR mL_glide 10 ls (v.toList ++ [.int i, .ref b]) σ2
      | some (.inr x, σ2) => (match xcat mL_glide 7 x ls with
        | some (pc2, l2) => xR mL_glide pc2 l2 [] σ2
        | none => none)) := y_cT (as := [.ref a, .int x0, .int x1, .int x2]) (as2 := [.int x0, .int x1, .int x2]) (r := (vwCl[5]?).getD default) xe_L_glide dL_glide_7 cl_8_7 rfl rfl rfl rfl xe_X6_glide ⟨Nat.le_of_ble_eq_true rfl, Nat.le_of_ble_eq_true rfl⟩ (Nat.le_of_ble_eq_true rfl) (Nat.le_of_ble_eq_true rfl) hc
theorem r_L_glide_10 {ls : xL} {st : List Value} {σ : xS} {x : Int32} : xR mL_glide 10 ls (.int x :: st) σ = xR mL_glide 11 ls (.long x.toInt64 :: st) σ := y_i2l xe_L_glide dL_glide_10
theorem r_L_glide_11 {ls : xL} {st : List Value} {σ : xS} {a : Nat} {i : Int32} {x : Int64} : xR mL_glide 11 ls (.long x :: .int i :: .ref a :: st) σ = (hlng σ 4 a).bind (fun q => if xin i q.1 = true then xR mL_glide 12 ls (st) (hup σ a (.inl (4, q.1, .inr (.inl (vp_updL q.2 i.toNatClampNeg x))))) else none) := y_last xe_L_glide dL_glide_11
theorem r_L_glide_12 {ls : xL} {st : List Value} {σ : xS}  : xR mL_glide 12 ls (st) σ = xR mL_glide 23 ls (st) σ := y_goto xe_L_glide dL_glide_12 (by decide)
theorem r_L_glide_17 {ls : xL} {st : List Value} {σ : xS}  : xR mL_glide 17 ls (st) σ = xR mL_glide 18 ls (.int (nI 1) :: st) σ := y_iconst xe_L_glide dL_glide_17 (by decide +kernel)
theorem r_L_glide_18 {ls : xL} {σ : xS} {x : Int32} : xR mL_glide 18 ls ([.int x]) σ = some (.inl (some (.int x)), σ) := y_iret xe_L_glide dL_glide_18 rfl
theorem r_L_glide_21 {ls : xL} {st : List Value} {σ : xS}  : xR mL_glide 21 ls (st) σ = xR mL_glide 22 ls (.int (nI 2) :: st) σ := y_iconst xe_L_glide dL_glide_21 (by decide +kernel)
theorem r_L_glide_22 {ls : xL} {σ : xS} {x : Int32} : xR mL_glide 22 ls ([.int x]) σ = some (.inl (some (.int x)), σ) := y_iret xe_L_glide dL_glide_22 rfl
theorem r_L_glide_23 {ls : xL} {st : List Value} {σ : xS}  : xR mL_glide 23 ls (st) σ = xR mL_glide 24 ls (.int (nI 0) :: st) σ := y_iconst xe_L_glide dL_glide_23 (by decide +kernel)
theorem r_L_glide_24 {ls : xL} {σ : xS} {x : Int32} : xR mL_glide 24 ls ([.int x]) σ = some (.inl (some (.int x)), σ) := y_iret xe_L_glide dL_glide_24 rfl
theorem r_L_hole_0 {ls : xL} {st : List Value} {σ : xS}  : xR mL_hole 0 ls (st) σ = gA (lget ls 3) (fun x => xR mL_hole 1 ls (.ref x :: st) σ) := y_aload_n xe_L_hole dL_hole_0
theorem r_L_hole_1 {ls : xL} {st : List Value} {σ : xS}  : xR mL_hole 1 ls (st) σ = xR mL_hole 2 ls (.int (nI 0) :: st) σ := y_iconst xe_L_hole dL_hole_1 (by decide +kernel)
theorem r_L_hole_2 {ls : xL} {st : List Value} {σ : xS}  : xR mL_hole 2 ls (st) σ = gA (lget ls 0) (fun x => xR mL_hole 3 ls (.ref x :: st) σ) := y_aload_n xe_L_hole dL_hole_2
theorem r_L_hole_3 {ls : xL} {st : List Value} {σ : xS}  : xR mL_hole 3 ls (st) σ = gI (lget ls 1) (fun x => xR mL_hole 4 ls (.int x :: st) σ) := y_iload_n xe_L_hole dL_hole_3
theorem r_L_hole_4 {ls : xL} {st : List Value} {σ : xS}  : xR mL_hole 4 ls (st) σ = gI (lget ls 2) (fun x => xR mL_hole 5 ls (.int x :: st) σ) := y_iload_n xe_L_hole dL_hole_4
theorem r_L_hole_5 {ls : xL} {σ : xS} {a b : Nat} {i : Int32} {x0 : Int32} {x1 : Int32} (hc : hcls σ a = some 5) : xR mL_hole 5 ls [.int x1, .int x0, .ref a, .int i, .ref b] σ = (match xC1 mX6_hole [.ref a, .int x0, .int x1] σ with
      | none => none
      | some (.inl v, σ2) => xR mL_hole 8 ls (v.toList ++ [.int i, .ref b]) σ2
      | some (.inr x, σ2) => (match xcat mL_hole 5 x ls with
        | some (pc2, l2) => xR mL_hole pc2 l2 [] σ2
        | none => none)) := y_cT (as := [.ref a, .int x0, .int x1]) (as2 := [.int x0, .int x1]) (r := (vwCl[5]?).getD default) xe_L_hole dL_hole_5 cl_8_17 rfl rfl rfl rfl xe_X6_hole ⟨Nat.le_of_ble_eq_true rfl, Nat.le_of_ble_eq_true rfl⟩ (Nat.le_of_ble_eq_true rfl) (Nat.le_of_ble_eq_true rfl) hc
theorem r_L_hole_8 {ls : xL} {st : List Value} {σ : xS} {x : Int32} : xR mL_hole 8 ls (.int x :: st) σ = xR mL_hole 9 ls (.long x.toInt64 :: st) σ := y_i2l xe_L_hole dL_hole_8
theorem r_L_hole_9 {ls : xL} {st : List Value} {σ : xS} {a : Nat} {i : Int32} {x : Int64} : xR mL_hole 9 ls (.long x :: .int i :: .ref a :: st) σ = (hlng σ 4 a).bind (fun q => if xin i q.1 = true then xR mL_hole 10 ls (st) (hup σ a (.inl (4, q.1, .inr (.inl (vp_updL q.2 i.toNatClampNeg x))))) else none) := y_last xe_L_hole dL_hole_9
theorem r_L_hole_10 {ls : xL} {st : List Value} {σ : xS}  : xR mL_hole 10 ls (st) σ = xR mL_hole 21 ls (st) σ := y_goto xe_L_hole dL_hole_10 (by decide)
theorem r_L_hole_15 {ls : xL} {st : List Value} {σ : xS}  : xR mL_hole 15 ls (st) σ = xR mL_hole 16 ls (.int (nI 1) :: st) σ := y_iconst xe_L_hole dL_hole_15 (by decide +kernel)
theorem r_L_hole_16 {ls : xL} {σ : xS} {x : Int32} : xR mL_hole 16 ls ([.int x]) σ = some (.inl (some (.int x)), σ) := y_iret xe_L_hole dL_hole_16 rfl
theorem r_L_hole_19 {ls : xL} {st : List Value} {σ : xS}  : xR mL_hole 19 ls (st) σ = xR mL_hole 20 ls (.int (nI 2) :: st) σ := y_iconst xe_L_hole dL_hole_19 (by decide +kernel)
theorem r_L_hole_20 {ls : xL} {σ : xS} {x : Int32} : xR mL_hole 20 ls ([.int x]) σ = some (.inl (some (.int x)), σ) := y_iret xe_L_hole dL_hole_20 rfl
theorem r_L_hole_21 {ls : xL} {st : List Value} {σ : xS}  : xR mL_hole 21 ls (st) σ = xR mL_hole 22 ls (.int (nI 0) :: st) σ := y_iconst xe_L_hole dL_hole_21 (by decide +kernel)
theorem r_L_hole_22 {ls : xL} {σ : xS} {x : Int32} : xR mL_hole 22 ls ([.int x]) σ = some (.inl (some (.int x)), σ) := y_iret xe_L_hole dL_hole_22 rfl
theorem r_L_pay_0 {ls : xL} {st : List Value} {σ : xS}  : xR mL_pay 0 ls (st) σ = gA (lget ls 3) (fun x => xR mL_pay 1 ls (.ref x :: st) σ) := y_aload_n xe_L_pay dL_pay_0
theorem r_L_pay_1 {ls : xL} {st : List Value} {σ : xS}  : xR mL_pay 1 ls (st) σ = xR mL_pay 2 ls (.int (nI 0) :: st) σ := y_iconst xe_L_pay dL_pay_1 (by decide +kernel)
theorem r_L_pay_2 {ls : xL} {st : List Value} {σ : xS}  : xR mL_pay 2 ls (st) σ = gA (lget ls 0) (fun x => xR mL_pay 3 ls (.ref x :: st) σ) := y_aload_n xe_L_pay dL_pay_2
theorem r_L_pay_3 {ls : xL} {st : List Value} {σ : xS}  : xR mL_pay 3 ls (st) σ = gI (lget ls 1) (fun x => xR mL_pay 4 ls (.int x :: st) σ) := y_iload_n xe_L_pay dL_pay_3
theorem r_L_pay_4 {ls : xL} {st : List Value} {σ : xS}  : xR mL_pay 4 ls (st) σ = gI (lget ls 2) (fun x => xR mL_pay 5 ls (.int x :: st) σ) := y_iload_n xe_L_pay dL_pay_4
theorem r_L_pay_5 {ls : xL} {σ : xS} {a b : Nat} {i : Int32} {x0 : Int32} {x1 : Int32} (hc : hcls σ a = some 5) : xR mL_pay 5 ls [.int x1, .int x0, .ref a, .int i, .ref b] σ = (match xC1 mX6_pay [.ref a, .int x0, .int x1] σ with
      | none => none
      | some (.inl v, σ2) => xR mL_pay 8 ls (v.toList ++ [.int i, .ref b]) σ2
      | some (.inr x, σ2) => (match xcat mL_pay 5 x ls with
        | some (pc2, l2) => xR mL_pay pc2 l2 [] σ2
        | none => none)) := y_cT (as := [.ref a, .int x0, .int x1]) (as2 := [.int x0, .int x1]) (r := (vwCl[5]?).getD default) xe_L_pay dL_pay_5 cl_8_23 rfl rfl rfl rfl xe_X6_pay ⟨Nat.le_of_ble_eq_true rfl, Nat.le_of_ble_eq_true rfl⟩ (Nat.le_of_ble_eq_true rfl) (Nat.le_of_ble_eq_true rfl) hc
theorem r_L_pay_8 {ls : xL} {st : List Value} {σ : xS} {x : Int32} : xR mL_pay 8 ls (.int x :: st) σ = xR mL_pay 9 ls (.long x.toInt64 :: st) σ := y_i2l xe_L_pay dL_pay_8
theorem r_L_pay_9 {ls : xL} {st : List Value} {σ : xS} {a : Nat} {i : Int32} {x : Int64} : xR mL_pay 9 ls (.long x :: .int i :: .ref a :: st) σ = (hlng σ 4 a).bind (fun q => if xin i q.1 = true then xR mL_pay 10 ls (st) (hup σ a (.inl (4, q.1, .inr (.inl (vp_updL q.2 i.toNatClampNeg x))))) else none) := y_last xe_L_pay dL_pay_9
theorem r_L_pay_10 {ls : xL} {st : List Value} {σ : xS}  : xR mL_pay 10 ls (st) σ = xR mL_pay 25 ls (st) σ := y_goto xe_L_pay dL_pay_10 (by decide)
theorem r_L_pay_15 {ls : xL} {st : List Value} {σ : xS}  : xR mL_pay 15 ls (st) σ = xR mL_pay 16 ls (.int (nI 1) :: st) σ := y_iconst xe_L_pay dL_pay_15 (by decide +kernel)
theorem r_L_pay_16 {ls : xL} {σ : xS} {x : Int32} : xR mL_pay 16 ls ([.int x]) σ = some (.inl (some (.int x)), σ) := y_iret xe_L_pay dL_pay_16 rfl
theorem r_L_pay_19 {ls : xL} {st : List Value} {σ : xS}  : xR mL_pay 19 ls (st) σ = xR mL_pay 20 ls (.int (nI 2) :: st) σ := y_iconst xe_L_pay dL_pay_19 (by decide +kernel)
theorem r_L_pay_20 {ls : xL} {σ : xS} {x : Int32} : xR mL_pay 20 ls ([.int x]) σ = some (.inl (some (.int x)), σ) := y_iret xe_L_pay dL_pay_20 rfl
theorem r_L_pay_23 {ls : xL} {st : List Value} {σ : xS}  : xR mL_pay 23 ls (st) σ = xR mL_pay 24 ls (.int (nI 3) :: st) σ := y_iconst xe_L_pay dL_pay_23 (by decide +kernel)
theorem r_L_pay_24 {ls : xL} {σ : xS} {x : Int32} : xR mL_pay 24 ls ([.int x]) σ = some (.inl (some (.int x)), σ) := y_iret xe_L_pay dL_pay_24 rfl
theorem r_L_pay_25 {ls : xL} {st : List Value} {σ : xS}  : xR mL_pay 25 ls (st) σ = xR mL_pay 26 ls (.int (nI 0) :: st) σ := y_iconst xe_L_pay dL_pay_25 (by decide +kernel)
theorem r_L_pay_26 {ls : xL} {σ : xS} {x : Int32} : xR mL_pay 26 ls ([.int x]) σ = some (.inl (some (.int x)), σ) := y_iret xe_L_pay dL_pay_26 rfl
theorem r_L_set_0 {ls : xL} {st : List Value} {σ : xS}  : xR mL_set 0 ls (st) σ = gA (lget ls 3) (fun x => xR mL_set 1 ls (.ref x :: st) σ) := y_aload_n xe_L_set dL_set_0
theorem r_L_set_1 {ls : xL} {st : List Value} {σ : xS}  : xR mL_set 1 ls (st) σ = xR mL_set 2 ls (.int (nI 0) :: st) σ := y_iconst xe_L_set dL_set_1 (by decide +kernel)
theorem r_L_set_2 {ls : xL} {st : List Value} {σ : xS}  : xR mL_set 2 ls (st) σ = gA (lget ls 0) (fun x => xR mL_set 3 ls (.ref x :: st) σ) := y_aload_n xe_L_set dL_set_2
theorem r_L_set_3 {ls : xL} {st : List Value} {σ : xS}  : xR mL_set 3 ls (st) σ = gI (lget ls 1) (fun x => xR mL_set 4 ls (.int x :: st) σ) := y_iload_n xe_L_set dL_set_3
theorem r_L_set_4 {ls : xL} {st : List Value} {σ : xS}  : xR mL_set 4 ls (st) σ = gI (lget ls 2) (fun x => xR mL_set 5 ls (.int x :: st) σ) := y_iload_n xe_L_set dL_set_4
theorem r_L_set_5 {ls : xL} {σ : xS} {a b : Nat} {i : Int32} {x0 : Int32} {x1 : Int32} (hc : hcls σ a = some 5) : xR mL_set 5 ls [.int x1, .int x0, .ref a, .int i, .ref b] σ = (match xC1 mX6_set [.ref a, .int x0, .int x1] σ with
      | none => none
      | some (.inl v, σ2) => xR mL_set 8 ls (v.toList ++ [.int i, .ref b]) σ2
      | some (.inr x, σ2) => (match xcat mL_set 5 x ls with
        | some (pc2, l2) => xR mL_set pc2 l2 [] σ2
        | none => none)) := y_cT (as := [.ref a, .int x0, .int x1]) (as2 := [.int x0, .int x1]) (r := (vwCl[5]?).getD default) xe_L_set dL_set_5 cl_8_26 rfl rfl rfl rfl xe_X6_set ⟨Nat.le_of_ble_eq_true rfl, Nat.le_of_ble_eq_true rfl⟩ (Nat.le_of_ble_eq_true rfl) (Nat.le_of_ble_eq_true rfl) hc
theorem r_L_set_8 {ls : xL} {st : List Value} {σ : xS} {x : Int32} : xR mL_set 8 ls (.int x :: st) σ = xR mL_set 9 ls (.long x.toInt64 :: st) σ := y_i2l xe_L_set dL_set_8
theorem r_L_set_9 {ls : xL} {st : List Value} {σ : xS} {a : Nat} {i : Int32} {x : Int64} : xR mL_set 9 ls (.long x :: .int i :: .ref a :: st) σ = (hlng σ 4 a).bind (fun q => if xin i q.1 = true then xR mL_set 10 ls (st) (hup σ a (.inl (4, q.1, .inr (.inl (vp_updL q.2 i.toNatClampNeg x))))) else none) := y_last xe_L_set dL_set_9
theorem r_L_set_10 {ls : xL} {st : List Value} {σ : xS}  : xR mL_set 10 ls (st) σ = xR mL_set 21 ls (st) σ := y_goto xe_L_set dL_set_10 (by decide)
theorem r_L_set_15 {ls : xL} {st : List Value} {σ : xS}  : xR mL_set 15 ls (st) σ = xR mL_set 16 ls (.int (nI 1) :: st) σ := y_iconst xe_L_set dL_set_15 (by decide +kernel)
theorem r_L_set_16 {ls : xL} {σ : xS} {x : Int32} : xR mL_set 16 ls ([.int x]) σ = some (.inl (some (.int x)), σ) := y_iret xe_L_set dL_set_16 rfl
theorem r_L_set_19 {ls : xL} {st : List Value} {σ : xS}  : xR mL_set 19 ls (st) σ = xR mL_set 20 ls (.int (nI 2) :: st) σ := y_iconst xe_L_set dL_set_19 (by decide +kernel)
theorem r_L_set_20 {ls : xL} {σ : xS} {x : Int32} : xR mL_set 20 ls ([.int x]) σ = some (.inl (some (.int x)), σ) := y_iret xe_L_set dL_set_20 rfl
theorem r_L_set_21 {ls : xL} {st : List Value} {σ : xS}  : xR mL_set 21 ls (st) σ = xR mL_set 22 ls (.int (nI 0) :: st) σ := y_iconst xe_L_set dL_set_21 (by decide +kernel)
theorem r_L_set_22 {ls : xL} {σ : xS} {x : Int32} : xR mL_set 22 ls ([.int x]) σ = some (.inl (some (.int x)), σ) := y_iret xe_L_set dL_set_22 rfl
theorem r_L_append_0 {ls : xL} {st : List Value} {σ : xS}  : xR mL_append 0 ls (st) σ = gA (lget ls 2) (fun x => xR mL_append 1 ls (.ref x :: st) σ) := y_aload_n xe_L_append dL_append_0
theorem r_L_append_1 {ls : xL} {st : List Value} {σ : xS}  : xR mL_append 1 ls (st) σ = xR mL_append 2 ls (.int (nI 0) :: st) σ := y_iconst xe_L_append dL_append_1 (by decide +kernel)
theorem r_L_append_2 {ls : xL} {st : List Value} {σ : xS}  : xR mL_append 2 ls (st) σ = gA (lget ls 0) (fun x => xR mL_append 3 ls (.ref x :: st) σ) := y_aload_n xe_L_append dL_append_2
theorem r_L_append_3 {ls : xL} {st : List Value} {σ : xS}  : xR mL_append 3 ls (st) σ = gI (lget ls 1) (fun x => xR mL_append 4 ls (.int x :: st) σ) := y_iload_n xe_L_append dL_append_3
theorem r_L_append_4 {ls : xL} {σ : xS} {a b : Nat} {i : Int32} {x0 : Int32} (hc : hcls σ a = some 5) : xR mL_append 4 ls [.int x0, .ref a, .int i, .ref b] σ = (match xC1 mX6_append [.ref a, .int x0] σ with
      | none => none
      | some (.inl v, σ2) => xR mL_append 7 ls (v.toList ++ [.int i, .ref b]) σ2
      | some (.inr x, σ2) => (match xcat mL_append 4 x ls with
        | some (pc2, l2) => xR mL_append pc2 l2 [] σ2
        | none => none)) := y_cT (as := [.ref a, .int x0]) (as2 := [.int x0]) (r := (vwCl[5]?).getD default) xe_L_append dL_append_4 cl_8_29 rfl rfl rfl rfl xe_X6_append ⟨Nat.le_of_ble_eq_true rfl, Nat.le_of_ble_eq_true rfl⟩ (Nat.le_of_ble_eq_true rfl) (Nat.le_of_ble_eq_true rfl) hc
theorem r_L_append_7 {ls : xL} {st : List Value} {σ : xS} {x : Int32} : xR mL_append 7 ls (.int x :: st) σ = xR mL_append 8 ls (.long x.toInt64 :: st) σ := y_i2l xe_L_append dL_append_7
theorem r_L_append_8 {ls : xL} {st : List Value} {σ : xS} {a : Nat} {i : Int32} {x : Int64} : xR mL_append 8 ls (.long x :: .int i :: .ref a :: st) σ = (hlng σ 4 a).bind (fun q => if xin i q.1 = true then xR mL_append 9 ls (st) (hup σ a (.inl (4, q.1, .inr (.inl (vp_updL q.2 i.toNatClampNeg x))))) else none) := y_last xe_L_append dL_append_8
theorem r_L_append_9 {ls : xL} {st : List Value} {σ : xS}  : xR mL_append 9 ls (st) σ = xR mL_append 18 ls (st) σ := y_goto xe_L_append dL_append_9 (by decide)
theorem r_L_append_13 {ls : xL} {st : List Value} {σ : xS}  : xR mL_append 13 ls (st) σ = xR mL_append 14 ls (.int (nI 1) :: st) σ := y_iconst xe_L_append dL_append_13 (by decide +kernel)
theorem r_L_append_14 {ls : xL} {σ : xS} {x : Int32} : xR mL_append 14 ls ([.int x]) σ = some (.inl (some (.int x)), σ) := y_iret xe_L_append dL_append_14 rfl
theorem r_L_append_16 {ls : xL} {st : List Value} {σ : xS}  : xR mL_append 16 ls (st) σ = xR mL_append 17 ls (.int (nI 2) :: st) σ := y_iconst xe_L_append dL_append_16 (by decide +kernel)
theorem r_L_append_17 {ls : xL} {σ : xS} {x : Int32} : xR mL_append 17 ls ([.int x]) σ = some (.inl (some (.int x)), σ) := y_iret xe_L_append dL_append_17 rfl
theorem r_L_append_18 {ls : xL} {st : List Value} {σ : xS}  : xR mL_append 18 ls (st) σ = xR mL_append 19 ls (.int (nI 0) :: st) σ := y_iconst xe_L_append dL_append_18 (by decide +kernel)
theorem r_L_append_19 {ls : xL} {σ : xS} {x : Int32} : xR mL_append 19 ls ([.int x]) σ = some (.inl (some (.int x)), σ) := y_iret xe_L_append dL_append_19 rfl
theorem r_L_play_0 {ls : xL} {st : List Value} {σ : xS}  : xR mL_play 0 ls (st) σ = gA (lget ls 1) (fun x => xR mL_play 1 ls (.ref x :: st) σ) := y_aload_n xe_L_play dL_play_0
theorem r_L_play_1 {ls : xL} {st : List Value} {σ : xS}  : xR mL_play 1 ls (st) σ = xR mL_play 2 ls (.int (nI 0) :: st) σ := y_iconst xe_L_play dL_play_1 (by decide +kernel)
theorem r_L_play_2 {ls : xL} {st : List Value} {σ : xS}  : xR mL_play 2 ls (st) σ = gA (lget ls 0) (fun x => xR mL_play 3 ls (.ref x :: st) σ) := y_aload_n xe_L_play dL_play_2
theorem r_L_play_3 {ls : xL} {σ : xS} {a b : Nat} {i : Int32}  (hc : hcls σ a = some 5) : xR mL_play 3 ls [.ref a, .int i, .ref b] σ = (match xC1 mX6_play [.ref a] σ with
      | none => none
      | some (.inl v, σ2) => xR mL_play 6 ls (v.toList ++ [.int i, .ref b]) σ2
      | some (.inr x, σ2) => (match xcat mL_play 3 x ls with
        | some (pc2, l2) => xR mL_play pc2 l2 [] σ2
        | none => none)) := y_cT (as := [.ref a]) (as2 := []) (r := (vwCl[5]?).getD default) xe_L_play dL_play_3 cl_8_33 rfl rfl rfl rfl xe_X6_play ⟨Nat.le_of_ble_eq_true rfl, Nat.le_of_ble_eq_true rfl⟩ (Nat.le_of_ble_eq_true rfl) (Nat.le_of_ble_eq_true rfl) hc
theorem r_L_play_6 {ls : xL} {st : List Value} {σ : xS} {x : Int32} : xR mL_play 6 ls (.int x :: st) σ = xR mL_play 7 ls (.long x.toInt64 :: st) σ := y_i2l xe_L_play dL_play_6
theorem r_L_play_7 {ls : xL} {st : List Value} {σ : xS} {a : Nat} {i : Int32} {x : Int64} : xR mL_play 7 ls (.long x :: .int i :: .ref a :: st) σ = (hlng σ 4 a).bind (fun q => if xin i q.1 = true then xR mL_play 8 ls (st) (hup σ a (.inl (4, q.1, .inr (.inl (vp_updL q.2 i.toNatClampNeg x))))) else none) := y_last xe_L_play dL_play_7
theorem r_L_play_8 {ls : xL} {st : List Value} {σ : xS}  : xR mL_play 8 ls (st) σ = xR mL_play 14 ls (st) σ := y_goto xe_L_play dL_play_8 (by decide)
theorem r_L_play_12 {ls : xL} {st : List Value} {σ : xS}  : xR mL_play 12 ls (st) σ = xR mL_play 13 ls (.int (nI 1) :: st) σ := y_iconst xe_L_play dL_play_12 (by decide +kernel)
theorem r_L_play_13 {ls : xL} {σ : xS} {x : Int32} : xR mL_play 13 ls ([.int x]) σ = some (.inl (some (.int x)), σ) := y_iret xe_L_play dL_play_13 rfl
theorem r_L_play_14 {ls : xL} {st : List Value} {σ : xS}  : xR mL_play 14 ls (st) σ = xR mL_play 15 ls (.int (nI 0) :: st) σ := y_iconst xe_L_play dL_play_14 (by decide +kernel)
theorem r_L_play_15 {ls : xL} {σ : xS} {x : Int32} : xR mL_play 15 ls ([.int x]) σ = some (.inl (some (.int x)), σ) := y_iret xe_L_play dL_play_15 rfl
theorem r_L_goBack_0 {ls : xL} {st : List Value} {σ : xS}  : xR mL_goBack 0 ls (st) σ = gA (lget ls 1) (fun x => xR mL_goBack 1 ls (.ref x :: st) σ) := y_aload_n xe_L_goBack dL_goBack_0
theorem r_L_goBack_1 {ls : xL} {st : List Value} {σ : xS}  : xR mL_goBack 1 ls (st) σ = xR mL_goBack 2 ls (.int (nI 0) :: st) σ := y_iconst xe_L_goBack dL_goBack_1 (by decide +kernel)
theorem r_L_goBack_2 {ls : xL} {st : List Value} {σ : xS}  : xR mL_goBack 2 ls (st) σ = gA (lget ls 0) (fun x => xR mL_goBack 3 ls (.ref x :: st) σ) := y_aload_n xe_L_goBack dL_goBack_2
theorem r_L_goBack_3 {ls : xL} {σ : xS} {a b : Nat} {i : Int32}  (hc : hcls σ a = some 5) : xR mL_goBack 3 ls [.ref a, .int i, .ref b] σ = (match xC1 mX6_goBack [.ref a] σ with
      | none => none
      | some (.inl v, σ2) => xR mL_goBack 6 ls (v.toList ++ [.int i, .ref b]) σ2
      | some (.inr x, σ2) => (match xcat mL_goBack 3 x ls with
        | some (pc2, l2) => xR mL_goBack pc2 l2 [] σ2
        | none => none)) := y_cT (as := [.ref a]) (as2 := []) (r := (vwCl[5]?).getD default) xe_L_goBack dL_goBack_3 cl_8_37 rfl rfl rfl rfl xe_X6_goBack ⟨Nat.le_of_ble_eq_true rfl, Nat.le_of_ble_eq_true rfl⟩ (Nat.le_of_ble_eq_true rfl) (Nat.le_of_ble_eq_true rfl) hc
theorem r_L_goBack_6 {ls : xL} {st : List Value} {σ : xS} {x : Int32} : xR mL_goBack 6 ls (.int x :: st) σ = xR mL_goBack 7 ls (.long x.toInt64 :: st) σ := y_i2l xe_L_goBack dL_goBack_6
theorem r_L_goBack_7 {ls : xL} {st : List Value} {σ : xS} {a : Nat} {i : Int32} {x : Int64} : xR mL_goBack 7 ls (.long x :: .int i :: .ref a :: st) σ = (hlng σ 4 a).bind (fun q => if xin i q.1 = true then xR mL_goBack 8 ls (st) (hup σ a (.inl (4, q.1, .inr (.inl (vp_updL q.2 i.toNatClampNeg x))))) else none) := y_last xe_L_goBack dL_goBack_7
theorem r_L_goBack_8 {ls : xL} {st : List Value} {σ : xS}  : xR mL_goBack 8 ls (st) σ = xR mL_goBack 14 ls (st) σ := y_goto xe_L_goBack dL_goBack_8 (by decide)
theorem r_L_goBack_12 {ls : xL} {st : List Value} {σ : xS}  : xR mL_goBack 12 ls (st) σ = xR mL_goBack 13 ls (.int (nI 1) :: st) σ := y_iconst xe_L_goBack dL_goBack_12 (by decide +kernel)
theorem r_L_goBack_13 {ls : xL} {σ : xS} {x : Int32} : xR mL_goBack 13 ls ([.int x]) σ = some (.inl (some (.int x)), σ) := y_iret xe_L_goBack dL_goBack_13 rfl
theorem r_L_goBack_14 {ls : xL} {st : List Value} {σ : xS}  : xR mL_goBack 14 ls (st) σ = xR mL_goBack 15 ls (.int (nI 0) :: st) σ := y_iconst xe_L_goBack dL_goBack_14 (by decide +kernel)
theorem r_L_goBack_15 {ls : xL} {σ : xS} {x : Int32} : xR mL_goBack 15 ls ([.int x]) σ = some (.inl (some (.int x)), σ) := y_iret xe_L_goBack dL_goBack_15 rfl
theorem r_L_undo_0 {ls : xL} {st : List Value} {σ : xS}  : xR mL_undo 0 ls (st) σ = gA (lget ls 1) (fun x => xR mL_undo 1 ls (.ref x :: st) σ) := y_aload_n xe_L_undo dL_undo_0
theorem r_L_undo_1 {ls : xL} {st : List Value} {σ : xS}  : xR mL_undo 1 ls (st) σ = xR mL_undo 2 ls (.int (nI 0) :: st) σ := y_iconst xe_L_undo dL_undo_1 (by decide +kernel)
theorem r_L_undo_2 {ls : xL} {st : List Value} {σ : xS}  : xR mL_undo 2 ls (st) σ = gA (lget ls 0) (fun x => xR mL_undo 3 ls (.ref x :: st) σ) := y_aload_n xe_L_undo dL_undo_2
theorem r_L_undo_3 {ls : xL} {σ : xS} {a b : Nat} {i : Int32}  (hc : hcls σ a = some 5) : xR mL_undo 3 ls [.ref a, .int i, .ref b] σ = (match xC1 mX6_undo [.ref a] σ with
      | none => none
      | some (.inl v, σ2) => xR mL_undo 6 ls (v.toList ++ [.int i, .ref b]) σ2
      | some (.inr x, σ2) => (match xcat mL_undo 3 x ls with
        | some (pc2, l2) => xR mL_undo pc2 l2 [] σ2
        | none => none)) := y_cT (as := [.ref a]) (as2 := []) (r := (vwCl[5]?).getD default) xe_L_undo dL_undo_3 cl_8_40 rfl rfl rfl rfl xe_X6_undo ⟨Nat.le_of_ble_eq_true rfl, Nat.le_of_ble_eq_true rfl⟩ (Nat.le_of_ble_eq_true rfl) (Nat.le_of_ble_eq_true rfl) hc
theorem r_L_undo_6 {ls : xL} {st : List Value} {σ : xS} {x : Int32} : xR mL_undo 6 ls (.int x :: st) σ = xR mL_undo 7 ls (.long x.toInt64 :: st) σ := y_i2l xe_L_undo dL_undo_6
theorem r_L_undo_7 {ls : xL} {st : List Value} {σ : xS} {a : Nat} {i : Int32} {x : Int64} : xR mL_undo 7 ls (.long x :: .int i :: .ref a :: st) σ = (hlng σ 4 a).bind (fun q => if xin i q.1 = true then xR mL_undo 8 ls (st) (hup σ a (.inl (4, q.1, .inr (.inl (vp_updL q.2 i.toNatClampNeg x))))) else none) := y_last xe_L_undo dL_undo_7
theorem r_L_undo_8 {ls : xL} {st : List Value} {σ : xS}  : xR mL_undo 8 ls (st) σ = xR mL_undo 14 ls (st) σ := y_goto xe_L_undo dL_undo_8 (by decide)
theorem r_L_undo_12 {ls : xL} {st : List Value} {σ : xS}  : xR mL_undo 12 ls (st) σ = xR mL_undo 13 ls (.int (nI 1) :: st) σ := y_iconst xe_L_undo dL_undo_12 (by decide +kernel)
theorem r_L_undo_13 {ls : xL} {σ : xS} {x : Int32} : xR mL_undo 13 ls ([.int x]) σ = some (.inl (some (.int x)), σ) := y_iret xe_L_undo dL_undo_13 rfl
theorem r_L_undo_14 {ls : xL} {st : List Value} {σ : xS}  : xR mL_undo 14 ls (st) σ = xR mL_undo 15 ls (.int (nI 0) :: st) σ := y_iconst xe_L_undo dL_undo_14 (by decide +kernel)
theorem r_L_undo_15 {ls : xL} {σ : xS} {x : Int32} : xR mL_undo 15 ls ([.int x]) σ = some (.inl (some (.int x)), σ) := y_iret xe_L_undo dL_undo_15 rfl
theorem r_L_cell_0 {ls : xL} {st : List Value} {σ : xS}  : xR mL_cell 0 ls (st) σ = gA (lget ls 4) (fun x => xR mL_cell 2 ls (.ref x :: st) σ) := y_aload xe_L_cell dL_cell_0
theorem r_L_cell_2 {ls : xL} {st : List Value} {σ : xS}  : xR mL_cell 2 ls (st) σ = xR mL_cell 3 ls (.int (nI 0) :: st) σ := y_iconst xe_L_cell dL_cell_2 (by decide +kernel)
theorem r_L_cell_3 {ls : xL} {st : List Value} {σ : xS}  : xR mL_cell 3 ls (st) σ = gA (lget ls 0) (fun x => xR mL_cell 4 ls (.ref x :: st) σ) := y_aload_n xe_L_cell dL_cell_3
theorem r_L_cell_4 {ls : xL} {st : List Value} {σ : xS}  : xR mL_cell 4 ls (st) σ = gI (lget ls 1) (fun x => xR mL_cell 5 ls (.int x :: st) σ) := y_iload_n xe_L_cell dL_cell_4
theorem r_L_cell_5 {ls : xL} {st : List Value} {σ : xS}  : xR mL_cell 5 ls (st) σ = gI (lget ls 2) (fun x => xR mL_cell 6 ls (.int x :: st) σ) := y_iload_n xe_L_cell dL_cell_5
theorem r_L_cell_6 {ls : xL} {st : List Value} {σ : xS}  : xR mL_cell 6 ls (st) σ = gI (lget ls 3) (fun x => xR mL_cell 7 ls (.int x :: st) σ) := y_iload_n xe_L_cell dL_cell_6
theorem r_L_cell_7 {ls : xL} {σ : xS} {a b : Nat} {i : Int32} {x0 : Int32} {x1 : Int32} {x2 : Int32} (hc : hcls σ a = some 5) : xR mL_cell 7 ls [.int x2, .int x1, .int x0, .ref a, .int i, .ref b] σ = (match xC1 mX6_cell [.ref a, .int x0, .int x1, .int x2] σ with
      | none => none
      | some (.inl v, σ2) => xR mL_cell 10 ls (v.toList ++ [.int i, .ref b]) σ2
      | some (.inr x, σ2) => (match xcat mL_cell 7 x ls with
        | some (pc2, l2) => xR mL_cell pc2 l2 [] σ2
        | none => none)) := y_cT (as := [.ref a, .int x0, .int x1, .int x2]) (as2 := [.int x0, .int x1, .int x2]) (r := (vwCl[5]?).getD default) xe_L_cell dL_cell_7 cl_8_43 rfl rfl rfl rfl xe_X6_cell ⟨Nat.le_of_ble_eq_true rfl, Nat.le_of_ble_eq_true rfl⟩ (Nat.le_of_ble_eq_true rfl) (Nat.le_of_ble_eq_true rfl) hc
theorem r_L_cell_10 {ls : xL} {st : List Value} {σ : xS} {x : Int32} : xR mL_cell 10 ls (.int x :: st) σ = xR mL_cell 11 ls (.long x.toInt64 :: st) σ := y_i2l xe_L_cell dL_cell_10
theorem r_L_cell_11 {ls : xL} {st : List Value} {σ : xS} {a : Nat} {i : Int32} {x : Int64} : xR mL_cell 11 ls (.long x :: .int i :: .ref a :: st) σ = (hlng σ 4 a).bind (fun q => if xin i q.1 = true then xR mL_cell 12 ls (st) (hup σ a (.inl (4, q.1, .inr (.inl (vp_updL q.2 i.toNatClampNeg x))))) else none) := y_last xe_L_cell dL_cell_11
theorem r_L_cell_12 {ls : xL} {st : List Value} {σ : xS}  : xR mL_cell 12 ls (st) σ = xR mL_cell 23 ls (st) σ := y_goto xe_L_cell dL_cell_12 (by decide)
theorem r_L_cell_17 {ls : xL} {st : List Value} {σ : xS}  : xR mL_cell 17 ls (st) σ = xR mL_cell 18 ls (.int (nI 1) :: st) σ := y_iconst xe_L_cell dL_cell_17 (by decide +kernel)
theorem r_L_cell_18 {ls : xL} {σ : xS} {x : Int32} : xR mL_cell 18 ls ([.int x]) σ = some (.inl (some (.int x)), σ) := y_iret xe_L_cell dL_cell_18 rfl
theorem r_L_cell_21 {ls : xL} {st : List Value} {σ : xS}  : xR mL_cell 21 ls (st) σ = xR mL_cell 22 ls (.int (nI 2) :: st) σ := y_iconst xe_L_cell dL_cell_21 (by decide +kernel)
theorem r_L_cell_22 {ls : xL} {σ : xS} {x : Int32} : xR mL_cell 22 ls ([.int x]) σ = some (.inl (some (.int x)), σ) := y_iret xe_L_cell dL_cell_22 rfl
theorem r_L_cell_23 {ls : xL} {st : List Value} {σ : xS}  : xR mL_cell 23 ls (st) σ = xR mL_cell 24 ls (.int (nI 0) :: st) σ := y_iconst xe_L_cell dL_cell_23 (by decide +kernel)
theorem r_L_cell_24 {ls : xL} {σ : xS} {x : Int32} : xR mL_cell 24 ls ([.int x]) σ = some (.inl (some (.int x)), σ) := y_iret xe_L_cell dL_cell_24 rfl
theorem r_L_line_0 {ls : xL} {st : List Value} {σ : xS}  : xR mL_line 0 ls (st) σ = gA (lget ls 5) (fun x => xR mL_line 2 ls (.ref x :: st) σ) := y_aload xe_L_line dL_line_0
theorem r_L_line_2 {ls : xL} {st : List Value} {σ : xS}  : xR mL_line 2 ls (st) σ = xR mL_line 3 ls (.int (nI 0) :: st) σ := y_iconst xe_L_line dL_line_2 (by decide +kernel)
theorem r_L_line_3 {ls : xL} {st : List Value} {σ : xS}  : xR mL_line 3 ls (st) σ = gA (lget ls 0) (fun x => xR mL_line 4 ls (.ref x :: st) σ) := y_aload_n xe_L_line dL_line_3
theorem r_L_line_4 {ls : xL} {st : List Value} {σ : xS}  : xR mL_line 4 ls (st) σ = gI (lget ls 1) (fun x => xR mL_line 5 ls (.int x :: st) σ) := y_iload_n xe_L_line dL_line_4
theorem r_L_line_5 {ls : xL} {st : List Value} {σ : xS}  : xR mL_line 5 ls (st) σ = gI (lget ls 2) (fun x => xR mL_line 6 ls (.int x :: st) σ) := y_iload_n xe_L_line dL_line_5
theorem r_L_line_6 {ls : xL} {st : List Value} {σ : xS}  : xR mL_line 6 ls (st) σ = gI (lget ls 3) (fun x => xR mL_line 7 ls (.int x :: st) σ) := y_iload_n xe_L_line dL_line_6
theorem r_L_line_7 {ls : xL} {st : List Value} {σ : xS}  : xR mL_line 7 ls (st) σ = gI (lget ls 4) (fun x => xR mL_line 9 ls (.int x :: st) σ) := y_iload xe_L_line dL_line_7
theorem r_L_line_9 {ls : xL} {σ : xS} {a b : Nat} {i : Int32} {x0 : Int32} {x1 : Int32} {x2 : Int32} {x3 : Int32} (hc : hcls σ a = some 5) : xR mL_line 9 ls [.int x3, .int x2, .int x1, .int x0, .ref a, .int i, .ref b] σ = (match xC1 mX6_line [.ref a, .int x0, .int x1, .int x2, .int x3] σ with
      | none => none
      | some (.inl v, σ2) => xR mL_line 12 ls (v.toList ++ [.int i, .ref b]) σ2
      | some (.inr x, σ2) => (match xcat mL_line 9 x ls with
        | some (pc2, l2) => xR mL_line pc2 l2 [] σ2
        | none => none)) := y_cT (as := [.ref a, .int x0, .int x1, .int x2, .int x3]) (as2 := [.int x0, .int x1, .int x2, .int x3]) (r := (vwCl[5]?).getD default) xe_L_line dL_line_9 cl_8_46 rfl rfl rfl rfl xe_X6_line ⟨Nat.le_of_ble_eq_true rfl, Nat.le_of_ble_eq_true rfl⟩ (Nat.le_of_ble_eq_true rfl) (Nat.le_of_ble_eq_true rfl) hc
theorem r_L_line_12 {ls : xL} {st : List Value} {σ : xS} {x : Int32} : xR mL_line 12 ls (.int x :: st) σ = xR mL_line 13 ls (.long x.toInt64 :: st) σ := y_i2l xe_L_line dL_line_12
theorem r_L_line_13 {ls : xL} {st : List Value} {σ : xS} {a : Nat} {i : Int32} {x : Int64} : xR mL_line 13 ls (.long x :: .int i :: .ref a :: st) σ = (hlng σ 4 a).bind (fun q => if xin i q.1 = true then xR mL_line 14 ls (st) (hup σ a (.inl (4, q.1, .inr (.inl (vp_updL q.2 i.toNatClampNeg x))))) else none) := y_last xe_L_line dL_line_13
theorem r_L_line_14 {ls : xL} {st : List Value} {σ : xS}  : xR mL_line 14 ls (st) σ = xR mL_line 25 ls (st) σ := y_goto xe_L_line dL_line_14 (by decide)
theorem r_L_line_19 {ls : xL} {st : List Value} {σ : xS}  : xR mL_line 19 ls (st) σ = xR mL_line 20 ls (.int (nI 1) :: st) σ := y_iconst xe_L_line dL_line_19 (by decide +kernel)
theorem r_L_line_20 {ls : xL} {σ : xS} {x : Int32} : xR mL_line 20 ls ([.int x]) σ = some (.inl (some (.int x)), σ) := y_iret xe_L_line dL_line_20 rfl
theorem r_L_line_23 {ls : xL} {st : List Value} {σ : xS}  : xR mL_line 23 ls (st) σ = xR mL_line 24 ls (.int (nI 2) :: st) σ := y_iconst xe_L_line dL_line_23 (by decide +kernel)
theorem r_L_line_24 {ls : xL} {σ : xS} {x : Int32} : xR mL_line 24 ls ([.int x]) σ = some (.inl (some (.int x)), σ) := y_iret xe_L_line dL_line_24 rfl
theorem r_L_line_25 {ls : xL} {st : List Value} {σ : xS}  : xR mL_line 25 ls (st) σ = xR mL_line 26 ls (.int (nI 0) :: st) σ := y_iconst xe_L_line dL_line_25 (by decide +kernel)
theorem r_L_line_26 {ls : xL} {σ : xS} {x : Int32} : xR mL_line 26 ls ([.int x]) σ = some (.inl (some (.int x)), σ) := y_iret xe_L_line dL_line_26 rfl
theorem r_L_skater_0 {ls : xL} {st : List Value} {σ : xS}  : xR mL_skater 0 ls (st) σ = gA (lget ls 3) (fun x => xR mL_skater 1 ls (.ref x :: st) σ) := y_aload_n xe_L_skater dL_skater_0
theorem r_L_skater_1 {ls : xL} {st : List Value} {σ : xS}  : xR mL_skater 1 ls (st) σ = xR mL_skater 2 ls (.int (nI 0) :: st) σ := y_iconst xe_L_skater dL_skater_1 (by decide +kernel)
theorem r_L_skater_2 {ls : xL} {st : List Value} {σ : xS}  : xR mL_skater 2 ls (st) σ = gA (lget ls 0) (fun x => xR mL_skater 3 ls (.ref x :: st) σ) := y_aload_n xe_L_skater dL_skater_2
theorem r_L_skater_3 {ls : xL} {st : List Value} {σ : xS}  : xR mL_skater 3 ls (st) σ = gI (lget ls 1) (fun x => xR mL_skater 4 ls (.int x :: st) σ) := y_iload_n xe_L_skater dL_skater_3
theorem r_L_skater_4 {ls : xL} {st : List Value} {σ : xS}  : xR mL_skater 4 ls (st) σ = gI (lget ls 2) (fun x => xR mL_skater 5 ls (.int x :: st) σ) := y_iload_n xe_L_skater dL_skater_4
theorem r_L_skater_5 {ls : xL} {σ : xS} {a b : Nat} {i : Int32} {x0 : Int32} {x1 : Int32} (hc : hcls σ a = some 5) : xR mL_skater 5 ls [.int x1, .int x0, .ref a, .int i, .ref b] σ = (match xC1 mX6_skater [.ref a, .int x0, .int x1] σ with
      | none => none
      | some (.inl v, σ2) => xR mL_skater 8 ls (v.toList ++ [.int i, .ref b]) σ2
      | some (.inr x, σ2) => (match xcat mL_skater 5 x ls with
        | some (pc2, l2) => xR mL_skater pc2 l2 [] σ2
        | none => none)) := y_cT (as := [.ref a, .int x0, .int x1]) (as2 := [.int x0, .int x1]) (r := (vwCl[5]?).getD default) xe_L_skater dL_skater_5 cl_8_50 rfl rfl rfl rfl xe_X6_skater ⟨Nat.le_of_ble_eq_true rfl, Nat.le_of_ble_eq_true rfl⟩ (Nat.le_of_ble_eq_true rfl) (Nat.le_of_ble_eq_true rfl) hc
theorem r_L_skater_8 {ls : xL} {st : List Value} {σ : xS} {x : Int32} : xR mL_skater 8 ls (.int x :: st) σ = xR mL_skater 9 ls (.long x.toInt64 :: st) σ := y_i2l xe_L_skater dL_skater_8
theorem r_L_skater_9 {ls : xL} {st : List Value} {σ : xS} {a : Nat} {i : Int32} {x : Int64} : xR mL_skater 9 ls (.long x :: .int i :: .ref a :: st) σ = (hlng σ 4 a).bind (fun q => if xin i q.1 = true then xR mL_skater 10 ls (st) (hup σ a (.inl (4, q.1, .inr (.inl (vp_updL q.2 i.toNatClampNeg x))))) else none) := y_last xe_L_skater dL_skater_9
theorem r_L_skater_10 {ls : xL} {st : List Value} {σ : xS}  : xR mL_skater 10 ls (st) σ = xR mL_skater 21 ls (st) σ := y_goto xe_L_skater dL_skater_10 (by decide)
theorem r_L_skater_15 {ls : xL} {st : List Value} {σ : xS}  : xR mL_skater 15 ls (st) σ = xR mL_skater 16 ls (.int (nI 1) :: st) σ := y_iconst xe_L_skater dL_skater_15 (by decide +kernel)
theorem r_L_skater_16 {ls : xL} {σ : xS} {x : Int32} : xR mL_skater 16 ls ([.int x]) σ = some (.inl (some (.int x)), σ) := y_iret xe_L_skater dL_skater_16 rfl
theorem r_L_skater_19 {ls : xL} {st : List Value} {σ : xS}  : xR mL_skater 19 ls (st) σ = xR mL_skater 20 ls (.int (nI 2) :: st) σ := y_iconst xe_L_skater dL_skater_19 (by decide +kernel)
theorem r_L_skater_20 {ls : xL} {σ : xS} {x : Int32} : xR mL_skater 20 ls ([.int x]) σ = some (.inl (some (.int x)), σ) := y_iret xe_L_skater dL_skater_20 rfl
theorem r_L_skater_21 {ls : xL} {st : List Value} {σ : xS}  : xR mL_skater 21 ls (st) σ = xR mL_skater 22 ls (.int (nI 0) :: st) σ := y_iconst xe_L_skater dL_skater_21 (by decide +kernel)
theorem r_L_skater_22 {ls : xL} {σ : xS} {x : Int32} : xR mL_skater 22 ls ([.int x]) σ = some (.inl (some (.int x)), σ) := y_iret xe_L_skater dL_skater_22 rfl
theorem r_L_rink_0 {ls : xL} {st : List Value} {σ : xS}  : xR mL_rink 0 ls (st) σ = gA (lget ls 3) (fun x => xR mL_rink 1 ls (.ref x :: st) σ) := y_aload_n xe_L_rink dL_rink_0
theorem r_L_rink_1 {ls : xL} {st : List Value} {σ : xS}  : xR mL_rink 1 ls (st) σ = xR mL_rink 2 ls (.int (nI 0) :: st) σ := y_iconst xe_L_rink dL_rink_1 (by decide +kernel)
theorem r_L_rink_2 {ls : xL} {st : List Value} {σ : xS}  : xR mL_rink 2 ls (st) σ = gA (lget ls 0) (fun x => xR mL_rink 3 ls (.ref x :: st) σ) := y_aload_n xe_L_rink dL_rink_2
theorem r_L_rink_3 {ls : xL} {st : List Value} {σ : xS}  : xR mL_rink 3 ls (st) σ = gI (lget ls 1) (fun x => xR mL_rink 4 ls (.int x :: st) σ) := y_iload_n xe_L_rink dL_rink_3
theorem r_L_rink_4 {ls : xL} {st : List Value} {σ : xS}  : xR mL_rink 4 ls (st) σ = gI (lget ls 2) (fun x => xR mL_rink 5 ls (.int x :: st) σ) := y_iload_n xe_L_rink dL_rink_4
theorem r_L_rink_5 {ls : xL} {σ : xS} {a b : Nat} {i : Int32} {x0 : Int32} {x1 : Int32} (hc : hcls σ a = some 5) : xR mL_rink 5 ls [.int x1, .int x0, .ref a, .int i, .ref b] σ = (match xC1 mX6_rink [.ref a, .int x0, .int x1] σ with
      | none => none
      | some (.inl v, σ2) => xR mL_rink 8 ls (v.toList ++ [.int i, .ref b]) σ2
      | some (.inr x, σ2) => (match xcat mL_rink 5 x ls with
        | some (pc2, l2) => xR mL_rink pc2 l2 [] σ2
        | none => none)) := y_cT (as := [.ref a, .int x0, .int x1]) (as2 := [.int x0, .int x1]) (r := (vwCl[5]?).getD default) xe_L_rink dL_rink_5 cl_8_53 rfl rfl rfl rfl xe_X6_rink ⟨Nat.le_of_ble_eq_true rfl, Nat.le_of_ble_eq_true rfl⟩ (Nat.le_of_ble_eq_true rfl) (Nat.le_of_ble_eq_true rfl) hc
theorem r_L_rink_8 {ls : xL} {st : List Value} {σ : xS} {x : Int32} : xR mL_rink 8 ls (.int x :: st) σ = xR mL_rink 9 ls (.long x.toInt64 :: st) σ := y_i2l xe_L_rink dL_rink_8
theorem r_L_rink_9 {ls : xL} {st : List Value} {σ : xS} {a : Nat} {i : Int32} {x : Int64} : xR mL_rink 9 ls (.long x :: .int i :: .ref a :: st) σ = (hlng σ 4 a).bind (fun q => if xin i q.1 = true then xR mL_rink 10 ls (st) (hup σ a (.inl (4, q.1, .inr (.inl (vp_updL q.2 i.toNatClampNeg x))))) else none) := y_last xe_L_rink dL_rink_9
theorem r_L_rink_10 {ls : xL} {st : List Value} {σ : xS}  : xR mL_rink 10 ls (st) σ = xR mL_rink 21 ls (st) σ := y_goto xe_L_rink dL_rink_10 (by decide)
theorem r_L_rink_15 {ls : xL} {st : List Value} {σ : xS}  : xR mL_rink 15 ls (st) σ = xR mL_rink 16 ls (.int (nI 1) :: st) σ := y_iconst xe_L_rink dL_rink_15 (by decide +kernel)
theorem r_L_rink_16 {ls : xL} {σ : xS} {x : Int32} : xR mL_rink 16 ls ([.int x]) σ = some (.inl (some (.int x)), σ) := y_iret xe_L_rink dL_rink_16 rfl
theorem r_L_rink_19 {ls : xL} {st : List Value} {σ : xS}  : xR mL_rink 19 ls (st) σ = xR mL_rink 20 ls (.int (nI 2) :: st) σ := y_iconst xe_L_rink dL_rink_19 (by decide +kernel)
theorem r_L_rink_20 {ls : xL} {σ : xS} {x : Int32} : xR mL_rink 20 ls ([.int x]) σ = some (.inl (some (.int x)), σ) := y_iret xe_L_rink dL_rink_20 rfl
theorem r_L_rink_21 {ls : xL} {st : List Value} {σ : xS}  : xR mL_rink 21 ls (st) σ = xR mL_rink 22 ls (.int (nI 0) :: st) σ := y_iconst xe_L_rink dL_rink_21 (by decide +kernel)
theorem r_L_rink_22 {ls : xL} {σ : xS} {x : Int32} : xR mL_rink 22 ls ([.int x]) σ = some (.inl (some (.int x)), σ) := y_iret xe_L_rink dL_rink_22 rfl
theorem r_L_count_0 {ls : xL} {st : List Value} {σ : xS}  : xR mL_count 0 ls (st) σ = gA (lget ls 2) (fun x => xR mL_count 1 ls (.ref x :: st) σ) := y_aload_n xe_L_count dL_count_0
theorem r_L_count_1 {ls : xL} {st : List Value} {σ : xS}  : xR mL_count 1 ls (st) σ = xR mL_count 2 ls (.int (nI 0) :: st) σ := y_iconst xe_L_count dL_count_1 (by decide +kernel)
theorem r_L_count_2 {ls : xL} {st : List Value} {σ : xS}  : xR mL_count 2 ls (st) σ = gA (lget ls 0) (fun x => xR mL_count 3 ls (.ref x :: st) σ) := y_aload_n xe_L_count dL_count_2
theorem r_L_count_3 {ls : xL} {st : List Value} {σ : xS}  : xR mL_count 3 ls (st) σ = gI (lget ls 1) (fun x => xR mL_count 4 ls (.int x :: st) σ) := y_iload_n xe_L_count dL_count_3
theorem r_L_count_4 {ls : xL} {σ : xS} {a b : Nat} {i : Int32} {x0 : Int32} (hc : hcls σ a = some 5) : xR mL_count 4 ls [.int x0, .ref a, .int i, .ref b] σ = (match xC1 mX6_count [.ref a, .int x0] σ with
      | none => none
      | some (.inl v, σ2) => xR mL_count 7 ls (v.toList ++ [.int i, .ref b]) σ2
      | some (.inr x, σ2) => (match xcat mL_count 4 x ls with
        | some (pc2, l2) => xR mL_count pc2 l2 [] σ2
        | none => none)) := y_cT (as := [.ref a, .int x0]) (as2 := [.int x0]) (r := (vwCl[5]?).getD default) xe_L_count dL_count_4 cl_8_56 rfl rfl rfl rfl xe_X6_count ⟨Nat.le_of_ble_eq_true rfl, Nat.le_of_ble_eq_true rfl⟩ (Nat.le_of_ble_eq_true rfl) (Nat.le_of_ble_eq_true rfl) hc
theorem r_L_count_7 {ls : xL} {st : List Value} {σ : xS} {x : Int32} : xR mL_count 7 ls (.int x :: st) σ = xR mL_count 8 ls (.long x.toInt64 :: st) σ := y_i2l xe_L_count dL_count_7
theorem r_L_count_8 {ls : xL} {st : List Value} {σ : xS} {a : Nat} {i : Int32} {x : Int64} : xR mL_count 8 ls (.long x :: .int i :: .ref a :: st) σ = (hlng σ 4 a).bind (fun q => if xin i q.1 = true then xR mL_count 9 ls (st) (hup σ a (.inl (4, q.1, .inr (.inl (vp_updL q.2 i.toNatClampNeg x))))) else none) := y_last xe_L_count dL_count_8
theorem r_L_count_9 {ls : xL} {st : List Value} {σ : xS}  : xR mL_count 9 ls (st) σ = xR mL_count 15 ls (st) σ := y_goto xe_L_count dL_count_9 (by decide)
theorem r_L_count_13 {ls : xL} {st : List Value} {σ : xS}  : xR mL_count 13 ls (st) σ = xR mL_count 14 ls (.int (nI 1) :: st) σ := y_iconst xe_L_count dL_count_13 (by decide +kernel)
theorem r_L_count_14 {ls : xL} {σ : xS} {x : Int32} : xR mL_count 14 ls ([.int x]) σ = some (.inl (some (.int x)), σ) := y_iret xe_L_count dL_count_14 rfl
theorem r_L_count_15 {ls : xL} {st : List Value} {σ : xS}  : xR mL_count 15 ls (st) σ = xR mL_count 16 ls (.int (nI 0) :: st) σ := y_iconst xe_L_count dL_count_15 (by decide +kernel)
theorem r_L_count_16 {ls : xL} {σ : xS} {x : Int32} : xR mL_count 16 ls ([.int x]) σ = some (.inl (some (.int x)), σ) := y_iret xe_L_count dL_count_16 rfl
theorem r_L_setting_0 {ls : xL} {st : List Value} {σ : xS}  : xR mL_setting 0 ls (st) σ = gA (lget ls 2) (fun x => xR mL_setting 1 ls (.ref x :: st) σ) := y_aload_n xe_L_setting dL_setting_0
theorem r_L_setting_1 {ls : xL} {st : List Value} {σ : xS}  : xR mL_setting 1 ls (st) σ = xR mL_setting 2 ls (.int (nI 0) :: st) σ := y_iconst xe_L_setting dL_setting_1 (by decide +kernel)
theorem r_L_setting_2 {ls : xL} {st : List Value} {σ : xS}  : xR mL_setting 2 ls (st) σ = gA (lget ls 0) (fun x => xR mL_setting 3 ls (.ref x :: st) σ) := y_aload_n xe_L_setting dL_setting_2
theorem r_L_setting_3 {ls : xL} {st : List Value} {σ : xS}  : xR mL_setting 3 ls (st) σ = gI (lget ls 1) (fun x => xR mL_setting 4 ls (.int x :: st) σ) := y_iload_n xe_L_setting dL_setting_3
theorem r_L_setting_4 {ls : xL} {σ : xS} {a b : Nat} {i : Int32} {x0 : Int32} (hc : hcls σ a = some 5) : xR mL_setting 4 ls [.int x0, .ref a, .int i, .ref b] σ = (match xC1 mX6_setting [.ref a, .int x0] σ with
      | none => none
      | some (.inl v, σ2) => xR mL_setting 7 ls (v.toList ++ [.int i, .ref b]) σ2
      | some (.inr x, σ2) => (match xcat mL_setting 4 x ls with
        | some (pc2, l2) => xR mL_setting pc2 l2 [] σ2
        | none => none)) := y_cT (as := [.ref a, .int x0]) (as2 := [.int x0]) (r := (vwCl[5]?).getD default) xe_L_setting dL_setting_4 cl_8_59 rfl rfl rfl rfl xe_X6_setting ⟨Nat.le_of_ble_eq_true rfl, Nat.le_of_ble_eq_true rfl⟩ (Nat.le_of_ble_eq_true rfl) (Nat.le_of_ble_eq_true rfl) hc
theorem r_L_setting_7 {ls : xL} {st : List Value} {σ : xS} {x : Int32} : xR mL_setting 7 ls (.int x :: st) σ = xR mL_setting 8 ls (.long x.toInt64 :: st) σ := y_i2l xe_L_setting dL_setting_7
theorem r_L_setting_8 {ls : xL} {st : List Value} {σ : xS} {a : Nat} {i : Int32} {x : Int64} : xR mL_setting 8 ls (.long x :: .int i :: .ref a :: st) σ = (hlng σ 4 a).bind (fun q => if xin i q.1 = true then xR mL_setting 9 ls (st) (hup σ a (.inl (4, q.1, .inr (.inl (vp_updL q.2 i.toNatClampNeg x))))) else none) := y_last xe_L_setting dL_setting_8
theorem r_L_setting_9 {ls : xL} {st : List Value} {σ : xS}  : xR mL_setting 9 ls (st) σ = xR mL_setting 15 ls (st) σ := y_goto xe_L_setting dL_setting_9 (by decide)
theorem r_L_setting_13 {ls : xL} {st : List Value} {σ : xS}  : xR mL_setting 13 ls (st) σ = xR mL_setting 14 ls (.int (nI 1) :: st) σ := y_iconst xe_L_setting dL_setting_13 (by decide +kernel)
theorem r_L_setting_14 {ls : xL} {σ : xS} {x : Int32} : xR mL_setting 14 ls ([.int x]) σ = some (.inl (some (.int x)), σ) := y_iret xe_L_setting dL_setting_14 rfl
theorem r_L_setting_15 {ls : xL} {st : List Value} {σ : xS}  : xR mL_setting 15 ls (st) σ = xR mL_setting 16 ls (.int (nI 0) :: st) σ := y_iconst xe_L_setting dL_setting_15 (by decide +kernel)
theorem r_L_setting_16 {ls : xL} {σ : xS} {x : Int32} : xR mL_setting 16 ls ([.int x]) σ = some (.inl (some (.int x)), σ) := y_iret xe_L_setting dL_setting_16 rfl
theorem r_L_why_0 {ls : xL} {st : List Value} {σ : xS}  : xR mL_why 0 ls (st) σ = gA (lget ls 3) (fun x => xR mL_why 1 ls (.ref x :: st) σ) := y_aload_n xe_L_why dL_why_0
theorem r_L_why_1 {ls : xL} {st : List Value} {σ : xS}  : xR mL_why 1 ls (st) σ = xR mL_why 2 ls (.int (nI 0) :: st) σ := y_iconst xe_L_why dL_why_1 (by decide +kernel)
theorem r_L_why_2 {ls : xL} {st : List Value} {σ : xS}  : xR mL_why 2 ls (st) σ = gA (lget ls 0) (fun x => xR mL_why 3 ls (.ref x :: st) σ) := y_aload_n xe_L_why dL_why_2
theorem r_L_why_3 {ls : xL} {st : List Value} {σ : xS}  : xR mL_why 3 ls (st) σ = gI (lget ls 1) (fun x => xR mL_why 4 ls (.int x :: st) σ) := y_iload_n xe_L_why dL_why_3
theorem r_L_why_4 {ls : xL} {st : List Value} {σ : xS}  : xR mL_why 4 ls (st) σ = gI (lget ls 2) (fun x => xR mL_why 5 ls (.int x :: st) σ) := y_iload_n xe_L_why dL_why_4
theorem r_L_why_5 {ls : xL} {σ : xS} {a b : Nat} {i : Int32} {x0 : Int32} {x1 : Int32} (hc : hcls σ a = some 5) : xR mL_why 5 ls [.int x1, .int x0, .ref a, .int i, .ref b] σ = (match xC1 mX6_why [.ref a, .int x0, .int x1] σ with
      | none => none
      | some (.inl v, σ2) => xR mL_why 8 ls (v.toList ++ [.int i, .ref b]) σ2
      | some (.inr x, σ2) => (match xcat mL_why 5 x ls with
        | some (pc2, l2) => xR mL_why pc2 l2 [] σ2
        | none => none)) := y_cT (as := [.ref a, .int x0, .int x1]) (as2 := [.int x0, .int x1]) (r := (vwCl[5]?).getD default) xe_L_why dL_why_5 cl_8_62 rfl rfl rfl rfl xe_X6_why ⟨Nat.le_of_ble_eq_true rfl, Nat.le_of_ble_eq_true rfl⟩ (Nat.le_of_ble_eq_true rfl) (Nat.le_of_ble_eq_true rfl) hc
theorem r_L_why_8 {ls : xL} {st : List Value} {σ : xS} {x : Int32} : xR mL_why 8 ls (.int x :: st) σ = xR mL_why 9 ls (.long x.toInt64 :: st) σ := y_i2l xe_L_why dL_why_8
theorem r_L_why_9 {ls : xL} {st : List Value} {σ : xS} {a : Nat} {i : Int32} {x : Int64} : xR mL_why 9 ls (.long x :: .int i :: .ref a :: st) σ = (hlng σ 4 a).bind (fun q => if xin i q.1 = true then xR mL_why 10 ls (st) (hup σ a (.inl (4, q.1, .inr (.inl (vp_updL q.2 i.toNatClampNeg x))))) else none) := y_last xe_L_why dL_why_9
theorem r_L_why_10 {ls : xL} {st : List Value} {σ : xS}  : xR mL_why 10 ls (st) σ = xR mL_why 21 ls (st) σ := y_goto xe_L_why dL_why_10 (by decide)
theorem r_L_why_15 {ls : xL} {st : List Value} {σ : xS}  : xR mL_why 15 ls (st) σ = xR mL_why 16 ls (.int (nI 1) :: st) σ := y_iconst xe_L_why dL_why_15 (by decide +kernel)
theorem r_L_why_16 {ls : xL} {σ : xS} {x : Int32} : xR mL_why 16 ls ([.int x]) σ = some (.inl (some (.int x)), σ) := y_iret xe_L_why dL_why_16 rfl
theorem r_L_why_19 {ls : xL} {st : List Value} {σ : xS}  : xR mL_why 19 ls (st) σ = xR mL_why 20 ls (.int (nI 2) :: st) σ := y_iconst xe_L_why dL_why_19 (by decide +kernel)
theorem r_L_why_20 {ls : xL} {σ : xS} {x : Int32} : xR mL_why 20 ls ([.int x]) σ = some (.inl (some (.int x)), σ) := y_iret xe_L_why dL_why_20 rfl
theorem r_L_why_21 {ls : xL} {st : List Value} {σ : xS}  : xR mL_why 21 ls (st) σ = xR mL_why 22 ls (.int (nI 0) :: st) σ := y_iconst xe_L_why dL_why_21 (by decide +kernel)
theorem r_L_why_22 {ls : xL} {σ : xS} {x : Int32} : xR mL_why 22 ls ([.int x]) σ = some (.inl (some (.int x)), σ) := y_iret xe_L_why dL_why_22 rfl
theorem r_L_ifGlided_0 {ls : xL} {st : List Value} {σ : xS}  : xR mL_ifGlided 0 ls (st) σ = gA (lget ls 5) (fun x => xR mL_ifGlided 2 ls (.ref x :: st) σ) := y_aload xe_L_ifGlided dL_ifGlided_0
theorem r_L_ifGlided_2 {ls : xL} {st : List Value} {σ : xS}  : xR mL_ifGlided 2 ls (st) σ = xR mL_ifGlided 3 ls (.int (nI 0) :: st) σ := y_iconst xe_L_ifGlided dL_ifGlided_2 (by decide +kernel)
theorem r_L_ifGlided_3 {ls : xL} {st : List Value} {σ : xS}  : xR mL_ifGlided 3 ls (st) σ = gA (lget ls 0) (fun x => xR mL_ifGlided 4 ls (.ref x :: st) σ) := y_aload_n xe_L_ifGlided dL_ifGlided_3
theorem r_L_ifGlided_4 {ls : xL} {st : List Value} {σ : xS}  : xR mL_ifGlided 4 ls (st) σ = gI (lget ls 1) (fun x => xR mL_ifGlided 5 ls (.int x :: st) σ) := y_iload_n xe_L_ifGlided dL_ifGlided_4
theorem r_L_ifGlided_5 {ls : xL} {st : List Value} {σ : xS}  : xR mL_ifGlided 5 ls (st) σ = gI (lget ls 2) (fun x => xR mL_ifGlided 6 ls (.int x :: st) σ) := y_iload_n xe_L_ifGlided dL_ifGlided_5
theorem r_L_ifGlided_6 {ls : xL} {st : List Value} {σ : xS}  : xR mL_ifGlided 6 ls (st) σ = gI (lget ls 3) (fun x => xR mL_ifGlided 7 ls (.int x :: st) σ) := y_iload_n xe_L_ifGlided dL_ifGlided_6
theorem r_L_ifGlided_7 {ls : xL} {st : List Value} {σ : xS}  : xR mL_ifGlided 7 ls (st) σ = gI (lget ls 4) (fun x => xR mL_ifGlided 9 ls (.int x :: st) σ) := y_iload xe_L_ifGlided dL_ifGlided_7
theorem r_L_ifGlided_9 {ls : xL} {σ : xS} {a b : Nat} {i : Int32} {x0 : Int32} {x1 : Int32} {x2 : Int32} {x3 : Int32} (hc : hcls σ a = some 5) : xR mL_ifGlided 9 ls [.int x3, .int x2, .int x1, .int x0, .ref a, .int i, .ref b] σ = (match xC1 mX6_ifGlided [.ref a, .int x0, .int x1, .int x2, .int x3] σ with
      | none => none
      | some (.inl v, σ2) => xR mL_ifGlided 12 ls (v.toList ++ [.int i, .ref b]) σ2
      | some (.inr x, σ2) => (match xcat mL_ifGlided 9 x ls with
        | some (pc2, l2) => xR mL_ifGlided pc2 l2 [] σ2
        | none => none)) := y_cT (as := [.ref a, .int x0, .int x1, .int x2, .int x3]) (as2 := [.int x0, .int x1, .int x2, .int x3]) (r := (vwCl[5]?).getD default) xe_L_ifGlided dL_ifGlided_9 cl_8_65 rfl rfl rfl rfl xe_X6_ifGlided ⟨Nat.le_of_ble_eq_true rfl, Nat.le_of_ble_eq_true rfl⟩ (Nat.le_of_ble_eq_true rfl) (Nat.le_of_ble_eq_true rfl) hc
theorem r_L_ifGlided_12 {ls : xL} {st : List Value} {σ : xS} {x : Int32} : xR mL_ifGlided 12 ls (.int x :: st) σ = xR mL_ifGlided 13 ls (.long x.toInt64 :: st) σ := y_i2l xe_L_ifGlided dL_ifGlided_12
theorem r_L_ifGlided_13 {ls : xL} {st : List Value} {σ : xS} {a : Nat} {i : Int32} {x : Int64} : xR mL_ifGlided 13 ls (.long x :: .int i :: .ref a :: st) σ = (hlng σ 4 a).bind (fun q => if xin i q.1 = true then xR mL_ifGlided 14 ls (st) (hup σ a (.inl (4, q.1, .inr (.inl (vp_updL q.2 i.toNatClampNeg x))))) else none) := y_last xe_L_ifGlided dL_ifGlided_13
theorem r_L_ifGlided_14 {ls : xL} {st : List Value} {σ : xS}  : xR mL_ifGlided 14 ls (st) σ = xR mL_ifGlided 25 ls (st) σ := y_goto xe_L_ifGlided dL_ifGlided_14 (by decide)
theorem r_L_ifGlided_19 {ls : xL} {st : List Value} {σ : xS}  : xR mL_ifGlided 19 ls (st) σ = xR mL_ifGlided 20 ls (.int (nI 1) :: st) σ := y_iconst xe_L_ifGlided dL_ifGlided_19 (by decide +kernel)
theorem r_L_ifGlided_20 {ls : xL} {σ : xS} {x : Int32} : xR mL_ifGlided 20 ls ([.int x]) σ = some (.inl (some (.int x)), σ) := y_iret xe_L_ifGlided dL_ifGlided_20 rfl
theorem r_L_ifGlided_23 {ls : xL} {st : List Value} {σ : xS}  : xR mL_ifGlided 23 ls (st) σ = xR mL_ifGlided 24 ls (.int (nI 2) :: st) σ := y_iconst xe_L_ifGlided dL_ifGlided_23 (by decide +kernel)
theorem r_L_ifGlided_24 {ls : xL} {σ : xS} {x : Int32} : xR mL_ifGlided 24 ls ([.int x]) σ = some (.inl (some (.int x)), σ) := y_iret xe_L_ifGlided dL_ifGlided_24 rfl
theorem r_L_ifGlided_25 {ls : xL} {st : List Value} {σ : xS}  : xR mL_ifGlided 25 ls (st) σ = xR mL_ifGlided 26 ls (.int (nI 0) :: st) σ := y_iconst xe_L_ifGlided dL_ifGlided_25 (by decide +kernel)
theorem r_L_ifGlided_26 {ls : xL} {σ : xS} {x : Int32} : xR mL_ifGlided 26 ls ([.int x]) σ = some (.inl (some (.int x)), σ) := y_iret xe_L_ifGlided dL_ifGlided_26 rfl
theorem r_L_best_0 {ls : xL} {st : List Value} {σ : xS}  : xR mL_best 0 ls (st) σ = gA (lget ls 2) (fun x => xR mL_best 1 ls (.ref x :: st) σ) := y_aload_n xe_L_best dL_best_0
theorem r_L_best_1 {ls : xL} {st : List Value} {σ : xS}  : xR mL_best 1 ls (st) σ = xR mL_best 2 ls (.int (nI 0) :: st) σ := y_iconst xe_L_best dL_best_1 (by decide +kernel)
theorem r_L_best_2 {ls : xL} {st : List Value} {σ : xS}  : xR mL_best 2 ls (st) σ = gA (lget ls 0) (fun x => xR mL_best 3 ls (.ref x :: st) σ) := y_aload_n xe_L_best dL_best_2
theorem r_L_best_3 {ls : xL} {st : List Value} {σ : xS}  : xR mL_best 3 ls (st) σ = gI (lget ls 1) (fun x => xR mL_best 4 ls (.int x :: st) σ) := y_iload_n xe_L_best dL_best_3
theorem r_L_best_4 {ls : xL} {σ : xS} {a b : Nat} {i : Int32} {x0 : Int32} (hc : hcls σ a = some 5) : xR mL_best 4 ls [.int x0, .ref a, .int i, .ref b] σ = (match xC1 mX6_best [.ref a, .int x0] σ with
      | none => none
      | some (.inl v, σ2) => xR mL_best 7 ls (v.toList ++ [.int i, .ref b]) σ2
      | some (.inr x, σ2) => (match xcat mL_best 4 x ls with
        | some (pc2, l2) => xR mL_best pc2 l2 [] σ2
        | none => none)) := y_cT (as := [.ref a, .int x0]) (as2 := [.int x0]) (r := (vwCl[5]?).getD default) xe_L_best dL_best_4 cl_8_68 rfl rfl rfl rfl xe_X6_best ⟨Nat.le_of_ble_eq_true rfl, Nat.le_of_ble_eq_true rfl⟩ (Nat.le_of_ble_eq_true rfl) (Nat.le_of_ble_eq_true rfl) hc
theorem r_L_best_7 {ls : xL} {st : List Value} {σ : xS} {x : Int32} : xR mL_best 7 ls (.int x :: st) σ = xR mL_best 8 ls (.long x.toInt64 :: st) σ := y_i2l xe_L_best dL_best_7
theorem r_L_best_8 {ls : xL} {st : List Value} {σ : xS} {a : Nat} {i : Int32} {x : Int64} : xR mL_best 8 ls (.long x :: .int i :: .ref a :: st) σ = (hlng σ 4 a).bind (fun q => if xin i q.1 = true then xR mL_best 9 ls (st) (hup σ a (.inl (4, q.1, .inr (.inl (vp_updL q.2 i.toNatClampNeg x))))) else none) := y_last xe_L_best dL_best_8
theorem r_L_best_9 {ls : xL} {st : List Value} {σ : xS}  : xR mL_best 9 ls (st) σ = xR mL_best 15 ls (st) σ := y_goto xe_L_best dL_best_9 (by decide)
theorem r_L_best_13 {ls : xL} {st : List Value} {σ : xS}  : xR mL_best 13 ls (st) σ = xR mL_best 14 ls (.int (nI 1) :: st) σ := y_iconst xe_L_best dL_best_13 (by decide +kernel)
theorem r_L_best_14 {ls : xL} {σ : xS} {x : Int32} : xR mL_best 14 ls ([.int x]) σ = some (.inl (some (.int x)), σ) := y_iret xe_L_best dL_best_14 rfl
theorem r_L_best_15 {ls : xL} {st : List Value} {σ : xS}  : xR mL_best 15 ls (st) σ = xR mL_best 16 ls (.int (nI 0) :: st) σ := y_iconst xe_L_best dL_best_15 (by decide +kernel)
theorem r_L_best_16 {ls : xL} {σ : xS} {x : Int32} : xR mL_best 16 ls ([.int x]) σ = some (.inl (some (.int x)), σ) := y_iret xe_L_best dL_best_16 rfl
theorem r_L_law_0 {ls : xL} {st : List Value} {σ : xS}  : xR mL_law 0 ls (st) σ = if σ.2.2.1 = 0 ∧ σ.2.1 < 999 then xR mL_law 3 ls (.ref σ.2.1 :: st) (hnew σ (.inr (5, xblk 5)) (xblk 5).length) else none := y_new xe_L_law dL_law_0 nl_8_8
theorem r_L_law_3I {ls : xL} {st : List Value} {σ : xS} {x : Int32} : xR mL_law 3 ls (.int x :: st) σ = xR mL_law 4 ls (.int x :: .int x :: st) σ := y_dupI xe_L_law dL_law_3
theorem r_L_law_3A {ls : xL} {st : List Value} {σ : xS} {x : Nat} : xR mL_law 3 ls (.ref x :: st) σ = xR mL_law 4 ls (.ref x :: .ref x :: st) σ := y_dupA xe_L_law dL_law_3
theorem r_L_law_4 {ls : xL} {st : List Value} {σ : xS} {a : Nat}  : xR mL_law 4 ls (.ref a :: st) σ = yC (xwid st) (xC1 mX6_init [.ref a] σ) (fun v τ => xR mL_law 7 ls (v.toList ++ st) τ) := y_cI (as := [.ref a]) (as2 := []) xe_L_law dL_law_4 cl_8_71 rfl rfl xe_X6_init ⟨Nat.le_of_ble_eq_true rfl, Nat.le_of_ble_eq_true rfl⟩ (Nat.le_of_ble_eq_true rfl) (by decide)
theorem r_L_law_7 {ls : xL} {st : List Value} {σ : xS} {x : Nat} : xR mL_law 7 ls (.ref x :: st) σ = (lst1 ls 1 (some (.ref x))).bind (fun l => xR mL_law 8 l (st) σ) := y_astore_n xe_L_law dL_law_7
theorem r_L_law_8 {ls : xL} {st : List Value} {σ : xS}  : xR mL_law 8 ls (st) σ = if σ.2.2.1 = 0 ∧ σ.2.1 < 999 then xR mL_law 11 ls (.ref σ.2.1 :: st) (hnew σ (.inr (6, xblk 6)) (xblk 6).length) else none := y_new xe_L_law dL_law_8 nl_8_72
theorem r_L_law_11I {ls : xL} {st : List Value} {σ : xS} {x : Int32} : xR mL_law 11 ls (.int x :: st) σ = xR mL_law 12 ls (.int x :: .int x :: st) σ := y_dupI xe_L_law dL_law_11
theorem r_L_law_11A {ls : xL} {st : List Value} {σ : xS} {x : Nat} : xR mL_law 11 ls (.ref x :: st) σ = xR mL_law 12 ls (.ref x :: .ref x :: st) σ := y_dupA xe_L_law dL_law_11
theorem r_L_law_12 {ls : xL} {st : List Value} {σ : xS} {a : Nat}  : xR mL_law 12 ls (.ref a :: st) σ = yC (xwid st) (xC1 mX7_init [.ref a] σ) (fun v τ => xR mL_law 15 ls (v.toList ++ st) τ) := y_cI (as := [.ref a]) (as2 := []) xe_L_law dL_law_12 cl_8_74 rfl rfl xe_X7_init ⟨Nat.le_of_ble_eq_true rfl, Nat.le_of_ble_eq_true rfl⟩ (Nat.le_of_ble_eq_true rfl) (by decide)
theorem r_L_law_15 {ls : xL} {st : List Value} {σ : xS} {x : Nat} : xR mL_law 15 ls (.ref x :: st) σ = (lst1 ls 2 (some (.ref x))).bind (fun l => xR mL_law 16 l (st) σ) := y_astore_n xe_L_law dL_law_15
theorem r_L_law_16 {ls : xL} {st : List Value} {σ : xS}  : xR mL_law 16 ls (st) σ = xR mL_law 17 ls (.int (nI 1) :: st) σ := y_iconst xe_L_law dL_law_16 (by decide +kernel)
theorem r_L_law_17 {ls : xL} {st : List Value} {σ : xS} {n : Int32} : xR mL_law 17 ls (.int n :: st) σ = if ¬ n < 0 ∧ n.toNatClampNeg ≤ 10000 ∧ σ.2.2.1 = 0 ∧ σ.2.1 < 999 then xR mL_law 19 ls (.ref σ.2.1 :: st) (hnew σ (.inl (4, n.toNatClampNeg, .inr (.inl (fun _ => 0)))) n.toNatClampNeg) else none := y_newaJ xe_L_law dL_law_17
theorem r_L_law_19 {ls : xL} {st : List Value} {σ : xS} {x : Nat} : xR mL_law 19 ls (.ref x :: st) σ = (lst1 ls 3 (some (.ref x))).bind (fun l => xR mL_law 20 l (st) σ) := y_astore_n xe_L_law dL_law_19
theorem r_L_law_20 {ls : xL} {st : List Value} {σ : xS}  : xR mL_law 20 ls (st) σ = xR mL_law 21 ls (.int (nI 0) :: st) σ := y_iconst xe_L_law dL_law_20 (by decide +kernel)
theorem r_L_law_21 {ls : xL} {st : List Value} {σ : xS} {x : Int32} : xR mL_law 21 ls (.int x :: st) σ = (lst1 ls 4 (some (.int x))).bind (fun l => xR mL_law 23 l (st) σ) := y_istore xe_L_law dL_law_21
theorem r_L_law_23 {ls : xL} {st : List Value} {σ : xS}  : xR mL_law 23 ls (st) σ = gI (lget ls 4) (fun x => xR mL_law 25 ls (.int x :: st) σ) := y_iload xe_L_law dL_law_23
theorem r_L_law_25 {ls : xL} {st : List Value} {σ : xS}  : xR mL_law 25 ls (st) σ = gA (lget ls 0) (fun x => xR mL_law 26 ls (.ref x :: st) σ) := y_aload_n xe_L_law dL_law_25
theorem r_L_law_26 {ls : xL} {st : List Value} {σ : xS} {a : Nat} : xR mL_law 26 ls (.ref a :: st) σ = (hint σ 9 a).bind (fun q => xR mL_law 27 ls (.int (nI q.1) :: st) σ) := y_alen9 xe_L_law dL_law_26 rfl
theorem r_L_law_27 {ls : xL} {st : List Value} {σ : xS}  : xR mL_law 27 ls (st) σ = xR mL_law 28 ls (.int (nI 5) :: st) σ := y_iconst xe_L_law dL_law_27 (by decide +kernel)
theorem r_L_law_28 {ls : xL} {st : List Value} {σ : xS} {x y : Int32} : xR mL_law 28 ls (.int y :: .int x :: st) σ = xR mL_law 29 ls (.int (x - y) :: st) σ := y_isub xe_L_law dL_law_28
theorem r_L_law_29 {ls : xL} {st : List Value} {σ : xS} {x y : Int32} : xR mL_law 29 ls (.int y :: .int x :: st) σ = if y < x then xR mL_law 1429 ls (st) σ else xR mL_law 32 ls (st) σ := y_icmp_gt xe_L_law dL_law_29 (by decide)
theorem r_L_law_32 {ls : xL} {st : List Value} {σ : xS}  : xR mL_law 32 ls (st) σ = gA (lget ls 0) (fun x => xR mL_law 33 ls (.ref x :: st) σ) := y_aload_n xe_L_law dL_law_32
theorem r_L_law_33 {ls : xL} {st : List Value} {σ : xS}  : xR mL_law 33 ls (st) σ = gI (lget ls 4) (fun x => xR mL_law 35 ls (.int x :: st) σ) := y_iload xe_L_law dL_law_33
theorem r_L_law_35 {ls : xL} {st : List Value} {σ : xS} {a : Nat} {i : Int32} : xR mL_law 35 ls (.int i :: .ref a :: st) σ = (hl9 σ a).bind (fun q => if xin i q.1 = true then xR mL_law 36 ls (.int (q.2 i.toNatClampNeg) :: st) σ else none) := y_iald9 xe_L_law dL_law_35 rfl
theorem r_L_law_36 {ls : xL} {st : List Value} {σ : xS}  : xR mL_law 36 ls (st) σ = xR mL_law 38 ls (.int (nI 31) :: st) σ := y_bipush xe_L_law dL_law_36 (by decide +kernel)
theorem r_L_law_38 {ls : xL} {st : List Value} {σ : xS} {x y : Int32} : xR mL_law 38 ls (.int y :: .int x :: st) σ = xR mL_law 39 ls (.int (x &&& y) :: st) σ := y_iand xe_L_law dL_law_38
theorem r_L_law_39 {ls : xL} {st : List Value} {σ : xS} {x : Int32} : xR mL_law 39 ls (.int x :: st) σ = (yts 39 1384 0 24 #[113, 193, 206, 274, 342, 410, 466, 479, 492, 536, 549, 593, 637, 717, 809, 877, 945, 1001, 1057, 1125, 1217, 1273, 1286, 1327, 1370] x).bind (fun t => xR mL_law t ls st σ) := y_tsw xe_L_law dL_law_39 (by decide) (by decide)
theorem r_L_law_152 {ls : xL} {st : List Value} {σ : xS}  : xR mL_law 152 ls (st) σ = gA (lget ls 1) (fun x => xR mL_law 153 ls (.ref x :: st) σ) := y_aload_n xe_L_law dL_law_152
theorem r_L_law_153 {ls : xL} {st : List Value} {σ : xS}  : xR mL_law 153 ls (st) σ = gA (lget ls 0) (fun x => xR mL_law 154 ls (.ref x :: st) σ) := y_aload_n xe_L_law dL_law_153
theorem r_L_law_154 {ls : xL} {st : List Value} {σ : xS}  : xR mL_law 154 ls (st) σ = gI (lget ls 4) (fun x => xR mL_law 156 ls (.int x :: st) σ) := y_iload xe_L_law dL_law_154
theorem r_L_law_156 {ls : xL} {st : List Value} {σ : xS}  : xR mL_law 156 ls (st) σ = xR mL_law 157 ls (.int (nI 1) :: st) σ := y_iconst xe_L_law dL_law_156 (by decide +kernel)
theorem r_L_law_157 {ls : xL} {st : List Value} {σ : xS} {x y : Int32} : xR mL_law 157 ls (.int y :: .int x :: st) σ = xR mL_law 158 ls (.int (x + y) :: st) σ := y_iadd xe_L_law dL_law_157
theorem r_L_law_158 {ls : xL} {st : List Value} {σ : xS} {a : Nat} {i : Int32} : xR mL_law 158 ls (.int i :: .ref a :: st) σ = (hl9 σ a).bind (fun q => if xin i q.1 = true then xR mL_law 159 ls (.int (q.2 i.toNatClampNeg) :: st) σ else none) := y_iald9 xe_L_law dL_law_158 rfl
theorem r_L_law_159 {ls : xL} {st : List Value} {σ : xS}  : xR mL_law 159 ls (st) σ = gA (lget ls 0) (fun x => xR mL_law 160 ls (.ref x :: st) σ) := y_aload_n xe_L_law dL_law_159
theorem r_L_law_160 {ls : xL} {st : List Value} {σ : xS}  : xR mL_law 160 ls (st) σ = gI (lget ls 4) (fun x => xR mL_law 162 ls (.int x :: st) σ) := y_iload xe_L_law dL_law_160
theorem r_L_law_162 {ls : xL} {st : List Value} {σ : xS}  : xR mL_law 162 ls (st) σ = xR mL_law 163 ls (.int (nI 2) :: st) σ := y_iconst xe_L_law dL_law_162 (by decide +kernel)
theorem r_L_law_163 {ls : xL} {st : List Value} {σ : xS} {x y : Int32} : xR mL_law 163 ls (.int y :: .int x :: st) σ = xR mL_law 164 ls (.int (x + y) :: st) σ := y_iadd xe_L_law dL_law_163
theorem r_L_law_164 {ls : xL} {st : List Value} {σ : xS} {a : Nat} {i : Int32} : xR mL_law 164 ls (.int i :: .ref a :: st) σ = (hl9 σ a).bind (fun q => if xin i q.1 = true then xR mL_law 165 ls (.int (q.2 i.toNatClampNeg) :: st) σ else none) := y_iald9 xe_L_law dL_law_164 rfl
theorem r_L_law_165 {ls : xL} {st : List Value} {σ : xS}  : xR mL_law 165 ls (st) σ = gA (lget ls 0) (fun x => xR mL_law 166 ls (.ref x :: st) σ) := y_aload_n xe_L_law dL_law_165
theorem r_L_law_166 {ls : xL} {st : List Value} {σ : xS}  : xR mL_law 166 ls (st) σ = gI (lget ls 4) (fun x => xR mL_law 168 ls (.int x :: st) σ) := y_iload xe_L_law dL_law_166
theorem r_L_law_168 {ls : xL} {st : List Value} {σ : xS}  : xR mL_law 168 ls (st) σ = xR mL_law 169 ls (.int (nI 3) :: st) σ := y_iconst xe_L_law dL_law_168 (by decide +kernel)
theorem r_L_law_169 {ls : xL} {st : List Value} {σ : xS} {x y : Int32} : xR mL_law 169 ls (.int y :: .int x :: st) σ = xR mL_law 170 ls (.int (x + y) :: st) σ := y_iadd xe_L_law dL_law_169
theorem r_L_law_170 {ls : xL} {st : List Value} {σ : xS} {a : Nat} {i : Int32} : xR mL_law 170 ls (.int i :: .ref a :: st) σ = (hl9 σ a).bind (fun q => if xin i q.1 = true then xR mL_law 171 ls (.int (q.2 i.toNatClampNeg) :: st) σ else none) := y_iald9 xe_L_law dL_law_170 rfl
theorem r_L_law_171 {ls : xL} {st : List Value} {σ : xS}  : xR mL_law 171 ls (st) σ = gA (lget ls 3) (fun x => xR mL_law 172 ls (.ref x :: st) σ) := y_aload_n xe_L_law dL_law_171
theorem r_L_law_172 {ls : xL} {st : List Value} {σ : xS} {x0 : Nat} {x1 : Int32} {x2 : Int32} {x3 : Int32} {x4 : Nat} : xR mL_law 172 ls (.ref x4 :: .int x3 :: .int x2 :: .int x1 :: .ref x0 :: st) σ = yC (xwid st) (xC1 mL_glide [.ref x0, .int x1, .int x2, .int x3, .ref x4] σ) (fun v τ => xR mL_law 175 ls (v.toList ++ st) τ) := y_cL (as := [.ref x0, .int x1, .int x2, .int x3, .ref x4]) xe_L_law dL_law_172 cl_8_75 rfl xe_L_glide ⟨Nat.le_of_ble_eq_true rfl, Nat.le_of_ble_eq_true rfl⟩ (Nat.le_of_ble_eq_true rfl) (by decide)
theorem r_L_law_175 {ls : xL} {st : List Value} {σ : xS} {x : Int32} : xR mL_law 175 ls (.int x :: st) σ = (lst1 ls 5 (some (.int x))).bind (fun l => xR mL_law 177 l (st) σ) := y_istore xe_L_law dL_law_175
theorem r_L_law_177 {ls : xL} {st : List Value} {σ : xS}  : xR mL_law 177 ls (st) σ = gA (lget ls 2) (fun x => xR mL_law 178 ls (.ref x :: st) σ) := y_aload_n xe_L_law dL_law_177
theorem r_L_law_178 {ls : xL} {st : List Value} {σ : xS}  : xR mL_law 178 ls (st) σ = gA (lget ls 0) (fun x => xR mL_law 179 ls (.ref x :: st) σ) := y_aload_n xe_L_law dL_law_178
theorem r_L_law_179 {ls : xL} {st : List Value} {σ : xS}  : xR mL_law 179 ls (st) σ = gI (lget ls 4) (fun x => xR mL_law 181 ls (.int x :: st) σ) := y_iload xe_L_law dL_law_179
theorem r_L_law_181 {ls : xL} {st : List Value} {σ : xS}  : xR mL_law 181 ls (st) σ = xR mL_law 182 ls (.int (nI 1) :: st) σ := y_iconst xe_L_law dL_law_181 (by decide +kernel)
theorem r_L_law_182 {ls : xL} {st : List Value} {σ : xS} {x y : Int32} : xR mL_law 182 ls (.int y :: .int x :: st) σ = xR mL_law 183 ls (.int (x + y) :: st) σ := y_iadd xe_L_law dL_law_182
theorem r_L_law_183 {ls : xL} {st : List Value} {σ : xS} {a : Nat} {i : Int32} : xR mL_law 183 ls (.int i :: .ref a :: st) σ = (hl9 σ a).bind (fun q => if xin i q.1 = true then xR mL_law 184 ls (.int (q.2 i.toNatClampNeg) :: st) σ else none) := y_iald9 xe_L_law dL_law_183 rfl
theorem r_L_law_184 {ls : xL} {st : List Value} {σ : xS}  : xR mL_law 184 ls (st) σ = gA (lget ls 0) (fun x => xR mL_law 185 ls (.ref x :: st) σ) := y_aload_n xe_L_law dL_law_184
theorem r_L_law_185 {ls : xL} {st : List Value} {σ : xS}  : xR mL_law 185 ls (st) σ = gI (lget ls 4) (fun x => xR mL_law 187 ls (.int x :: st) σ) := y_iload xe_L_law dL_law_185
theorem r_L_law_187 {ls : xL} {st : List Value} {σ : xS}  : xR mL_law 187 ls (st) σ = xR mL_law 188 ls (.int (nI 2) :: st) σ := y_iconst xe_L_law dL_law_187 (by decide +kernel)
theorem r_L_law_188 {ls : xL} {st : List Value} {σ : xS} {x y : Int32} : xR mL_law 188 ls (.int y :: .int x :: st) σ = xR mL_law 189 ls (.int (x + y) :: st) σ := y_iadd xe_L_law dL_law_188
theorem r_L_law_189 {ls : xL} {st : List Value} {σ : xS} {a : Nat} {i : Int32} : xR mL_law 189 ls (.int i :: .ref a :: st) σ = (hl9 σ a).bind (fun q => if xin i q.1 = true then xR mL_law 190 ls (.int (q.2 i.toNatClampNeg) :: st) σ else none) := y_iald9 xe_L_law dL_law_189 rfl
theorem r_L_law_190 {ls : xL} {st : List Value} {σ : xS}  : xR mL_law 190 ls (st) σ = gA (lget ls 0) (fun x => xR mL_law 191 ls (.ref x :: st) σ) := y_aload_n xe_L_law dL_law_190
theorem r_L_law_191 {ls : xL} {st : List Value} {σ : xS}  : xR mL_law 191 ls (st) σ = gI (lget ls 4) (fun x => xR mL_law 193 ls (.int x :: st) σ) := y_iload xe_L_law dL_law_191
theorem r_L_law_193 {ls : xL} {st : List Value} {σ : xS}  : xR mL_law 193 ls (st) σ = xR mL_law 194 ls (.int (nI 3) :: st) σ := y_iconst xe_L_law dL_law_193 (by decide +kernel)
theorem r_L_law_194 {ls : xL} {st : List Value} {σ : xS} {x y : Int32} : xR mL_law 194 ls (.int y :: .int x :: st) σ = xR mL_law 195 ls (.int (x + y) :: st) σ := y_iadd xe_L_law dL_law_194
theorem r_L_law_195 {ls : xL} {st : List Value} {σ : xS} {a : Nat} {i : Int32} : xR mL_law 195 ls (.int i :: .ref a :: st) σ = (hl9 σ a).bind (fun q => if xin i q.1 = true then xR mL_law 196 ls (.int (q.2 i.toNatClampNeg) :: st) σ else none) := y_iald9 xe_L_law dL_law_195 rfl
theorem r_L_law_196 {ls : xL} {st : List Value} {σ : xS} {a : Nat} {x0 : Int32} {x1 : Int32} {x2 : Int32} : xR mL_law 196 ls (.int x2 :: .int x1 :: .int x0 :: .ref a :: st) σ = yV (hcls σ a) 6 (xwid st) (xC1 mX7_glide [.ref a, .int x0, .int x1, .int x2] σ) (fun v τ => xR mL_law 199 ls (v.toList ++ st) τ) := y_cV (as := [.ref a, .int x0, .int x1, .int x2]) (as2 := [.int x0, .int x1, .int x2]) (r := (vwCl[6]?).getD default) xe_L_law dL_law_196 cl_8_80 rfl rfl rfl rfl xe_X7_glide ⟨Nat.le_of_ble_eq_true rfl, Nat.le_of_ble_eq_true rfl⟩ (Nat.le_of_ble_eq_true rfl) (by decide)
theorem r_L_law_199 {ls : xL} {st : List Value} {σ : xS} {x : Int32} : xR mL_law 199 ls (.int x :: st) σ = (lst1 ls 6 (some (.int x))).bind (fun l => xR mL_law 201 l (st) σ) := y_istore xe_L_law dL_law_199
theorem r_L_law_201 {ls : xL} {st : List Value} {σ : xS}  : xR mL_law 201 ls (st) σ = gA (lget ls 2) (fun x => xR mL_law 202 ls (.ref x :: st) σ) := y_aload_n xe_L_law dL_law_201
theorem r_L_law_202 {ls : xL} {st : List Value} {σ : xS} {a : Nat}  : xR mL_law 202 ls (.ref a :: st) σ = yV (hcls σ a) 6 (xwid st) (xC1 mX7_thrown [.ref a] σ) (fun v τ => xR mL_law 205 ls (v.toList ++ st) τ) := y_cV (as := [.ref a]) (as2 := []) (r := (vwCl[6]?).getD default) xe_L_law dL_law_202 cl_8_81 rfl rfl rfl rfl xe_X7_thrown ⟨Nat.le_of_ble_eq_true rfl, Nat.le_of_ble_eq_true rfl⟩ (Nat.le_of_ble_eq_true rfl) (by decide)
theorem r_L_law_205 {ls : xL} {st : List Value} {σ : xS}  : xR mL_law 205 ls (st) σ = gI (lget ls 5) (fun x => xR mL_law 207 ls (.int x :: st) σ) := y_iload xe_L_law dL_law_205
theorem r_L_law_207 {ls : xL} {st : List Value} {σ : xS} {x y : Int32} : xR mL_law 207 ls (.int y :: .int x :: st) σ = if x = y then xR mL_law 212 ls (st) σ else xR mL_law 210 ls (st) σ := y_icmp_eq xe_L_law dL_law_207 (by decide)
theorem r_L_law_210 {ls : xL} {st : List Value} {σ : xS}  : xR mL_law 210 ls (st) σ = xR mL_law 211 ls (.int (nI 0) :: st) σ := y_iconst xe_L_law dL_law_210 (by decide +kernel)
theorem r_L_law_211 {ls : xL} {σ : xS} {x : Int32} : xR mL_law 211 ls ([.int x]) σ = if x = 0 ∨ x = 1 then some (.inl (some (.int x)), σ) else none := y_zret xe_L_law dL_law_211 rfl
theorem r_L_law_212 {ls : xL} {st : List Value} {σ : xS}  : xR mL_law 212 ls (st) σ = gI (lget ls 5) (fun x => xR mL_law 214 ls (.int x :: st) σ) := y_iload xe_L_law dL_law_212
theorem r_L_law_214 {ls : xL} {st : List Value} {σ : xS} {x : Int32} : xR mL_law 214 ls (.int x :: st) σ = if ¬ x = 0 then xR mL_law 229 ls (st) σ else xR mL_law 217 ls (st) σ := y_if_ne xe_L_law dL_law_214 (by decide)
theorem r_L_law_217 {ls : xL} {st : List Value} {σ : xS}  : xR mL_law 217 ls (st) σ = gA (lget ls 3) (fun x => xR mL_law 218 ls (.ref x :: st) σ) := y_aload_n xe_L_law dL_law_217
theorem r_L_law_218 {ls : xL} {st : List Value} {σ : xS}  : xR mL_law 218 ls (st) σ = xR mL_law 219 ls (.int (nI 0) :: st) σ := y_iconst xe_L_law dL_law_218 (by decide +kernel)
theorem r_L_law_219 {ls : xL} {st : List Value} {σ : xS} {a : Nat} {i : Int32} : xR mL_law 219 ls (.int i :: .ref a :: st) σ = (hlng σ 4 a).bind (fun q => if xin i q.1 = true then xR mL_law 220 ls (.long (q.2 i.toNatClampNeg) :: st) σ else none) := y_lald xe_L_law dL_law_219
theorem r_L_law_220 {ls : xL} {st : List Value} {σ : xS}  : xR mL_law 220 ls (st) σ = gI (lget ls 6) (fun x => xR mL_law 222 ls (.int x :: st) σ) := y_iload xe_L_law dL_law_220
theorem r_L_law_222 {ls : xL} {st : List Value} {σ : xS} {x : Int32} : xR mL_law 222 ls (.int x :: st) σ = xR mL_law 223 ls (.long x.toInt64 :: st) σ := y_i2l xe_L_law dL_law_222
theorem r_L_law_223 {ls : xL} {st : List Value} {σ : xS} {x y : Int64} : xR mL_law 223 ls (.long y :: .long x :: st) σ = xR mL_law 224 ls (.int (lg_cmp x y) :: st) σ := y_lcmp xe_L_law dL_law_223
theorem r_L_law_224 {ls : xL} {st : List Value} {σ : xS} {x : Int32} : xR mL_law 224 ls (.int x :: st) σ = if x = 0 then xR mL_law 229 ls (st) σ else xR mL_law 227 ls (st) σ := y_if_eq xe_L_law dL_law_224 (by decide)
theorem r_L_law_227 {ls : xL} {st : List Value} {σ : xS}  : xR mL_law 227 ls (st) σ = xR mL_law 228 ls (.int (nI 0) :: st) σ := y_iconst xe_L_law dL_law_227 (by decide +kernel)
theorem r_L_law_228 {ls : xL} {σ : xS} {x : Int32} : xR mL_law 228 ls ([.int x]) σ = if x = 0 ∨ x = 1 then some (.inl (some (.int x)), σ) else none := y_zret xe_L_law dL_law_228 rfl
theorem r_L_law_229 {ls : xL} {st : List Value} {σ : xS}  : xR mL_law 229 ls (st) σ = xR mL_law 1423 ls (st) σ := y_goto xe_L_law dL_law_229 (by decide)
theorem r_L_law_232 {ls : xL} {st : List Value} {σ : xS}  : xR mL_law 232 ls (st) σ = gA (lget ls 1) (fun x => xR mL_law 233 ls (.ref x :: st) σ) := y_aload_n xe_L_law dL_law_232
theorem r_L_law_233 {ls : xL} {st : List Value} {σ : xS} {a : Nat}  : xR mL_law 233 ls (.ref a :: st) σ = yV (hcls σ a) 5 (xwid st) (xC1 mX6_thaw [.ref a] σ) (fun v τ => xR mL_law 236 ls (v.toList ++ st) τ) := y_cV (as := [.ref a]) (as2 := []) (r := (vwCl[5]?).getD default) xe_L_law dL_law_233 cl_8_84 rfl rfl rfl rfl xe_X6_thaw ⟨Nat.le_of_ble_eq_true rfl, Nat.le_of_ble_eq_true rfl⟩ (Nat.le_of_ble_eq_true rfl) (by decide)
theorem r_L_law_236 {ls : xL} {st : List Value} {σ : xS}  : xR mL_law 236 ls (st) σ = gA (lget ls 2) (fun x => xR mL_law 237 ls (.ref x :: st) σ) := y_aload_n xe_L_law dL_law_236
theorem r_L_law_237 {ls : xL} {st : List Value} {σ : xS} {a : Nat}  : xR mL_law 237 ls (.ref a :: st) σ = yV (hcls σ a) 6 (xwid st) (xC1 mX7_thaw [.ref a] σ) (fun v τ => xR mL_law 240 ls (v.toList ++ st) τ) := y_cV (as := [.ref a]) (as2 := []) (r := (vwCl[6]?).getD default) xe_L_law dL_law_237 cl_8_87 rfl rfl rfl rfl xe_X7_thaw ⟨Nat.le_of_ble_eq_true rfl, Nat.le_of_ble_eq_true rfl⟩ (Nat.le_of_ble_eq_true rfl) (by decide)
theorem r_L_law_240 {ls : xL} {st : List Value} {σ : xS} {x y : Int32} : xR mL_law 240 ls (.int y :: .int x :: st) σ = if x = y then xR mL_law 1423 ls (st) σ else xR mL_law 243 ls (st) σ := y_icmp_eq xe_L_law dL_law_240 (by decide)
theorem r_L_law_243 {ls : xL} {st : List Value} {σ : xS}  : xR mL_law 243 ls (st) σ = xR mL_law 244 ls (.int (nI 0) :: st) σ := y_iconst xe_L_law dL_law_243 (by decide +kernel)
theorem r_L_law_244 {ls : xL} {σ : xS} {x : Int32} : xR mL_law 244 ls ([.int x]) σ = if x = 0 ∨ x = 1 then some (.inl (some (.int x)), σ) else none := y_zret xe_L_law dL_law_244 rfl
theorem r_L_law_245 {ls : xL} {st : List Value} {σ : xS}  : xR mL_law 245 ls (st) σ = gA (lget ls 1) (fun x => xR mL_law 246 ls (.ref x :: st) σ) := y_aload_n xe_L_law dL_law_245
theorem r_L_law_246 {ls : xL} {st : List Value} {σ : xS}  : xR mL_law 246 ls (st) σ = gA (lget ls 0) (fun x => xR mL_law 247 ls (.ref x :: st) σ) := y_aload_n xe_L_law dL_law_246
theorem r_L_law_247 {ls : xL} {st : List Value} {σ : xS}  : xR mL_law 247 ls (st) σ = gI (lget ls 4) (fun x => xR mL_law 249 ls (.int x :: st) σ) := y_iload xe_L_law dL_law_247
theorem r_L_law_249 {ls : xL} {st : List Value} {σ : xS}  : xR mL_law 249 ls (st) σ = xR mL_law 250 ls (.int (nI 1) :: st) σ := y_iconst xe_L_law dL_law_249 (by decide +kernel)
theorem r_L_law_250 {ls : xL} {st : List Value} {σ : xS} {x y : Int32} : xR mL_law 250 ls (.int y :: .int x :: st) σ = xR mL_law 251 ls (.int (x + y) :: st) σ := y_iadd xe_L_law dL_law_250
theorem r_L_law_251 {ls : xL} {st : List Value} {σ : xS} {a : Nat} {i : Int32} : xR mL_law 251 ls (.int i :: .ref a :: st) σ = (hl9 σ a).bind (fun q => if xin i q.1 = true then xR mL_law 252 ls (.int (q.2 i.toNatClampNeg) :: st) σ else none) := y_iald9 xe_L_law dL_law_251 rfl
theorem r_L_law_252 {ls : xL} {st : List Value} {σ : xS}  : xR mL_law 252 ls (st) σ = gA (lget ls 0) (fun x => xR mL_law 253 ls (.ref x :: st) σ) := y_aload_n xe_L_law dL_law_252
theorem r_L_law_253 {ls : xL} {st : List Value} {σ : xS}  : xR mL_law 253 ls (st) σ = gI (lget ls 4) (fun x => xR mL_law 255 ls (.int x :: st) σ) := y_iload xe_L_law dL_law_253
theorem r_L_law_255 {ls : xL} {st : List Value} {σ : xS}  : xR mL_law 255 ls (st) σ = xR mL_law 256 ls (.int (nI 2) :: st) σ := y_iconst xe_L_law dL_law_255 (by decide +kernel)
theorem r_L_law_256 {ls : xL} {st : List Value} {σ : xS} {x y : Int32} : xR mL_law 256 ls (.int y :: .int x :: st) σ = xR mL_law 257 ls (.int (x + y) :: st) σ := y_iadd xe_L_law dL_law_256
theorem r_L_law_257 {ls : xL} {st : List Value} {σ : xS} {a : Nat} {i : Int32} : xR mL_law 257 ls (.int i :: .ref a :: st) σ = (hl9 σ a).bind (fun q => if xin i q.1 = true then xR mL_law 258 ls (.int (q.2 i.toNatClampNeg) :: st) σ else none) := y_iald9 xe_L_law dL_law_257 rfl
theorem r_L_law_258 {ls : xL} {st : List Value} {σ : xS}  : xR mL_law 258 ls (st) σ = gA (lget ls 3) (fun x => xR mL_law 259 ls (.ref x :: st) σ) := y_aload_n xe_L_law dL_law_258
theorem r_L_law_259 {ls : xL} {st : List Value} {σ : xS} {x0 : Nat} {x1 : Int32} {x2 : Int32} {x3 : Nat} : xR mL_law 259 ls (.ref x3 :: .int x2 :: .int x1 :: .ref x0 :: st) σ = yC (xwid st) (xC1 mL_hole [.ref x0, .int x1, .int x2, .ref x3] σ) (fun v τ => xR mL_law 262 ls (v.toList ++ st) τ) := y_cL (as := [.ref x0, .int x1, .int x2, .ref x3]) xe_L_law dL_law_259 cl_8_88 rfl xe_L_hole ⟨Nat.le_of_ble_eq_true rfl, Nat.le_of_ble_eq_true rfl⟩ (Nat.le_of_ble_eq_true rfl) (by decide)
theorem r_L_law_262 {ls : xL} {st : List Value} {σ : xS} {x : Int32} : xR mL_law 262 ls (.int x :: st) σ = (lst1 ls 5 (some (.int x))).bind (fun l => xR mL_law 264 l (st) σ) := y_istore xe_L_law dL_law_262
theorem r_L_law_264 {ls : xL} {st : List Value} {σ : xS}  : xR mL_law 264 ls (st) σ = gA (lget ls 2) (fun x => xR mL_law 265 ls (.ref x :: st) σ) := y_aload_n xe_L_law dL_law_264
theorem r_L_law_265 {ls : xL} {st : List Value} {σ : xS}  : xR mL_law 265 ls (st) σ = gA (lget ls 0) (fun x => xR mL_law 266 ls (.ref x :: st) σ) := y_aload_n xe_L_law dL_law_265
theorem r_L_law_266 {ls : xL} {st : List Value} {σ : xS}  : xR mL_law 266 ls (st) σ = gI (lget ls 4) (fun x => xR mL_law 268 ls (.int x :: st) σ) := y_iload xe_L_law dL_law_266
theorem r_L_law_268 {ls : xL} {st : List Value} {σ : xS}  : xR mL_law 268 ls (st) σ = xR mL_law 269 ls (.int (nI 1) :: st) σ := y_iconst xe_L_law dL_law_268 (by decide +kernel)
theorem r_L_law_269 {ls : xL} {st : List Value} {σ : xS} {x y : Int32} : xR mL_law 269 ls (.int y :: .int x :: st) σ = xR mL_law 270 ls (.int (x + y) :: st) σ := y_iadd xe_L_law dL_law_269
theorem r_L_law_270 {ls : xL} {st : List Value} {σ : xS} {a : Nat} {i : Int32} : xR mL_law 270 ls (.int i :: .ref a :: st) σ = (hl9 σ a).bind (fun q => if xin i q.1 = true then xR mL_law 271 ls (.int (q.2 i.toNatClampNeg) :: st) σ else none) := y_iald9 xe_L_law dL_law_270 rfl
theorem r_L_law_271 {ls : xL} {st : List Value} {σ : xS}  : xR mL_law 271 ls (st) σ = gA (lget ls 0) (fun x => xR mL_law 272 ls (.ref x :: st) σ) := y_aload_n xe_L_law dL_law_271
theorem r_L_law_272 {ls : xL} {st : List Value} {σ : xS}  : xR mL_law 272 ls (st) σ = gI (lget ls 4) (fun x => xR mL_law 274 ls (.int x :: st) σ) := y_iload xe_L_law dL_law_272
theorem r_L_law_274 {ls : xL} {st : List Value} {σ : xS}  : xR mL_law 274 ls (st) σ = xR mL_law 275 ls (.int (nI 2) :: st) σ := y_iconst xe_L_law dL_law_274 (by decide +kernel)
theorem r_L_law_275 {ls : xL} {st : List Value} {σ : xS} {x y : Int32} : xR mL_law 275 ls (.int y :: .int x :: st) σ = xR mL_law 276 ls (.int (x + y) :: st) σ := y_iadd xe_L_law dL_law_275
theorem r_L_law_276 {ls : xL} {st : List Value} {σ : xS} {a : Nat} {i : Int32} : xR mL_law 276 ls (.int i :: .ref a :: st) σ = (hl9 σ a).bind (fun q => if xin i q.1 = true then xR mL_law 277 ls (.int (q.2 i.toNatClampNeg) :: st) σ else none) := y_iald9 xe_L_law dL_law_276 rfl
theorem r_L_law_277 {ls : xL} {st : List Value} {σ : xS} {a : Nat} {x0 : Int32} {x1 : Int32} : xR mL_law 277 ls (.int x1 :: .int x0 :: .ref a :: st) σ = yV (hcls σ a) 6 (xwid st) (xC1 mX7_hole [.ref a, .int x0, .int x1] σ) (fun v τ => xR mL_law 280 ls (v.toList ++ st) τ) := y_cV (as := [.ref a, .int x0, .int x1]) (as2 := [.int x0, .int x1]) (r := (vwCl[6]?).getD default) xe_L_law dL_law_277 cl_8_91 rfl rfl rfl rfl xe_X7_hole ⟨Nat.le_of_ble_eq_true rfl, Nat.le_of_ble_eq_true rfl⟩ (Nat.le_of_ble_eq_true rfl) (by decide)
theorem r_L_law_280 {ls : xL} {st : List Value} {σ : xS} {x : Int32} : xR mL_law 280 ls (.int x :: st) σ = (lst1 ls 6 (some (.int x))).bind (fun l => xR mL_law 282 l (st) σ) := y_istore xe_L_law dL_law_280
theorem r_L_law_282 {ls : xL} {st : List Value} {σ : xS}  : xR mL_law 282 ls (st) σ = gA (lget ls 2) (fun x => xR mL_law 283 ls (.ref x :: st) σ) := y_aload_n xe_L_law dL_law_282
theorem r_L_law_283 {ls : xL} {st : List Value} {σ : xS} {a : Nat}  : xR mL_law 283 ls (.ref a :: st) σ = yV (hcls σ a) 6 (xwid st) (xC1 mX7_thrown [.ref a] σ) (fun v τ => xR mL_law 286 ls (v.toList ++ st) τ) := y_cV (as := [.ref a]) (as2 := []) (r := (vwCl[6]?).getD default) xe_L_law dL_law_283 cl_8_81 rfl rfl rfl rfl xe_X7_thrown ⟨Nat.le_of_ble_eq_true rfl, Nat.le_of_ble_eq_true rfl⟩ (Nat.le_of_ble_eq_true rfl) (by decide)
theorem r_L_law_286 {ls : xL} {st : List Value} {σ : xS}  : xR mL_law 286 ls (st) σ = gI (lget ls 5) (fun x => xR mL_law 288 ls (.int x :: st) σ) := y_iload xe_L_law dL_law_286
theorem r_L_law_288 {ls : xL} {st : List Value} {σ : xS} {x y : Int32} : xR mL_law 288 ls (.int y :: .int x :: st) σ = if x = y then xR mL_law 293 ls (st) σ else xR mL_law 291 ls (st) σ := y_icmp_eq xe_L_law dL_law_288 (by decide)
theorem r_L_law_291 {ls : xL} {st : List Value} {σ : xS}  : xR mL_law 291 ls (st) σ = xR mL_law 292 ls (.int (nI 0) :: st) σ := y_iconst xe_L_law dL_law_291 (by decide +kernel)
theorem r_L_law_292 {ls : xL} {σ : xS} {x : Int32} : xR mL_law 292 ls ([.int x]) σ = if x = 0 ∨ x = 1 then some (.inl (some (.int x)), σ) else none := y_zret xe_L_law dL_law_292 rfl
theorem r_L_law_293 {ls : xL} {st : List Value} {σ : xS}  : xR mL_law 293 ls (st) σ = gI (lget ls 5) (fun x => xR mL_law 295 ls (.int x :: st) σ) := y_iload xe_L_law dL_law_293
theorem r_L_law_295 {ls : xL} {st : List Value} {σ : xS} {x : Int32} : xR mL_law 295 ls (.int x :: st) σ = if ¬ x = 0 then xR mL_law 310 ls (st) σ else xR mL_law 298 ls (st) σ := y_if_ne xe_L_law dL_law_295 (by decide)
theorem r_L_law_298 {ls : xL} {st : List Value} {σ : xS}  : xR mL_law 298 ls (st) σ = gA (lget ls 3) (fun x => xR mL_law 299 ls (.ref x :: st) σ) := y_aload_n xe_L_law dL_law_298
theorem r_L_law_299 {ls : xL} {st : List Value} {σ : xS}  : xR mL_law 299 ls (st) σ = xR mL_law 300 ls (.int (nI 0) :: st) σ := y_iconst xe_L_law dL_law_299 (by decide +kernel)
theorem r_L_law_300 {ls : xL} {st : List Value} {σ : xS} {a : Nat} {i : Int32} : xR mL_law 300 ls (.int i :: .ref a :: st) σ = (hlng σ 4 a).bind (fun q => if xin i q.1 = true then xR mL_law 301 ls (.long (q.2 i.toNatClampNeg) :: st) σ else none) := y_lald xe_L_law dL_law_300
theorem r_L_law_301 {ls : xL} {st : List Value} {σ : xS}  : xR mL_law 301 ls (st) σ = gI (lget ls 6) (fun x => xR mL_law 303 ls (.int x :: st) σ) := y_iload xe_L_law dL_law_301
theorem r_L_law_303 {ls : xL} {st : List Value} {σ : xS} {x : Int32} : xR mL_law 303 ls (.int x :: st) σ = xR mL_law 304 ls (.long x.toInt64 :: st) σ := y_i2l xe_L_law dL_law_303
theorem r_L_law_304 {ls : xL} {st : List Value} {σ : xS} {x y : Int64} : xR mL_law 304 ls (.long y :: .long x :: st) σ = xR mL_law 305 ls (.int (lg_cmp x y) :: st) σ := y_lcmp xe_L_law dL_law_304
theorem r_L_law_305 {ls : xL} {st : List Value} {σ : xS} {x : Int32} : xR mL_law 305 ls (.int x :: st) σ = if x = 0 then xR mL_law 310 ls (st) σ else xR mL_law 308 ls (st) σ := y_if_eq xe_L_law dL_law_305 (by decide)
theorem r_L_law_308 {ls : xL} {st : List Value} {σ : xS}  : xR mL_law 308 ls (st) σ = xR mL_law 309 ls (.int (nI 0) :: st) σ := y_iconst xe_L_law dL_law_308 (by decide +kernel)
theorem r_L_law_309 {ls : xL} {σ : xS} {x : Int32} : xR mL_law 309 ls ([.int x]) σ = if x = 0 ∨ x = 1 then some (.inl (some (.int x)), σ) else none := y_zret xe_L_law dL_law_309 rfl
theorem r_L_law_310 {ls : xL} {st : List Value} {σ : xS}  : xR mL_law 310 ls (st) σ = xR mL_law 1423 ls (st) σ := y_goto xe_L_law dL_law_310 (by decide)
theorem r_L_law_313 {ls : xL} {st : List Value} {σ : xS}  : xR mL_law 313 ls (st) σ = gA (lget ls 1) (fun x => xR mL_law 314 ls (.ref x :: st) σ) := y_aload_n xe_L_law dL_law_313
theorem r_L_law_314 {ls : xL} {st : List Value} {σ : xS}  : xR mL_law 314 ls (st) σ = gA (lget ls 0) (fun x => xR mL_law 315 ls (.ref x :: st) σ) := y_aload_n xe_L_law dL_law_314
theorem r_L_law_315 {ls : xL} {st : List Value} {σ : xS}  : xR mL_law 315 ls (st) σ = gI (lget ls 4) (fun x => xR mL_law 317 ls (.int x :: st) σ) := y_iload xe_L_law dL_law_315
theorem r_L_law_317 {ls : xL} {st : List Value} {σ : xS}  : xR mL_law 317 ls (st) σ = xR mL_law 318 ls (.int (nI 1) :: st) σ := y_iconst xe_L_law dL_law_317 (by decide +kernel)
theorem r_L_law_318 {ls : xL} {st : List Value} {σ : xS} {x y : Int32} : xR mL_law 318 ls (.int y :: .int x :: st) σ = xR mL_law 319 ls (.int (x + y) :: st) σ := y_iadd xe_L_law dL_law_318
theorem r_L_law_319 {ls : xL} {st : List Value} {σ : xS} {a : Nat} {i : Int32} : xR mL_law 319 ls (.int i :: .ref a :: st) σ = (hl9 σ a).bind (fun q => if xin i q.1 = true then xR mL_law 320 ls (.int (q.2 i.toNatClampNeg) :: st) σ else none) := y_iald9 xe_L_law dL_law_319 rfl
theorem r_L_law_320 {ls : xL} {st : List Value} {σ : xS}  : xR mL_law 320 ls (st) σ = gA (lget ls 0) (fun x => xR mL_law 321 ls (.ref x :: st) σ) := y_aload_n xe_L_law dL_law_320
theorem r_L_law_321 {ls : xL} {st : List Value} {σ : xS}  : xR mL_law 321 ls (st) σ = gI (lget ls 4) (fun x => xR mL_law 323 ls (.int x :: st) σ) := y_iload xe_L_law dL_law_321
theorem r_L_law_323 {ls : xL} {st : List Value} {σ : xS}  : xR mL_law 323 ls (st) σ = xR mL_law 324 ls (.int (nI 2) :: st) σ := y_iconst xe_L_law dL_law_323 (by decide +kernel)
theorem r_L_law_324 {ls : xL} {st : List Value} {σ : xS} {x y : Int32} : xR mL_law 324 ls (.int y :: .int x :: st) σ = xR mL_law 325 ls (.int (x + y) :: st) σ := y_iadd xe_L_law dL_law_324
theorem r_L_law_325 {ls : xL} {st : List Value} {σ : xS} {a : Nat} {i : Int32} : xR mL_law 325 ls (.int i :: .ref a :: st) σ = (hl9 σ a).bind (fun q => if xin i q.1 = true then xR mL_law 326 ls (.int (q.2 i.toNatClampNeg) :: st) σ else none) := y_iald9 xe_L_law dL_law_325 rfl
theorem r_L_law_326 {ls : xL} {st : List Value} {σ : xS}  : xR mL_law 326 ls (st) σ = gA (lget ls 3) (fun x => xR mL_law 327 ls (.ref x :: st) σ) := y_aload_n xe_L_law dL_law_326
theorem r_L_law_327 {ls : xL} {st : List Value} {σ : xS} {x0 : Nat} {x1 : Int32} {x2 : Int32} {x3 : Nat} : xR mL_law 327 ls (.ref x3 :: .int x2 :: .int x1 :: .ref x0 :: st) σ = yC (xwid st) (xC1 mL_pay [.ref x0, .int x1, .int x2, .ref x3] σ) (fun v τ => xR mL_law 330 ls (v.toList ++ st) τ) := y_cL (as := [.ref x0, .int x1, .int x2, .ref x3]) xe_L_law dL_law_327 cl_8_92 rfl xe_L_pay ⟨Nat.le_of_ble_eq_true rfl, Nat.le_of_ble_eq_true rfl⟩ (Nat.le_of_ble_eq_true rfl) (by decide)
theorem r_L_law_330 {ls : xL} {st : List Value} {σ : xS} {x : Int32} : xR mL_law 330 ls (.int x :: st) σ = (lst1 ls 5 (some (.int x))).bind (fun l => xR mL_law 332 l (st) σ) := y_istore xe_L_law dL_law_330
theorem r_L_law_332 {ls : xL} {st : List Value} {σ : xS}  : xR mL_law 332 ls (st) σ = gA (lget ls 2) (fun x => xR mL_law 333 ls (.ref x :: st) σ) := y_aload_n xe_L_law dL_law_332
theorem r_L_law_333 {ls : xL} {st : List Value} {σ : xS}  : xR mL_law 333 ls (st) σ = gA (lget ls 0) (fun x => xR mL_law 334 ls (.ref x :: st) σ) := y_aload_n xe_L_law dL_law_333
theorem r_L_law_334 {ls : xL} {st : List Value} {σ : xS}  : xR mL_law 334 ls (st) σ = gI (lget ls 4) (fun x => xR mL_law 336 ls (.int x :: st) σ) := y_iload xe_L_law dL_law_334
theorem r_L_law_336 {ls : xL} {st : List Value} {σ : xS}  : xR mL_law 336 ls (st) σ = xR mL_law 337 ls (.int (nI 1) :: st) σ := y_iconst xe_L_law dL_law_336 (by decide +kernel)
theorem r_L_law_337 {ls : xL} {st : List Value} {σ : xS} {x y : Int32} : xR mL_law 337 ls (.int y :: .int x :: st) σ = xR mL_law 338 ls (.int (x + y) :: st) σ := y_iadd xe_L_law dL_law_337
theorem r_L_law_338 {ls : xL} {st : List Value} {σ : xS} {a : Nat} {i : Int32} : xR mL_law 338 ls (.int i :: .ref a :: st) σ = (hl9 σ a).bind (fun q => if xin i q.1 = true then xR mL_law 339 ls (.int (q.2 i.toNatClampNeg) :: st) σ else none) := y_iald9 xe_L_law dL_law_338 rfl
theorem r_L_law_339 {ls : xL} {st : List Value} {σ : xS}  : xR mL_law 339 ls (st) σ = gA (lget ls 0) (fun x => xR mL_law 340 ls (.ref x :: st) σ) := y_aload_n xe_L_law dL_law_339
theorem r_L_law_340 {ls : xL} {st : List Value} {σ : xS}  : xR mL_law 340 ls (st) σ = gI (lget ls 4) (fun x => xR mL_law 342 ls (.int x :: st) σ) := y_iload xe_L_law dL_law_340
theorem r_L_law_342 {ls : xL} {st : List Value} {σ : xS}  : xR mL_law 342 ls (st) σ = xR mL_law 343 ls (.int (nI 2) :: st) σ := y_iconst xe_L_law dL_law_342 (by decide +kernel)
theorem r_L_law_343 {ls : xL} {st : List Value} {σ : xS} {x y : Int32} : xR mL_law 343 ls (.int y :: .int x :: st) σ = xR mL_law 344 ls (.int (x + y) :: st) σ := y_iadd xe_L_law dL_law_343
theorem r_L_law_344 {ls : xL} {st : List Value} {σ : xS} {a : Nat} {i : Int32} : xR mL_law 344 ls (.int i :: .ref a :: st) σ = (hl9 σ a).bind (fun q => if xin i q.1 = true then xR mL_law 345 ls (.int (q.2 i.toNatClampNeg) :: st) σ else none) := y_iald9 xe_L_law dL_law_344 rfl
theorem r_L_law_345 {ls : xL} {st : List Value} {σ : xS} {a : Nat} {x0 : Int32} {x1 : Int32} : xR mL_law 345 ls (.int x1 :: .int x0 :: .ref a :: st) σ = yV (hcls σ a) 6 (xwid st) (xC1 mX7_pay [.ref a, .int x0, .int x1] σ) (fun v τ => xR mL_law 348 ls (v.toList ++ st) τ) := y_cV (as := [.ref a, .int x0, .int x1]) (as2 := [.int x0, .int x1]) (r := (vwCl[6]?).getD default) xe_L_law dL_law_345 cl_8_94 rfl rfl rfl rfl xe_X7_pay ⟨Nat.le_of_ble_eq_true rfl, Nat.le_of_ble_eq_true rfl⟩ (Nat.le_of_ble_eq_true rfl) (by decide)
theorem r_L_law_348 {ls : xL} {st : List Value} {σ : xS} {x : Int32} : xR mL_law 348 ls (.int x :: st) σ = (lst1 ls 6 (some (.int x))).bind (fun l => xR mL_law 350 l (st) σ) := y_istore xe_L_law dL_law_348
theorem r_L_law_350 {ls : xL} {st : List Value} {σ : xS}  : xR mL_law 350 ls (st) σ = gA (lget ls 2) (fun x => xR mL_law 351 ls (.ref x :: st) σ) := y_aload_n xe_L_law dL_law_350
theorem r_L_law_351 {ls : xL} {st : List Value} {σ : xS} {a : Nat}  : xR mL_law 351 ls (.ref a :: st) σ = yV (hcls σ a) 6 (xwid st) (xC1 mX7_thrown [.ref a] σ) (fun v τ => xR mL_law 354 ls (v.toList ++ st) τ) := y_cV (as := [.ref a]) (as2 := []) (r := (vwCl[6]?).getD default) xe_L_law dL_law_351 cl_8_81 rfl rfl rfl rfl xe_X7_thrown ⟨Nat.le_of_ble_eq_true rfl, Nat.le_of_ble_eq_true rfl⟩ (Nat.le_of_ble_eq_true rfl) (by decide)
theorem r_L_law_354 {ls : xL} {st : List Value} {σ : xS}  : xR mL_law 354 ls (st) σ = gI (lget ls 5) (fun x => xR mL_law 356 ls (.int x :: st) σ) := y_iload xe_L_law dL_law_354
theorem r_L_law_356 {ls : xL} {st : List Value} {σ : xS} {x y : Int32} : xR mL_law 356 ls (.int y :: .int x :: st) σ = if x = y then xR mL_law 361 ls (st) σ else xR mL_law 359 ls (st) σ := y_icmp_eq xe_L_law dL_law_356 (by decide)
theorem r_L_law_359 {ls : xL} {st : List Value} {σ : xS}  : xR mL_law 359 ls (st) σ = xR mL_law 360 ls (.int (nI 0) :: st) σ := y_iconst xe_L_law dL_law_359 (by decide +kernel)
theorem r_L_law_360 {ls : xL} {σ : xS} {x : Int32} : xR mL_law 360 ls ([.int x]) σ = if x = 0 ∨ x = 1 then some (.inl (some (.int x)), σ) else none := y_zret xe_L_law dL_law_360 rfl
theorem r_L_law_361 {ls : xL} {st : List Value} {σ : xS}  : xR mL_law 361 ls (st) σ = gI (lget ls 5) (fun x => xR mL_law 363 ls (.int x :: st) σ) := y_iload xe_L_law dL_law_361
theorem r_L_law_363 {ls : xL} {st : List Value} {σ : xS} {x : Int32} : xR mL_law 363 ls (.int x :: st) σ = if ¬ x = 0 then xR mL_law 378 ls (st) σ else xR mL_law 366 ls (st) σ := y_if_ne xe_L_law dL_law_363 (by decide)
theorem r_L_law_366 {ls : xL} {st : List Value} {σ : xS}  : xR mL_law 366 ls (st) σ = gA (lget ls 3) (fun x => xR mL_law 367 ls (.ref x :: st) σ) := y_aload_n xe_L_law dL_law_366
theorem r_L_law_367 {ls : xL} {st : List Value} {σ : xS}  : xR mL_law 367 ls (st) σ = xR mL_law 368 ls (.int (nI 0) :: st) σ := y_iconst xe_L_law dL_law_367 (by decide +kernel)
theorem r_L_law_368 {ls : xL} {st : List Value} {σ : xS} {a : Nat} {i : Int32} : xR mL_law 368 ls (.int i :: .ref a :: st) σ = (hlng σ 4 a).bind (fun q => if xin i q.1 = true then xR mL_law 369 ls (.long (q.2 i.toNatClampNeg) :: st) σ else none) := y_lald xe_L_law dL_law_368
theorem r_L_law_369 {ls : xL} {st : List Value} {σ : xS}  : xR mL_law 369 ls (st) σ = gI (lget ls 6) (fun x => xR mL_law 371 ls (.int x :: st) σ) := y_iload xe_L_law dL_law_369
theorem r_L_law_371 {ls : xL} {st : List Value} {σ : xS} {x : Int32} : xR mL_law 371 ls (.int x :: st) σ = xR mL_law 372 ls (.long x.toInt64 :: st) σ := y_i2l xe_L_law dL_law_371
theorem r_L_law_372 {ls : xL} {st : List Value} {σ : xS} {x y : Int64} : xR mL_law 372 ls (.long y :: .long x :: st) σ = xR mL_law 373 ls (.int (lg_cmp x y) :: st) σ := y_lcmp xe_L_law dL_law_372
theorem r_L_law_373 {ls : xL} {st : List Value} {σ : xS} {x : Int32} : xR mL_law 373 ls (.int x :: st) σ = if x = 0 then xR mL_law 378 ls (st) σ else xR mL_law 376 ls (st) σ := y_if_eq xe_L_law dL_law_373 (by decide)
theorem r_L_law_376 {ls : xL} {st : List Value} {σ : xS}  : xR mL_law 376 ls (st) σ = xR mL_law 377 ls (.int (nI 0) :: st) σ := y_iconst xe_L_law dL_law_376 (by decide +kernel)
theorem r_L_law_377 {ls : xL} {σ : xS} {x : Int32} : xR mL_law 377 ls ([.int x]) σ = if x = 0 ∨ x = 1 then some (.inl (some (.int x)), σ) else none := y_zret xe_L_law dL_law_377 rfl
theorem r_L_law_378 {ls : xL} {st : List Value} {σ : xS}  : xR mL_law 378 ls (st) σ = xR mL_law 1423 ls (st) σ := y_goto xe_L_law dL_law_378 (by decide)
theorem r_L_law_381 {ls : xL} {st : List Value} {σ : xS}  : xR mL_law 381 ls (st) σ = gA (lget ls 1) (fun x => xR mL_law 382 ls (.ref x :: st) σ) := y_aload_n xe_L_law dL_law_381
theorem r_L_law_382 {ls : xL} {st : List Value} {σ : xS}  : xR mL_law 382 ls (st) σ = gA (lget ls 0) (fun x => xR mL_law 383 ls (.ref x :: st) σ) := y_aload_n xe_L_law dL_law_382
theorem r_L_law_383 {ls : xL} {st : List Value} {σ : xS}  : xR mL_law 383 ls (st) σ = gI (lget ls 4) (fun x => xR mL_law 385 ls (.int x :: st) σ) := y_iload xe_L_law dL_law_383
theorem r_L_law_385 {ls : xL} {st : List Value} {σ : xS}  : xR mL_law 385 ls (st) σ = xR mL_law 386 ls (.int (nI 1) :: st) σ := y_iconst xe_L_law dL_law_385 (by decide +kernel)
theorem r_L_law_386 {ls : xL} {st : List Value} {σ : xS} {x y : Int32} : xR mL_law 386 ls (.int y :: .int x :: st) σ = xR mL_law 387 ls (.int (x + y) :: st) σ := y_iadd xe_L_law dL_law_386
theorem r_L_law_387 {ls : xL} {st : List Value} {σ : xS} {a : Nat} {i : Int32} : xR mL_law 387 ls (.int i :: .ref a :: st) σ = (hl9 σ a).bind (fun q => if xin i q.1 = true then xR mL_law 388 ls (.int (q.2 i.toNatClampNeg) :: st) σ else none) := y_iald9 xe_L_law dL_law_387 rfl
theorem r_L_law_388 {ls : xL} {st : List Value} {σ : xS}  : xR mL_law 388 ls (st) σ = gA (lget ls 0) (fun x => xR mL_law 389 ls (.ref x :: st) σ) := y_aload_n xe_L_law dL_law_388
theorem r_L_law_389 {ls : xL} {st : List Value} {σ : xS}  : xR mL_law 389 ls (st) σ = gI (lget ls 4) (fun x => xR mL_law 391 ls (.int x :: st) σ) := y_iload xe_L_law dL_law_389
theorem r_L_law_391 {ls : xL} {st : List Value} {σ : xS}  : xR mL_law 391 ls (st) σ = xR mL_law 392 ls (.int (nI 2) :: st) σ := y_iconst xe_L_law dL_law_391 (by decide +kernel)
theorem r_L_law_392 {ls : xL} {st : List Value} {σ : xS} {x y : Int32} : xR mL_law 392 ls (.int y :: .int x :: st) σ = xR mL_law 393 ls (.int (x + y) :: st) σ := y_iadd xe_L_law dL_law_392
theorem r_L_law_393 {ls : xL} {st : List Value} {σ : xS} {a : Nat} {i : Int32} : xR mL_law 393 ls (.int i :: .ref a :: st) σ = (hl9 σ a).bind (fun q => if xin i q.1 = true then xR mL_law 394 ls (.int (q.2 i.toNatClampNeg) :: st) σ else none) := y_iald9 xe_L_law dL_law_393 rfl
theorem r_L_law_394 {ls : xL} {st : List Value} {σ : xS}  : xR mL_law 394 ls (st) σ = gA (lget ls 3) (fun x => xR mL_law 395 ls (.ref x :: st) σ) := y_aload_n xe_L_law dL_law_394
theorem r_L_law_395 {ls : xL} {st : List Value} {σ : xS} {x0 : Nat} {x1 : Int32} {x2 : Int32} {x3 : Nat} : xR mL_law 395 ls (.ref x3 :: .int x2 :: .int x1 :: .ref x0 :: st) σ = yC (xwid st) (xC1 mL_set [.ref x0, .int x1, .int x2, .ref x3] σ) (fun v τ => xR mL_law 398 ls (v.toList ++ st) τ) := y_cL (as := [.ref x0, .int x1, .int x2, .ref x3]) xe_L_law dL_law_395 cl_8_95 rfl xe_L_set ⟨Nat.le_of_ble_eq_true rfl, Nat.le_of_ble_eq_true rfl⟩ (Nat.le_of_ble_eq_true rfl) (by decide)
theorem r_L_law_398 {ls : xL} {st : List Value} {σ : xS} {x : Int32} : xR mL_law 398 ls (.int x :: st) σ = (lst1 ls 5 (some (.int x))).bind (fun l => xR mL_law 400 l (st) σ) := y_istore xe_L_law dL_law_398
theorem r_L_law_400 {ls : xL} {st : List Value} {σ : xS}  : xR mL_law 400 ls (st) σ = gA (lget ls 2) (fun x => xR mL_law 401 ls (.ref x :: st) σ) := y_aload_n xe_L_law dL_law_400
theorem r_L_law_401 {ls : xL} {st : List Value} {σ : xS}  : xR mL_law 401 ls (st) σ = gA (lget ls 0) (fun x => xR mL_law 402 ls (.ref x :: st) σ) := y_aload_n xe_L_law dL_law_401
theorem r_L_law_402 {ls : xL} {st : List Value} {σ : xS}  : xR mL_law 402 ls (st) σ = gI (lget ls 4) (fun x => xR mL_law 404 ls (.int x :: st) σ) := y_iload xe_L_law dL_law_402
theorem r_L_law_404 {ls : xL} {st : List Value} {σ : xS}  : xR mL_law 404 ls (st) σ = xR mL_law 405 ls (.int (nI 1) :: st) σ := y_iconst xe_L_law dL_law_404 (by decide +kernel)
theorem r_L_law_405 {ls : xL} {st : List Value} {σ : xS} {x y : Int32} : xR mL_law 405 ls (.int y :: .int x :: st) σ = xR mL_law 406 ls (.int (x + y) :: st) σ := y_iadd xe_L_law dL_law_405
theorem r_L_law_406 {ls : xL} {st : List Value} {σ : xS} {a : Nat} {i : Int32} : xR mL_law 406 ls (.int i :: .ref a :: st) σ = (hl9 σ a).bind (fun q => if xin i q.1 = true then xR mL_law 407 ls (.int (q.2 i.toNatClampNeg) :: st) σ else none) := y_iald9 xe_L_law dL_law_406 rfl
theorem r_L_law_407 {ls : xL} {st : List Value} {σ : xS}  : xR mL_law 407 ls (st) σ = gA (lget ls 0) (fun x => xR mL_law 408 ls (.ref x :: st) σ) := y_aload_n xe_L_law dL_law_407
theorem r_L_law_408 {ls : xL} {st : List Value} {σ : xS}  : xR mL_law 408 ls (st) σ = gI (lget ls 4) (fun x => xR mL_law 410 ls (.int x :: st) σ) := y_iload xe_L_law dL_law_408
theorem r_L_law_410 {ls : xL} {st : List Value} {σ : xS}  : xR mL_law 410 ls (st) σ = xR mL_law 411 ls (.int (nI 2) :: st) σ := y_iconst xe_L_law dL_law_410 (by decide +kernel)
theorem r_L_law_411 {ls : xL} {st : List Value} {σ : xS} {x y : Int32} : xR mL_law 411 ls (.int y :: .int x :: st) σ = xR mL_law 412 ls (.int (x + y) :: st) σ := y_iadd xe_L_law dL_law_411
theorem r_L_law_412 {ls : xL} {st : List Value} {σ : xS} {a : Nat} {i : Int32} : xR mL_law 412 ls (.int i :: .ref a :: st) σ = (hl9 σ a).bind (fun q => if xin i q.1 = true then xR mL_law 413 ls (.int (q.2 i.toNatClampNeg) :: st) σ else none) := y_iald9 xe_L_law dL_law_412 rfl
theorem r_L_law_413 {ls : xL} {st : List Value} {σ : xS} {a : Nat} {x0 : Int32} {x1 : Int32} : xR mL_law 413 ls (.int x1 :: .int x0 :: .ref a :: st) σ = yV (hcls σ a) 6 (xwid st) (xC1 mX7_set [.ref a, .int x0, .int x1] σ) (fun v τ => xR mL_law 416 ls (v.toList ++ st) τ) := y_cV (as := [.ref a, .int x0, .int x1]) (as2 := [.int x0, .int x1]) (r := (vwCl[6]?).getD default) xe_L_law dL_law_413 cl_8_97 rfl rfl rfl rfl xe_X7_set ⟨Nat.le_of_ble_eq_true rfl, Nat.le_of_ble_eq_true rfl⟩ (Nat.le_of_ble_eq_true rfl) (by decide)
theorem r_L_law_416 {ls : xL} {st : List Value} {σ : xS} {x : Int32} : xR mL_law 416 ls (.int x :: st) σ = (lst1 ls 6 (some (.int x))).bind (fun l => xR mL_law 418 l (st) σ) := y_istore xe_L_law dL_law_416
theorem r_L_law_418 {ls : xL} {st : List Value} {σ : xS}  : xR mL_law 418 ls (st) σ = gA (lget ls 2) (fun x => xR mL_law 419 ls (.ref x :: st) σ) := y_aload_n xe_L_law dL_law_418
theorem r_L_law_419 {ls : xL} {st : List Value} {σ : xS} {a : Nat}  : xR mL_law 419 ls (.ref a :: st) σ = yV (hcls σ a) 6 (xwid st) (xC1 mX7_thrown [.ref a] σ) (fun v τ => xR mL_law 422 ls (v.toList ++ st) τ) := y_cV (as := [.ref a]) (as2 := []) (r := (vwCl[6]?).getD default) xe_L_law dL_law_419 cl_8_81 rfl rfl rfl rfl xe_X7_thrown ⟨Nat.le_of_ble_eq_true rfl, Nat.le_of_ble_eq_true rfl⟩ (Nat.le_of_ble_eq_true rfl) (by decide)
theorem r_L_law_422 {ls : xL} {st : List Value} {σ : xS}  : xR mL_law 422 ls (st) σ = gI (lget ls 5) (fun x => xR mL_law 424 ls (.int x :: st) σ) := y_iload xe_L_law dL_law_422
theorem r_L_law_424 {ls : xL} {st : List Value} {σ : xS} {x y : Int32} : xR mL_law 424 ls (.int y :: .int x :: st) σ = if x = y then xR mL_law 429 ls (st) σ else xR mL_law 427 ls (st) σ := y_icmp_eq xe_L_law dL_law_424 (by decide)
theorem r_L_law_427 {ls : xL} {st : List Value} {σ : xS}  : xR mL_law 427 ls (st) σ = xR mL_law 428 ls (.int (nI 0) :: st) σ := y_iconst xe_L_law dL_law_427 (by decide +kernel)
theorem r_L_law_428 {ls : xL} {σ : xS} {x : Int32} : xR mL_law 428 ls ([.int x]) σ = if x = 0 ∨ x = 1 then some (.inl (some (.int x)), σ) else none := y_zret xe_L_law dL_law_428 rfl
theorem r_L_law_429 {ls : xL} {st : List Value} {σ : xS}  : xR mL_law 429 ls (st) σ = gI (lget ls 5) (fun x => xR mL_law 431 ls (.int x :: st) σ) := y_iload xe_L_law dL_law_429
theorem r_L_law_431 {ls : xL} {st : List Value} {σ : xS} {x : Int32} : xR mL_law 431 ls (.int x :: st) σ = if ¬ x = 0 then xR mL_law 446 ls (st) σ else xR mL_law 434 ls (st) σ := y_if_ne xe_L_law dL_law_431 (by decide)
theorem r_L_law_434 {ls : xL} {st : List Value} {σ : xS}  : xR mL_law 434 ls (st) σ = gA (lget ls 3) (fun x => xR mL_law 435 ls (.ref x :: st) σ) := y_aload_n xe_L_law dL_law_434
theorem r_L_law_435 {ls : xL} {st : List Value} {σ : xS}  : xR mL_law 435 ls (st) σ = xR mL_law 436 ls (.int (nI 0) :: st) σ := y_iconst xe_L_law dL_law_435 (by decide +kernel)
theorem r_L_law_436 {ls : xL} {st : List Value} {σ : xS} {a : Nat} {i : Int32} : xR mL_law 436 ls (.int i :: .ref a :: st) σ = (hlng σ 4 a).bind (fun q => if xin i q.1 = true then xR mL_law 437 ls (.long (q.2 i.toNatClampNeg) :: st) σ else none) := y_lald xe_L_law dL_law_436
theorem r_L_law_437 {ls : xL} {st : List Value} {σ : xS}  : xR mL_law 437 ls (st) σ = gI (lget ls 6) (fun x => xR mL_law 439 ls (.int x :: st) σ) := y_iload xe_L_law dL_law_437
theorem r_L_law_439 {ls : xL} {st : List Value} {σ : xS} {x : Int32} : xR mL_law 439 ls (.int x :: st) σ = xR mL_law 440 ls (.long x.toInt64 :: st) σ := y_i2l xe_L_law dL_law_439
theorem r_L_law_440 {ls : xL} {st : List Value} {σ : xS} {x y : Int64} : xR mL_law 440 ls (.long y :: .long x :: st) σ = xR mL_law 441 ls (.int (lg_cmp x y) :: st) σ := y_lcmp xe_L_law dL_law_440
theorem r_L_law_441 {ls : xL} {st : List Value} {σ : xS} {x : Int32} : xR mL_law 441 ls (.int x :: st) σ = if x = 0 then xR mL_law 446 ls (st) σ else xR mL_law 444 ls (st) σ := y_if_eq xe_L_law dL_law_441 (by decide)
theorem r_L_law_444 {ls : xL} {st : List Value} {σ : xS}  : xR mL_law 444 ls (st) σ = xR mL_law 445 ls (.int (nI 0) :: st) σ := y_iconst xe_L_law dL_law_444 (by decide +kernel)
theorem r_L_law_445 {ls : xL} {σ : xS} {x : Int32} : xR mL_law 445 ls ([.int x]) σ = if x = 0 ∨ x = 1 then some (.inl (some (.int x)), σ) else none := y_zret xe_L_law dL_law_445 rfl
theorem r_L_law_446 {ls : xL} {st : List Value} {σ : xS}  : xR mL_law 446 ls (st) σ = xR mL_law 1423 ls (st) σ := y_goto xe_L_law dL_law_446 (by decide)
theorem r_L_law_449 {ls : xL} {st : List Value} {σ : xS}  : xR mL_law 449 ls (st) σ = gA (lget ls 1) (fun x => xR mL_law 450 ls (.ref x :: st) σ) := y_aload_n xe_L_law dL_law_449
theorem r_L_law_450 {ls : xL} {st : List Value} {σ : xS}  : xR mL_law 450 ls (st) σ = gA (lget ls 0) (fun x => xR mL_law 451 ls (.ref x :: st) σ) := y_aload_n xe_L_law dL_law_450
theorem r_L_law_451 {ls : xL} {st : List Value} {σ : xS}  : xR mL_law 451 ls (st) σ = gI (lget ls 4) (fun x => xR mL_law 453 ls (.int x :: st) σ) := y_iload xe_L_law dL_law_451
theorem r_L_law_453 {ls : xL} {st : List Value} {σ : xS}  : xR mL_law 453 ls (st) σ = xR mL_law 454 ls (.int (nI 1) :: st) σ := y_iconst xe_L_law dL_law_453 (by decide +kernel)
theorem r_L_law_454 {ls : xL} {st : List Value} {σ : xS} {x y : Int32} : xR mL_law 454 ls (.int y :: .int x :: st) σ = xR mL_law 455 ls (.int (x + y) :: st) σ := y_iadd xe_L_law dL_law_454
theorem r_L_law_455 {ls : xL} {st : List Value} {σ : xS} {a : Nat} {i : Int32} : xR mL_law 455 ls (.int i :: .ref a :: st) σ = (hl9 σ a).bind (fun q => if xin i q.1 = true then xR mL_law 456 ls (.int (q.2 i.toNatClampNeg) :: st) σ else none) := y_iald9 xe_L_law dL_law_455 rfl
theorem r_L_law_456 {ls : xL} {st : List Value} {σ : xS}  : xR mL_law 456 ls (st) σ = gA (lget ls 3) (fun x => xR mL_law 457 ls (.ref x :: st) σ) := y_aload_n xe_L_law dL_law_456
theorem r_L_law_457 {ls : xL} {st : List Value} {σ : xS} {x0 : Nat} {x1 : Int32} {x2 : Nat} : xR mL_law 457 ls (.ref x2 :: .int x1 :: .ref x0 :: st) σ = yC (xwid st) (xC1 mL_append [.ref x0, .int x1, .ref x2] σ) (fun v τ => xR mL_law 460 ls (v.toList ++ st) τ) := y_cL (as := [.ref x0, .int x1, .ref x2]) xe_L_law dL_law_457 cl_8_98 rfl xe_L_append ⟨Nat.le_of_ble_eq_true rfl, Nat.le_of_ble_eq_true rfl⟩ (Nat.le_of_ble_eq_true rfl) (by decide)
theorem r_L_law_460 {ls : xL} {st : List Value} {σ : xS} {x : Int32} : xR mL_law 460 ls (.int x :: st) σ = (lst1 ls 5 (some (.int x))).bind (fun l => xR mL_law 462 l (st) σ) := y_istore xe_L_law dL_law_460
theorem r_L_law_462 {ls : xL} {st : List Value} {σ : xS}  : xR mL_law 462 ls (st) σ = gA (lget ls 2) (fun x => xR mL_law 463 ls (.ref x :: st) σ) := y_aload_n xe_L_law dL_law_462
theorem r_L_law_463 {ls : xL} {st : List Value} {σ : xS}  : xR mL_law 463 ls (st) σ = gA (lget ls 0) (fun x => xR mL_law 464 ls (.ref x :: st) σ) := y_aload_n xe_L_law dL_law_463
theorem r_L_law_464 {ls : xL} {st : List Value} {σ : xS}  : xR mL_law 464 ls (st) σ = gI (lget ls 4) (fun x => xR mL_law 466 ls (.int x :: st) σ) := y_iload xe_L_law dL_law_464
theorem r_L_law_466 {ls : xL} {st : List Value} {σ : xS}  : xR mL_law 466 ls (st) σ = xR mL_law 467 ls (.int (nI 1) :: st) σ := y_iconst xe_L_law dL_law_466 (by decide +kernel)
theorem r_L_law_467 {ls : xL} {st : List Value} {σ : xS} {x y : Int32} : xR mL_law 467 ls (.int y :: .int x :: st) σ = xR mL_law 468 ls (.int (x + y) :: st) σ := y_iadd xe_L_law dL_law_467
theorem r_L_law_468 {ls : xL} {st : List Value} {σ : xS} {a : Nat} {i : Int32} : xR mL_law 468 ls (.int i :: .ref a :: st) σ = (hl9 σ a).bind (fun q => if xin i q.1 = true then xR mL_law 469 ls (.int (q.2 i.toNatClampNeg) :: st) σ else none) := y_iald9 xe_L_law dL_law_468 rfl
theorem r_L_law_469 {ls : xL} {st : List Value} {σ : xS} {a : Nat} {x0 : Int32} : xR mL_law 469 ls (.int x0 :: .ref a :: st) σ = yV (hcls σ a) 6 (xwid st) (xC1 mX7_append [.ref a, .int x0] σ) (fun v τ => xR mL_law 472 ls (v.toList ++ st) τ) := y_cV (as := [.ref a, .int x0]) (as2 := [.int x0]) (r := (vwCl[6]?).getD default) xe_L_law dL_law_469 cl_8_101 rfl rfl rfl rfl xe_X7_append ⟨Nat.le_of_ble_eq_true rfl, Nat.le_of_ble_eq_true rfl⟩ (Nat.le_of_ble_eq_true rfl) (by decide)
theorem r_L_law_472 {ls : xL} {st : List Value} {σ : xS} {x : Int32} : xR mL_law 472 ls (.int x :: st) σ = (lst1 ls 6 (some (.int x))).bind (fun l => xR mL_law 474 l (st) σ) := y_istore xe_L_law dL_law_472
theorem r_L_law_474 {ls : xL} {st : List Value} {σ : xS}  : xR mL_law 474 ls (st) σ = gA (lget ls 2) (fun x => xR mL_law 475 ls (.ref x :: st) σ) := y_aload_n xe_L_law dL_law_474
theorem r_L_law_475 {ls : xL} {st : List Value} {σ : xS} {a : Nat}  : xR mL_law 475 ls (.ref a :: st) σ = yV (hcls σ a) 6 (xwid st) (xC1 mX7_thrown [.ref a] σ) (fun v τ => xR mL_law 478 ls (v.toList ++ st) τ) := y_cV (as := [.ref a]) (as2 := []) (r := (vwCl[6]?).getD default) xe_L_law dL_law_475 cl_8_81 rfl rfl rfl rfl xe_X7_thrown ⟨Nat.le_of_ble_eq_true rfl, Nat.le_of_ble_eq_true rfl⟩ (Nat.le_of_ble_eq_true rfl) (by decide)
theorem r_L_law_478 {ls : xL} {st : List Value} {σ : xS}  : xR mL_law 478 ls (st) σ = gI (lget ls 5) (fun x => xR mL_law 480 ls (.int x :: st) σ) := y_iload xe_L_law dL_law_478
theorem r_L_law_480 {ls : xL} {st : List Value} {σ : xS} {x y : Int32} : xR mL_law 480 ls (.int y :: .int x :: st) σ = if x = y then xR mL_law 485 ls (st) σ else xR mL_law 483 ls (st) σ := y_icmp_eq xe_L_law dL_law_480 (by decide)
theorem r_L_law_483 {ls : xL} {st : List Value} {σ : xS}  : xR mL_law 483 ls (st) σ = xR mL_law 484 ls (.int (nI 0) :: st) σ := y_iconst xe_L_law dL_law_483 (by decide +kernel)
theorem r_L_law_484 {ls : xL} {σ : xS} {x : Int32} : xR mL_law 484 ls ([.int x]) σ = if x = 0 ∨ x = 1 then some (.inl (some (.int x)), σ) else none := y_zret xe_L_law dL_law_484 rfl
theorem r_L_law_485 {ls : xL} {st : List Value} {σ : xS}  : xR mL_law 485 ls (st) σ = gI (lget ls 5) (fun x => xR mL_law 487 ls (.int x :: st) σ) := y_iload xe_L_law dL_law_485
theorem r_L_law_487 {ls : xL} {st : List Value} {σ : xS} {x : Int32} : xR mL_law 487 ls (.int x :: st) σ = if ¬ x = 0 then xR mL_law 502 ls (st) σ else xR mL_law 490 ls (st) σ := y_if_ne xe_L_law dL_law_487 (by decide)
theorem r_L_law_490 {ls : xL} {st : List Value} {σ : xS}  : xR mL_law 490 ls (st) σ = gA (lget ls 3) (fun x => xR mL_law 491 ls (.ref x :: st) σ) := y_aload_n xe_L_law dL_law_490
theorem r_L_law_491 {ls : xL} {st : List Value} {σ : xS}  : xR mL_law 491 ls (st) σ = xR mL_law 492 ls (.int (nI 0) :: st) σ := y_iconst xe_L_law dL_law_491 (by decide +kernel)
theorem r_L_law_492 {ls : xL} {st : List Value} {σ : xS} {a : Nat} {i : Int32} : xR mL_law 492 ls (.int i :: .ref a :: st) σ = (hlng σ 4 a).bind (fun q => if xin i q.1 = true then xR mL_law 493 ls (.long (q.2 i.toNatClampNeg) :: st) σ else none) := y_lald xe_L_law dL_law_492
theorem r_L_law_493 {ls : xL} {st : List Value} {σ : xS}  : xR mL_law 493 ls (st) σ = gI (lget ls 6) (fun x => xR mL_law 495 ls (.int x :: st) σ) := y_iload xe_L_law dL_law_493
theorem r_L_law_495 {ls : xL} {st : List Value} {σ : xS} {x : Int32} : xR mL_law 495 ls (.int x :: st) σ = xR mL_law 496 ls (.long x.toInt64 :: st) σ := y_i2l xe_L_law dL_law_495
theorem r_L_law_496 {ls : xL} {st : List Value} {σ : xS} {x y : Int64} : xR mL_law 496 ls (.long y :: .long x :: st) σ = xR mL_law 497 ls (.int (lg_cmp x y) :: st) σ := y_lcmp xe_L_law dL_law_496
theorem r_L_law_497 {ls : xL} {st : List Value} {σ : xS} {x : Int32} : xR mL_law 497 ls (.int x :: st) σ = if x = 0 then xR mL_law 502 ls (st) σ else xR mL_law 500 ls (st) σ := y_if_eq xe_L_law dL_law_497 (by decide)
theorem r_L_law_500 {ls : xL} {st : List Value} {σ : xS}  : xR mL_law 500 ls (st) σ = xR mL_law 501 ls (.int (nI 0) :: st) σ := y_iconst xe_L_law dL_law_500 (by decide +kernel)
theorem r_L_law_501 {ls : xL} {σ : xS} {x : Int32} : xR mL_law 501 ls ([.int x]) σ = if x = 0 ∨ x = 1 then some (.inl (some (.int x)), σ) else none := y_zret xe_L_law dL_law_501 rfl
theorem r_L_law_502 {ls : xL} {st : List Value} {σ : xS}  : xR mL_law 502 ls (st) σ = xR mL_law 1423 ls (st) σ := y_goto xe_L_law dL_law_502 (by decide)
theorem r_L_law_505 {ls : xL} {st : List Value} {σ : xS}  : xR mL_law 505 ls (st) σ = gA (lget ls 1) (fun x => xR mL_law 506 ls (.ref x :: st) σ) := y_aload_n xe_L_law dL_law_505
theorem r_L_law_506 {ls : xL} {st : List Value} {σ : xS} {a : Nat}  : xR mL_law 506 ls (.ref a :: st) σ = yV (hcls σ a) 5 (xwid st) (xC1 mX6_clearBuffer [.ref a] σ) (fun v τ => xR mL_law 509 ls (v.toList ++ st) τ) := y_cV (as := [.ref a]) (as2 := []) (r := (vwCl[5]?).getD default) xe_L_law dL_law_506 cl_8_102 rfl rfl rfl rfl xe_X6_clearBuffer ⟨Nat.le_of_ble_eq_true rfl, Nat.le_of_ble_eq_true rfl⟩ (Nat.le_of_ble_eq_true rfl) (by decide)
theorem r_L_law_509 {ls : xL} {st : List Value} {σ : xS}  : xR mL_law 509 ls (st) σ = gA (lget ls 2) (fun x => xR mL_law 510 ls (.ref x :: st) σ) := y_aload_n xe_L_law dL_law_509
theorem r_L_law_510 {ls : xL} {st : List Value} {σ : xS} {a : Nat}  : xR mL_law 510 ls (.ref a :: st) σ = yV (hcls σ a) 6 (xwid st) (xC1 mX7_clearBuffer [.ref a] σ) (fun v τ => xR mL_law 513 ls (v.toList ++ st) τ) := y_cV (as := [.ref a]) (as2 := []) (r := (vwCl[6]?).getD default) xe_L_law dL_law_510 cl_8_105 rfl rfl rfl rfl xe_X7_clearBuffer ⟨Nat.le_of_ble_eq_true rfl, Nat.le_of_ble_eq_true rfl⟩ (Nat.le_of_ble_eq_true rfl) (by decide)
theorem r_L_law_513 {ls : xL} {st : List Value} {σ : xS} {x y : Int32} : xR mL_law 513 ls (.int y :: .int x :: st) σ = if x = y then xR mL_law 1423 ls (st) σ else xR mL_law 516 ls (st) σ := y_icmp_eq xe_L_law dL_law_513 (by decide)
theorem r_L_law_516 {ls : xL} {st : List Value} {σ : xS}  : xR mL_law 516 ls (st) σ = xR mL_law 517 ls (.int (nI 0) :: st) σ := y_iconst xe_L_law dL_law_516 (by decide +kernel)
theorem r_L_law_517 {ls : xL} {σ : xS} {x : Int32} : xR mL_law 517 ls ([.int x]) σ = if x = 0 ∨ x = 1 then some (.inl (some (.int x)), σ) else none := y_zret xe_L_law dL_law_517 rfl
theorem r_L_law_518 {ls : xL} {st : List Value} {σ : xS}  : xR mL_law 518 ls (st) σ = gA (lget ls 1) (fun x => xR mL_law 519 ls (.ref x :: st) σ) := y_aload_n xe_L_law dL_law_518
theorem r_L_law_519 {ls : xL} {st : List Value} {σ : xS} {a : Nat}  : xR mL_law 519 ls (.ref a :: st) σ = yV (hcls σ a) 5 (xwid st) (xC1 mX6_firstError [.ref a] σ) (fun v τ => xR mL_law 522 ls (v.toList ++ st) τ) := y_cV (as := [.ref a]) (as2 := []) (r := (vwCl[5]?).getD default) xe_L_law dL_law_519 cl_8_106 rfl rfl rfl rfl xe_X6_firstError ⟨Nat.le_of_ble_eq_true rfl, Nat.le_of_ble_eq_true rfl⟩ (Nat.le_of_ble_eq_true rfl) (by decide)
theorem r_L_law_522 {ls : xL} {st : List Value} {σ : xS}  : xR mL_law 522 ls (st) σ = gA (lget ls 2) (fun x => xR mL_law 523 ls (.ref x :: st) σ) := y_aload_n xe_L_law dL_law_522
theorem r_L_law_523 {ls : xL} {st : List Value} {σ : xS} {a : Nat}  : xR mL_law 523 ls (.ref a :: st) σ = yV (hcls σ a) 6 (xwid st) (xC1 mX7_firstError [.ref a] σ) (fun v τ => xR mL_law 526 ls (v.toList ++ st) τ) := y_cV (as := [.ref a]) (as2 := []) (r := (vwCl[6]?).getD default) xe_L_law dL_law_523 cl_8_109 rfl rfl rfl rfl xe_X7_firstError ⟨Nat.le_of_ble_eq_true rfl, Nat.le_of_ble_eq_true rfl⟩ (Nat.le_of_ble_eq_true rfl) (by decide)
theorem r_L_law_526 {ls : xL} {st : List Value} {σ : xS} {x y : Int32} : xR mL_law 526 ls (.int y :: .int x :: st) σ = if x = y then xR mL_law 1423 ls (st) σ else xR mL_law 529 ls (st) σ := y_icmp_eq xe_L_law dL_law_526 (by decide)
theorem r_L_law_529 {ls : xL} {st : List Value} {σ : xS}  : xR mL_law 529 ls (st) σ = xR mL_law 530 ls (.int (nI 0) :: st) σ := y_iconst xe_L_law dL_law_529 (by decide +kernel)
theorem r_L_law_530 {ls : xL} {σ : xS} {x : Int32} : xR mL_law 530 ls ([.int x]) σ = if x = 0 ∨ x = 1 then some (.inl (some (.int x)), σ) else none := y_zret xe_L_law dL_law_530 rfl
theorem r_L_law_531 {ls : xL} {st : List Value} {σ : xS}  : xR mL_law 531 ls (st) σ = gA (lget ls 1) (fun x => xR mL_law 532 ls (.ref x :: st) σ) := y_aload_n xe_L_law dL_law_531
theorem r_L_law_532 {ls : xL} {st : List Value} {σ : xS}  : xR mL_law 532 ls (st) σ = gA (lget ls 3) (fun x => xR mL_law 533 ls (.ref x :: st) σ) := y_aload_n xe_L_law dL_law_532
theorem r_L_law_533 {ls : xL} {st : List Value} {σ : xS} {x0 : Nat} {x1 : Nat} : xR mL_law 533 ls (.ref x1 :: .ref x0 :: st) σ = yC (xwid st) (xC1 mL_play [.ref x0, .ref x1] σ) (fun v τ => xR mL_law 536 ls (v.toList ++ st) τ) := y_cL (as := [.ref x0, .ref x1]) xe_L_law dL_law_533 cl_8_110 rfl xe_L_play ⟨Nat.le_of_ble_eq_true rfl, Nat.le_of_ble_eq_true rfl⟩ (Nat.le_of_ble_eq_true rfl) (by decide)
theorem r_L_law_536 {ls : xL} {st : List Value} {σ : xS} {x : Int32} : xR mL_law 536 ls (.int x :: st) σ = (lst1 ls 5 (some (.int x))).bind (fun l => xR mL_law 538 l (st) σ) := y_istore xe_L_law dL_law_536
theorem r_L_law_538 {ls : xL} {st : List Value} {σ : xS}  : xR mL_law 538 ls (st) σ = gA (lget ls 2) (fun x => xR mL_law 539 ls (.ref x :: st) σ) := y_aload_n xe_L_law dL_law_538
theorem r_L_law_539 {ls : xL} {st : List Value} {σ : xS} {a : Nat}  : xR mL_law 539 ls (.ref a :: st) σ = yV (hcls σ a) 6 (xwid st) (xC1 mX7_play [.ref a] σ) (fun v τ => xR mL_law 542 ls (v.toList ++ st) τ) := y_cV (as := [.ref a]) (as2 := []) (r := (vwCl[6]?).getD default) xe_L_law dL_law_539 cl_8_113 rfl rfl rfl rfl xe_X7_play ⟨Nat.le_of_ble_eq_true rfl, Nat.le_of_ble_eq_true rfl⟩ (Nat.le_of_ble_eq_true rfl) (by decide)
theorem r_L_law_542 {ls : xL} {st : List Value} {σ : xS} {x : Int32} : xR mL_law 542 ls (.int x :: st) σ = (lst1 ls 6 (some (.int x))).bind (fun l => xR mL_law 544 l (st) σ) := y_istore xe_L_law dL_law_542
theorem r_L_law_544 {ls : xL} {st : List Value} {σ : xS}  : xR mL_law 544 ls (st) σ = gA (lget ls 2) (fun x => xR mL_law 545 ls (.ref x :: st) σ) := y_aload_n xe_L_law dL_law_544
theorem r_L_law_545 {ls : xL} {st : List Value} {σ : xS} {a : Nat}  : xR mL_law 545 ls (.ref a :: st) σ = yV (hcls σ a) 6 (xwid st) (xC1 mX7_thrown [.ref a] σ) (fun v τ => xR mL_law 548 ls (v.toList ++ st) τ) := y_cV (as := [.ref a]) (as2 := []) (r := (vwCl[6]?).getD default) xe_L_law dL_law_545 cl_8_81 rfl rfl rfl rfl xe_X7_thrown ⟨Nat.le_of_ble_eq_true rfl, Nat.le_of_ble_eq_true rfl⟩ (Nat.le_of_ble_eq_true rfl) (by decide)
theorem r_L_law_548 {ls : xL} {st : List Value} {σ : xS}  : xR mL_law 548 ls (st) σ = gI (lget ls 5) (fun x => xR mL_law 550 ls (.int x :: st) σ) := y_iload xe_L_law dL_law_548
theorem r_L_law_550 {ls : xL} {st : List Value} {σ : xS} {x y : Int32} : xR mL_law 550 ls (.int y :: .int x :: st) σ = if x = y then xR mL_law 555 ls (st) σ else xR mL_law 553 ls (st) σ := y_icmp_eq xe_L_law dL_law_550 (by decide)
theorem r_L_law_553 {ls : xL} {st : List Value} {σ : xS}  : xR mL_law 553 ls (st) σ = xR mL_law 554 ls (.int (nI 0) :: st) σ := y_iconst xe_L_law dL_law_553 (by decide +kernel)
theorem r_L_law_554 {ls : xL} {σ : xS} {x : Int32} : xR mL_law 554 ls ([.int x]) σ = if x = 0 ∨ x = 1 then some (.inl (some (.int x)), σ) else none := y_zret xe_L_law dL_law_554 rfl
theorem r_L_law_555 {ls : xL} {st : List Value} {σ : xS}  : xR mL_law 555 ls (st) σ = gI (lget ls 5) (fun x => xR mL_law 557 ls (.int x :: st) σ) := y_iload xe_L_law dL_law_555
theorem r_L_law_557 {ls : xL} {st : List Value} {σ : xS} {x : Int32} : xR mL_law 557 ls (.int x :: st) σ = if ¬ x = 0 then xR mL_law 572 ls (st) σ else xR mL_law 560 ls (st) σ := y_if_ne xe_L_law dL_law_557 (by decide)
theorem r_L_law_560 {ls : xL} {st : List Value} {σ : xS}  : xR mL_law 560 ls (st) σ = gA (lget ls 3) (fun x => xR mL_law 561 ls (.ref x :: st) σ) := y_aload_n xe_L_law dL_law_560
theorem r_L_law_561 {ls : xL} {st : List Value} {σ : xS}  : xR mL_law 561 ls (st) σ = xR mL_law 562 ls (.int (nI 0) :: st) σ := y_iconst xe_L_law dL_law_561 (by decide +kernel)
theorem r_L_law_562 {ls : xL} {st : List Value} {σ : xS} {a : Nat} {i : Int32} : xR mL_law 562 ls (.int i :: .ref a :: st) σ = (hlng σ 4 a).bind (fun q => if xin i q.1 = true then xR mL_law 563 ls (.long (q.2 i.toNatClampNeg) :: st) σ else none) := y_lald xe_L_law dL_law_562
theorem r_L_law_563 {ls : xL} {st : List Value} {σ : xS}  : xR mL_law 563 ls (st) σ = gI (lget ls 6) (fun x => xR mL_law 565 ls (.int x :: st) σ) := y_iload xe_L_law dL_law_563
theorem r_L_law_565 {ls : xL} {st : List Value} {σ : xS} {x : Int32} : xR mL_law 565 ls (.int x :: st) σ = xR mL_law 566 ls (.long x.toInt64 :: st) σ := y_i2l xe_L_law dL_law_565
theorem r_L_law_566 {ls : xL} {st : List Value} {σ : xS} {x y : Int64} : xR mL_law 566 ls (.long y :: .long x :: st) σ = xR mL_law 567 ls (.int (lg_cmp x y) :: st) σ := y_lcmp xe_L_law dL_law_566
theorem r_L_law_567 {ls : xL} {st : List Value} {σ : xS} {x : Int32} : xR mL_law 567 ls (.int x :: st) σ = if x = 0 then xR mL_law 572 ls (st) σ else xR mL_law 570 ls (st) σ := y_if_eq xe_L_law dL_law_567 (by decide)
theorem r_L_law_570 {ls : xL} {st : List Value} {σ : xS}  : xR mL_law 570 ls (st) σ = xR mL_law 571 ls (.int (nI 0) :: st) σ := y_iconst xe_L_law dL_law_570 (by decide +kernel)
theorem r_L_law_571 {ls : xL} {σ : xS} {x : Int32} : xR mL_law 571 ls ([.int x]) σ = if x = 0 ∨ x = 1 then some (.inl (some (.int x)), σ) else none := y_zret xe_L_law dL_law_571 rfl
theorem r_L_law_572 {ls : xL} {st : List Value} {σ : xS}  : xR mL_law 572 ls (st) σ = xR mL_law 1423 ls (st) σ := y_goto xe_L_law dL_law_572 (by decide)
theorem r_L_law_575 {ls : xL} {st : List Value} {σ : xS}  : xR mL_law 575 ls (st) σ = gA (lget ls 1) (fun x => xR mL_law 576 ls (.ref x :: st) σ) := y_aload_n xe_L_law dL_law_575
theorem r_L_law_576 {ls : xL} {st : List Value} {σ : xS} {a : Nat}  : xR mL_law 576 ls (.ref a :: st) σ = yV (hcls σ a) 5 (xwid st) (xC1 mX6_keep [.ref a] σ) (fun v τ => xR mL_law 579 ls (v.toList ++ st) τ) := y_cV (as := [.ref a]) (as2 := []) (r := (vwCl[5]?).getD default) xe_L_law dL_law_576 cl_8_114 rfl rfl rfl rfl xe_X6_keep ⟨Nat.le_of_ble_eq_true rfl, Nat.le_of_ble_eq_true rfl⟩ (Nat.le_of_ble_eq_true rfl) (by decide)
theorem r_L_law_579 {ls : xL} {st : List Value} {σ : xS}  : xR mL_law 579 ls (st) σ = gA (lget ls 2) (fun x => xR mL_law 580 ls (.ref x :: st) σ) := y_aload_n xe_L_law dL_law_579
theorem r_L_law_580 {ls : xL} {st : List Value} {σ : xS} {a : Nat}  : xR mL_law 580 ls (.ref a :: st) σ = yV (hcls σ a) 6 (xwid st) (xC1 mX7_keep [.ref a] σ) (fun v τ => xR mL_law 583 ls (v.toList ++ st) τ) := y_cV (as := [.ref a]) (as2 := []) (r := (vwCl[6]?).getD default) xe_L_law dL_law_580 cl_8_117 rfl rfl rfl rfl xe_X7_keep ⟨Nat.le_of_ble_eq_true rfl, Nat.le_of_ble_eq_true rfl⟩ (Nat.le_of_ble_eq_true rfl) (by decide)
theorem r_L_law_583 {ls : xL} {st : List Value} {σ : xS} {x y : Int32} : xR mL_law 583 ls (.int y :: .int x :: st) σ = if x = y then xR mL_law 1423 ls (st) σ else xR mL_law 586 ls (st) σ := y_icmp_eq xe_L_law dL_law_583 (by decide)
theorem r_L_law_586 {ls : xL} {st : List Value} {σ : xS}  : xR mL_law 586 ls (st) σ = xR mL_law 587 ls (.int (nI 0) :: st) σ := y_iconst xe_L_law dL_law_586 (by decide +kernel)
theorem r_L_law_587 {ls : xL} {σ : xS} {x : Int32} : xR mL_law 587 ls ([.int x]) σ = if x = 0 ∨ x = 1 then some (.inl (some (.int x)), σ) else none := y_zret xe_L_law dL_law_587 rfl
theorem r_L_law_588 {ls : xL} {st : List Value} {σ : xS}  : xR mL_law 588 ls (st) σ = gA (lget ls 1) (fun x => xR mL_law 589 ls (.ref x :: st) σ) := y_aload_n xe_L_law dL_law_588
theorem r_L_law_589 {ls : xL} {st : List Value} {σ : xS}  : xR mL_law 589 ls (st) σ = gA (lget ls 3) (fun x => xR mL_law 590 ls (.ref x :: st) σ) := y_aload_n xe_L_law dL_law_589
theorem r_L_law_590 {ls : xL} {st : List Value} {σ : xS} {x0 : Nat} {x1 : Nat} : xR mL_law 590 ls (.ref x1 :: .ref x0 :: st) σ = yC (xwid st) (xC1 mL_goBack [.ref x0, .ref x1] σ) (fun v τ => xR mL_law 593 ls (v.toList ++ st) τ) := y_cL (as := [.ref x0, .ref x1]) xe_L_law dL_law_590 cl_8_118 rfl xe_L_goBack ⟨Nat.le_of_ble_eq_true rfl, Nat.le_of_ble_eq_true rfl⟩ (Nat.le_of_ble_eq_true rfl) (by decide)
theorem r_L_law_593 {ls : xL} {st : List Value} {σ : xS} {x : Int32} : xR mL_law 593 ls (.int x :: st) σ = (lst1 ls 5 (some (.int x))).bind (fun l => xR mL_law 595 l (st) σ) := y_istore xe_L_law dL_law_593
theorem r_L_law_595 {ls : xL} {st : List Value} {σ : xS}  : xR mL_law 595 ls (st) σ = gA (lget ls 2) (fun x => xR mL_law 596 ls (.ref x :: st) σ) := y_aload_n xe_L_law dL_law_595
theorem r_L_law_596 {ls : xL} {st : List Value} {σ : xS} {a : Nat}  : xR mL_law 596 ls (.ref a :: st) σ = yV (hcls σ a) 6 (xwid st) (xC1 mX7_goBack [.ref a] σ) (fun v τ => xR mL_law 599 ls (v.toList ++ st) τ) := y_cV (as := [.ref a]) (as2 := []) (r := (vwCl[6]?).getD default) xe_L_law dL_law_596 cl_8_120 rfl rfl rfl rfl xe_X7_goBack ⟨Nat.le_of_ble_eq_true rfl, Nat.le_of_ble_eq_true rfl⟩ (Nat.le_of_ble_eq_true rfl) (by decide)
theorem r_L_law_599 {ls : xL} {st : List Value} {σ : xS} {x : Int32} : xR mL_law 599 ls (.int x :: st) σ = (lst1 ls 6 (some (.int x))).bind (fun l => xR mL_law 601 l (st) σ) := y_istore xe_L_law dL_law_599
theorem r_L_law_601 {ls : xL} {st : List Value} {σ : xS}  : xR mL_law 601 ls (st) σ = gA (lget ls 2) (fun x => xR mL_law 602 ls (.ref x :: st) σ) := y_aload_n xe_L_law dL_law_601
theorem r_L_law_602 {ls : xL} {st : List Value} {σ : xS} {a : Nat}  : xR mL_law 602 ls (.ref a :: st) σ = yV (hcls σ a) 6 (xwid st) (xC1 mX7_thrown [.ref a] σ) (fun v τ => xR mL_law 605 ls (v.toList ++ st) τ) := y_cV (as := [.ref a]) (as2 := []) (r := (vwCl[6]?).getD default) xe_L_law dL_law_602 cl_8_81 rfl rfl rfl rfl xe_X7_thrown ⟨Nat.le_of_ble_eq_true rfl, Nat.le_of_ble_eq_true rfl⟩ (Nat.le_of_ble_eq_true rfl) (by decide)
theorem r_L_law_605 {ls : xL} {st : List Value} {σ : xS}  : xR mL_law 605 ls (st) σ = gI (lget ls 5) (fun x => xR mL_law 607 ls (.int x :: st) σ) := y_iload xe_L_law dL_law_605
theorem r_L_law_607 {ls : xL} {st : List Value} {σ : xS} {x y : Int32} : xR mL_law 607 ls (.int y :: .int x :: st) σ = if x = y then xR mL_law 612 ls (st) σ else xR mL_law 610 ls (st) σ := y_icmp_eq xe_L_law dL_law_607 (by decide)
theorem r_L_law_610 {ls : xL} {st : List Value} {σ : xS}  : xR mL_law 610 ls (st) σ = xR mL_law 611 ls (.int (nI 0) :: st) σ := y_iconst xe_L_law dL_law_610 (by decide +kernel)
theorem r_L_law_611 {ls : xL} {σ : xS} {x : Int32} : xR mL_law 611 ls ([.int x]) σ = if x = 0 ∨ x = 1 then some (.inl (some (.int x)), σ) else none := y_zret xe_L_law dL_law_611 rfl
theorem r_L_law_612 {ls : xL} {st : List Value} {σ : xS}  : xR mL_law 612 ls (st) σ = gI (lget ls 5) (fun x => xR mL_law 614 ls (.int x :: st) σ) := y_iload xe_L_law dL_law_612
theorem r_L_law_614 {ls : xL} {st : List Value} {σ : xS} {x : Int32} : xR mL_law 614 ls (.int x :: st) σ = if ¬ x = 0 then xR mL_law 629 ls (st) σ else xR mL_law 617 ls (st) σ := y_if_ne xe_L_law dL_law_614 (by decide)
theorem r_L_law_617 {ls : xL} {st : List Value} {σ : xS}  : xR mL_law 617 ls (st) σ = gA (lget ls 3) (fun x => xR mL_law 618 ls (.ref x :: st) σ) := y_aload_n xe_L_law dL_law_617
theorem r_L_law_618 {ls : xL} {st : List Value} {σ : xS}  : xR mL_law 618 ls (st) σ = xR mL_law 619 ls (.int (nI 0) :: st) σ := y_iconst xe_L_law dL_law_618 (by decide +kernel)
theorem r_L_law_619 {ls : xL} {st : List Value} {σ : xS} {a : Nat} {i : Int32} : xR mL_law 619 ls (.int i :: .ref a :: st) σ = (hlng σ 4 a).bind (fun q => if xin i q.1 = true then xR mL_law 620 ls (.long (q.2 i.toNatClampNeg) :: st) σ else none) := y_lald xe_L_law dL_law_619
theorem r_L_law_620 {ls : xL} {st : List Value} {σ : xS}  : xR mL_law 620 ls (st) σ = gI (lget ls 6) (fun x => xR mL_law 622 ls (.int x :: st) σ) := y_iload xe_L_law dL_law_620
theorem r_L_law_622 {ls : xL} {st : List Value} {σ : xS} {x : Int32} : xR mL_law 622 ls (.int x :: st) σ = xR mL_law 623 ls (.long x.toInt64 :: st) σ := y_i2l xe_L_law dL_law_622
theorem r_L_law_623 {ls : xL} {st : List Value} {σ : xS} {x y : Int64} : xR mL_law 623 ls (.long y :: .long x :: st) σ = xR mL_law 624 ls (.int (lg_cmp x y) :: st) σ := y_lcmp xe_L_law dL_law_623
theorem r_L_law_624 {ls : xL} {st : List Value} {σ : xS} {x : Int32} : xR mL_law 624 ls (.int x :: st) σ = if x = 0 then xR mL_law 629 ls (st) σ else xR mL_law 627 ls (st) σ := y_if_eq xe_L_law dL_law_624 (by decide)
theorem r_L_law_627 {ls : xL} {st : List Value} {σ : xS}  : xR mL_law 627 ls (st) σ = xR mL_law 628 ls (.int (nI 0) :: st) σ := y_iconst xe_L_law dL_law_627 (by decide +kernel)
theorem r_L_law_628 {ls : xL} {σ : xS} {x : Int32} : xR mL_law 628 ls ([.int x]) σ = if x = 0 ∨ x = 1 then some (.inl (some (.int x)), σ) else none := y_zret xe_L_law dL_law_628 rfl
theorem r_L_law_629 {ls : xL} {st : List Value} {σ : xS}  : xR mL_law 629 ls (st) σ = xR mL_law 1423 ls (st) σ := y_goto xe_L_law dL_law_629 (by decide)
theorem r_L_law_632 {ls : xL} {st : List Value} {σ : xS}  : xR mL_law 632 ls (st) σ = gA (lget ls 1) (fun x => xR mL_law 633 ls (.ref x :: st) σ) := y_aload_n xe_L_law dL_law_632
theorem r_L_law_633 {ls : xL} {st : List Value} {σ : xS}  : xR mL_law 633 ls (st) σ = gA (lget ls 3) (fun x => xR mL_law 634 ls (.ref x :: st) σ) := y_aload_n xe_L_law dL_law_633
theorem r_L_law_634 {ls : xL} {st : List Value} {σ : xS} {x0 : Nat} {x1 : Nat} : xR mL_law 634 ls (.ref x1 :: .ref x0 :: st) σ = yC (xwid st) (xC1 mL_undo [.ref x0, .ref x1] σ) (fun v τ => xR mL_law 637 ls (v.toList ++ st) τ) := y_cL (as := [.ref x0, .ref x1]) xe_L_law dL_law_634 cl_8_121 rfl xe_L_undo ⟨Nat.le_of_ble_eq_true rfl, Nat.le_of_ble_eq_true rfl⟩ (Nat.le_of_ble_eq_true rfl) (by decide)
theorem r_L_law_637 {ls : xL} {st : List Value} {σ : xS} {x : Int32} : xR mL_law 637 ls (.int x :: st) σ = (lst1 ls 5 (some (.int x))).bind (fun l => xR mL_law 639 l (st) σ) := y_istore xe_L_law dL_law_637
theorem r_L_law_639 {ls : xL} {st : List Value} {σ : xS}  : xR mL_law 639 ls (st) σ = gA (lget ls 2) (fun x => xR mL_law 640 ls (.ref x :: st) σ) := y_aload_n xe_L_law dL_law_639
theorem r_L_law_640 {ls : xL} {st : List Value} {σ : xS} {a : Nat}  : xR mL_law 640 ls (.ref a :: st) σ = yV (hcls σ a) 6 (xwid st) (xC1 mX7_undo [.ref a] σ) (fun v τ => xR mL_law 643 ls (v.toList ++ st) τ) := y_cV (as := [.ref a]) (as2 := []) (r := (vwCl[6]?).getD default) xe_L_law dL_law_640 cl_8_123 rfl rfl rfl rfl xe_X7_undo ⟨Nat.le_of_ble_eq_true rfl, Nat.le_of_ble_eq_true rfl⟩ (Nat.le_of_ble_eq_true rfl) (by decide)
theorem r_L_law_643 {ls : xL} {st : List Value} {σ : xS} {x : Int32} : xR mL_law 643 ls (.int x :: st) σ = (lst1 ls 6 (some (.int x))).bind (fun l => xR mL_law 645 l (st) σ) := y_istore xe_L_law dL_law_643
theorem r_L_law_645 {ls : xL} {st : List Value} {σ : xS}  : xR mL_law 645 ls (st) σ = gA (lget ls 2) (fun x => xR mL_law 646 ls (.ref x :: st) σ) := y_aload_n xe_L_law dL_law_645
theorem r_L_law_646 {ls : xL} {st : List Value} {σ : xS} {a : Nat}  : xR mL_law 646 ls (.ref a :: st) σ = yV (hcls σ a) 6 (xwid st) (xC1 mX7_thrown [.ref a] σ) (fun v τ => xR mL_law 649 ls (v.toList ++ st) τ) := y_cV (as := [.ref a]) (as2 := []) (r := (vwCl[6]?).getD default) xe_L_law dL_law_646 cl_8_81 rfl rfl rfl rfl xe_X7_thrown ⟨Nat.le_of_ble_eq_true rfl, Nat.le_of_ble_eq_true rfl⟩ (Nat.le_of_ble_eq_true rfl) (by decide)
theorem r_L_law_649 {ls : xL} {st : List Value} {σ : xS}  : xR mL_law 649 ls (st) σ = gI (lget ls 5) (fun x => xR mL_law 651 ls (.int x :: st) σ) := y_iload xe_L_law dL_law_649
theorem r_L_law_651 {ls : xL} {st : List Value} {σ : xS} {x y : Int32} : xR mL_law 651 ls (.int y :: .int x :: st) σ = if x = y then xR mL_law 656 ls (st) σ else xR mL_law 654 ls (st) σ := y_icmp_eq xe_L_law dL_law_651 (by decide)
theorem r_L_law_654 {ls : xL} {st : List Value} {σ : xS}  : xR mL_law 654 ls (st) σ = xR mL_law 655 ls (.int (nI 0) :: st) σ := y_iconst xe_L_law dL_law_654 (by decide +kernel)
theorem r_L_law_655 {ls : xL} {σ : xS} {x : Int32} : xR mL_law 655 ls ([.int x]) σ = if x = 0 ∨ x = 1 then some (.inl (some (.int x)), σ) else none := y_zret xe_L_law dL_law_655 rfl
theorem r_L_law_656 {ls : xL} {st : List Value} {σ : xS}  : xR mL_law 656 ls (st) σ = gI (lget ls 5) (fun x => xR mL_law 658 ls (.int x :: st) σ) := y_iload xe_L_law dL_law_656
theorem r_L_law_658 {ls : xL} {st : List Value} {σ : xS} {x : Int32} : xR mL_law 658 ls (.int x :: st) σ = if ¬ x = 0 then xR mL_law 673 ls (st) σ else xR mL_law 661 ls (st) σ := y_if_ne xe_L_law dL_law_658 (by decide)
theorem r_L_law_661 {ls : xL} {st : List Value} {σ : xS}  : xR mL_law 661 ls (st) σ = gA (lget ls 3) (fun x => xR mL_law 662 ls (.ref x :: st) σ) := y_aload_n xe_L_law dL_law_661
theorem r_L_law_662 {ls : xL} {st : List Value} {σ : xS}  : xR mL_law 662 ls (st) σ = xR mL_law 663 ls (.int (nI 0) :: st) σ := y_iconst xe_L_law dL_law_662 (by decide +kernel)
theorem r_L_law_663 {ls : xL} {st : List Value} {σ : xS} {a : Nat} {i : Int32} : xR mL_law 663 ls (.int i :: .ref a :: st) σ = (hlng σ 4 a).bind (fun q => if xin i q.1 = true then xR mL_law 664 ls (.long (q.2 i.toNatClampNeg) :: st) σ else none) := y_lald xe_L_law dL_law_663
theorem r_L_law_664 {ls : xL} {st : List Value} {σ : xS}  : xR mL_law 664 ls (st) σ = gI (lget ls 6) (fun x => xR mL_law 666 ls (.int x :: st) σ) := y_iload xe_L_law dL_law_664
theorem r_L_law_666 {ls : xL} {st : List Value} {σ : xS} {x : Int32} : xR mL_law 666 ls (.int x :: st) σ = xR mL_law 667 ls (.long x.toInt64 :: st) σ := y_i2l xe_L_law dL_law_666
theorem r_L_law_667 {ls : xL} {st : List Value} {σ : xS} {x y : Int64} : xR mL_law 667 ls (.long y :: .long x :: st) σ = xR mL_law 668 ls (.int (lg_cmp x y) :: st) σ := y_lcmp xe_L_law dL_law_667
theorem r_L_law_668 {ls : xL} {st : List Value} {σ : xS} {x : Int32} : xR mL_law 668 ls (.int x :: st) σ = if x = 0 then xR mL_law 673 ls (st) σ else xR mL_law 671 ls (st) σ := y_if_eq xe_L_law dL_law_668 (by decide)
theorem r_L_law_671 {ls : xL} {st : List Value} {σ : xS}  : xR mL_law 671 ls (st) σ = xR mL_law 672 ls (.int (nI 0) :: st) σ := y_iconst xe_L_law dL_law_671 (by decide +kernel)
theorem r_L_law_672 {ls : xL} {σ : xS} {x : Int32} : xR mL_law 672 ls ([.int x]) σ = if x = 0 ∨ x = 1 then some (.inl (some (.int x)), σ) else none := y_zret xe_L_law dL_law_672 rfl
theorem r_L_law_673 {ls : xL} {st : List Value} {σ : xS}  : xR mL_law 673 ls (st) σ = xR mL_law 1423 ls (st) σ := y_goto xe_L_law dL_law_673 (by decide)
theorem r_L_law_676 {ls : xL} {st : List Value} {σ : xS}  : xR mL_law 676 ls (st) σ = gA (lget ls 1) (fun x => xR mL_law 677 ls (.ref x :: st) σ) := y_aload_n xe_L_law dL_law_676
theorem r_L_law_677 {ls : xL} {st : List Value} {σ : xS}  : xR mL_law 677 ls (st) σ = gA (lget ls 0) (fun x => xR mL_law 678 ls (.ref x :: st) σ) := y_aload_n xe_L_law dL_law_677
theorem r_L_law_678 {ls : xL} {st : List Value} {σ : xS}  : xR mL_law 678 ls (st) σ = gI (lget ls 4) (fun x => xR mL_law 680 ls (.int x :: st) σ) := y_iload xe_L_law dL_law_678
theorem r_L_law_680 {ls : xL} {st : List Value} {σ : xS}  : xR mL_law 680 ls (st) σ = xR mL_law 681 ls (.int (nI 1) :: st) σ := y_iconst xe_L_law dL_law_680 (by decide +kernel)
theorem r_L_law_681 {ls : xL} {st : List Value} {σ : xS} {x y : Int32} : xR mL_law 681 ls (.int y :: .int x :: st) σ = xR mL_law 682 ls (.int (x + y) :: st) σ := y_iadd xe_L_law dL_law_681
theorem r_L_law_682 {ls : xL} {st : List Value} {σ : xS} {a : Nat} {i : Int32} : xR mL_law 682 ls (.int i :: .ref a :: st) σ = (hl9 σ a).bind (fun q => if xin i q.1 = true then xR mL_law 683 ls (.int (q.2 i.toNatClampNeg) :: st) σ else none) := y_iald9 xe_L_law dL_law_682 rfl
theorem r_L_law_683 {ls : xL} {st : List Value} {σ : xS}  : xR mL_law 683 ls (st) σ = gA (lget ls 0) (fun x => xR mL_law 684 ls (.ref x :: st) σ) := y_aload_n xe_L_law dL_law_683
theorem r_L_law_684 {ls : xL} {st : List Value} {σ : xS}  : xR mL_law 684 ls (st) σ = gI (lget ls 4) (fun x => xR mL_law 686 ls (.int x :: st) σ) := y_iload xe_L_law dL_law_684
theorem r_L_law_686 {ls : xL} {st : List Value} {σ : xS}  : xR mL_law 686 ls (st) σ = xR mL_law 687 ls (.int (nI 2) :: st) σ := y_iconst xe_L_law dL_law_686 (by decide +kernel)
theorem r_L_law_687 {ls : xL} {st : List Value} {σ : xS} {x y : Int32} : xR mL_law 687 ls (.int y :: .int x :: st) σ = xR mL_law 688 ls (.int (x + y) :: st) σ := y_iadd xe_L_law dL_law_687
theorem r_L_law_688 {ls : xL} {st : List Value} {σ : xS} {a : Nat} {i : Int32} : xR mL_law 688 ls (.int i :: .ref a :: st) σ = (hl9 σ a).bind (fun q => if xin i q.1 = true then xR mL_law 689 ls (.int (q.2 i.toNatClampNeg) :: st) σ else none) := y_iald9 xe_L_law dL_law_688 rfl
theorem r_L_law_689 {ls : xL} {st : List Value} {σ : xS}  : xR mL_law 689 ls (st) σ = gA (lget ls 0) (fun x => xR mL_law 690 ls (.ref x :: st) σ) := y_aload_n xe_L_law dL_law_689
theorem r_L_law_690 {ls : xL} {st : List Value} {σ : xS}  : xR mL_law 690 ls (st) σ = gI (lget ls 4) (fun x => xR mL_law 692 ls (.int x :: st) σ) := y_iload xe_L_law dL_law_690
theorem r_L_law_692 {ls : xL} {st : List Value} {σ : xS}  : xR mL_law 692 ls (st) σ = xR mL_law 693 ls (.int (nI 3) :: st) σ := y_iconst xe_L_law dL_law_692 (by decide +kernel)
theorem r_L_law_693 {ls : xL} {st : List Value} {σ : xS} {x y : Int32} : xR mL_law 693 ls (.int y :: .int x :: st) σ = xR mL_law 694 ls (.int (x + y) :: st) σ := y_iadd xe_L_law dL_law_693
theorem r_L_law_694 {ls : xL} {st : List Value} {σ : xS} {a : Nat} {i : Int32} : xR mL_law 694 ls (.int i :: .ref a :: st) σ = (hl9 σ a).bind (fun q => if xin i q.1 = true then xR mL_law 695 ls (.int (q.2 i.toNatClampNeg) :: st) σ else none) := y_iald9 xe_L_law dL_law_694 rfl
theorem r_L_law_695 {ls : xL} {st : List Value} {σ : xS}  : xR mL_law 695 ls (st) σ = gA (lget ls 3) (fun x => xR mL_law 696 ls (.ref x :: st) σ) := y_aload_n xe_L_law dL_law_695
theorem r_L_law_696 {ls : xL} {st : List Value} {σ : xS} {x0 : Nat} {x1 : Int32} {x2 : Int32} {x3 : Int32} {x4 : Nat} : xR mL_law 696 ls (.ref x4 :: .int x3 :: .int x2 :: .int x1 :: .ref x0 :: st) σ = yC (xwid st) (xC1 mL_cell [.ref x0, .int x1, .int x2, .int x3, .ref x4] σ) (fun v τ => xR mL_law 699 ls (v.toList ++ st) τ) := y_cL (as := [.ref x0, .int x1, .int x2, .int x3, .ref x4]) xe_L_law dL_law_696 cl_8_124 rfl xe_L_cell ⟨Nat.le_of_ble_eq_true rfl, Nat.le_of_ble_eq_true rfl⟩ (Nat.le_of_ble_eq_true rfl) (by decide)
theorem r_L_law_699 {ls : xL} {st : List Value} {σ : xS} {x : Int32} : xR mL_law 699 ls (.int x :: st) σ = (lst1 ls 5 (some (.int x))).bind (fun l => xR mL_law 701 l (st) σ) := y_istore xe_L_law dL_law_699
theorem r_L_law_701 {ls : xL} {st : List Value} {σ : xS}  : xR mL_law 701 ls (st) σ = gA (lget ls 2) (fun x => xR mL_law 702 ls (.ref x :: st) σ) := y_aload_n xe_L_law dL_law_701
theorem r_L_law_702 {ls : xL} {st : List Value} {σ : xS}  : xR mL_law 702 ls (st) σ = gA (lget ls 0) (fun x => xR mL_law 703 ls (.ref x :: st) σ) := y_aload_n xe_L_law dL_law_702
theorem r_L_law_703 {ls : xL} {st : List Value} {σ : xS}  : xR mL_law 703 ls (st) σ = gI (lget ls 4) (fun x => xR mL_law 705 ls (.int x :: st) σ) := y_iload xe_L_law dL_law_703
theorem r_L_law_705 {ls : xL} {st : List Value} {σ : xS}  : xR mL_law 705 ls (st) σ = xR mL_law 706 ls (.int (nI 1) :: st) σ := y_iconst xe_L_law dL_law_705 (by decide +kernel)
theorem r_L_law_706 {ls : xL} {st : List Value} {σ : xS} {x y : Int32} : xR mL_law 706 ls (.int y :: .int x :: st) σ = xR mL_law 707 ls (.int (x + y) :: st) σ := y_iadd xe_L_law dL_law_706
theorem r_L_law_707 {ls : xL} {st : List Value} {σ : xS} {a : Nat} {i : Int32} : xR mL_law 707 ls (.int i :: .ref a :: st) σ = (hl9 σ a).bind (fun q => if xin i q.1 = true then xR mL_law 708 ls (.int (q.2 i.toNatClampNeg) :: st) σ else none) := y_iald9 xe_L_law dL_law_707 rfl
theorem r_L_law_708 {ls : xL} {st : List Value} {σ : xS}  : xR mL_law 708 ls (st) σ = gA (lget ls 0) (fun x => xR mL_law 709 ls (.ref x :: st) σ) := y_aload_n xe_L_law dL_law_708
theorem r_L_law_709 {ls : xL} {st : List Value} {σ : xS}  : xR mL_law 709 ls (st) σ = gI (lget ls 4) (fun x => xR mL_law 711 ls (.int x :: st) σ) := y_iload xe_L_law dL_law_709
theorem r_L_law_711 {ls : xL} {st : List Value} {σ : xS}  : xR mL_law 711 ls (st) σ = xR mL_law 712 ls (.int (nI 2) :: st) σ := y_iconst xe_L_law dL_law_711 (by decide +kernel)
theorem r_L_law_712 {ls : xL} {st : List Value} {σ : xS} {x y : Int32} : xR mL_law 712 ls (.int y :: .int x :: st) σ = xR mL_law 713 ls (.int (x + y) :: st) σ := y_iadd xe_L_law dL_law_712
theorem r_L_law_713 {ls : xL} {st : List Value} {σ : xS} {a : Nat} {i : Int32} : xR mL_law 713 ls (.int i :: .ref a :: st) σ = (hl9 σ a).bind (fun q => if xin i q.1 = true then xR mL_law 714 ls (.int (q.2 i.toNatClampNeg) :: st) σ else none) := y_iald9 xe_L_law dL_law_713 rfl
theorem r_L_law_714 {ls : xL} {st : List Value} {σ : xS}  : xR mL_law 714 ls (st) σ = gA (lget ls 0) (fun x => xR mL_law 715 ls (.ref x :: st) σ) := y_aload_n xe_L_law dL_law_714
theorem r_L_law_715 {ls : xL} {st : List Value} {σ : xS}  : xR mL_law 715 ls (st) σ = gI (lget ls 4) (fun x => xR mL_law 717 ls (.int x :: st) σ) := y_iload xe_L_law dL_law_715
theorem r_L_law_717 {ls : xL} {st : List Value} {σ : xS}  : xR mL_law 717 ls (st) σ = xR mL_law 718 ls (.int (nI 3) :: st) σ := y_iconst xe_L_law dL_law_717 (by decide +kernel)
theorem r_L_law_718 {ls : xL} {st : List Value} {σ : xS} {x y : Int32} : xR mL_law 718 ls (.int y :: .int x :: st) σ = xR mL_law 719 ls (.int (x + y) :: st) σ := y_iadd xe_L_law dL_law_718
theorem r_L_law_719 {ls : xL} {st : List Value} {σ : xS} {a : Nat} {i : Int32} : xR mL_law 719 ls (.int i :: .ref a :: st) σ = (hl9 σ a).bind (fun q => if xin i q.1 = true then xR mL_law 720 ls (.int (q.2 i.toNatClampNeg) :: st) σ else none) := y_iald9 xe_L_law dL_law_719 rfl
theorem r_L_law_720 {ls : xL} {st : List Value} {σ : xS} {a : Nat} {x0 : Int32} {x1 : Int32} {x2 : Int32} : xR mL_law 720 ls (.int x2 :: .int x1 :: .int x0 :: .ref a :: st) σ = yV (hcls σ a) 6 (xwid st) (xC1 mX7_cell [.ref a, .int x0, .int x1, .int x2] σ) (fun v τ => xR mL_law 723 ls (v.toList ++ st) τ) := y_cV (as := [.ref a, .int x0, .int x1, .int x2]) (as2 := [.int x0, .int x1, .int x2]) (r := (vwCl[6]?).getD default) xe_L_law dL_law_720 cl_8_126 rfl rfl rfl rfl xe_X7_cell ⟨Nat.le_of_ble_eq_true rfl, Nat.le_of_ble_eq_true rfl⟩ (Nat.le_of_ble_eq_true rfl) (by decide)
theorem r_L_law_723 {ls : xL} {st : List Value} {σ : xS} {x : Int32} : xR mL_law 723 ls (.int x :: st) σ = (lst1 ls 6 (some (.int x))).bind (fun l => xR mL_law 725 l (st) σ) := y_istore xe_L_law dL_law_723
theorem r_L_law_725 {ls : xL} {st : List Value} {σ : xS}  : xR mL_law 725 ls (st) σ = gA (lget ls 2) (fun x => xR mL_law 726 ls (.ref x :: st) σ) := y_aload_n xe_L_law dL_law_725
theorem r_L_law_726 {ls : xL} {st : List Value} {σ : xS} {a : Nat}  : xR mL_law 726 ls (.ref a :: st) σ = yV (hcls σ a) 6 (xwid st) (xC1 mX7_thrown [.ref a] σ) (fun v τ => xR mL_law 729 ls (v.toList ++ st) τ) := y_cV (as := [.ref a]) (as2 := []) (r := (vwCl[6]?).getD default) xe_L_law dL_law_726 cl_8_81 rfl rfl rfl rfl xe_X7_thrown ⟨Nat.le_of_ble_eq_true rfl, Nat.le_of_ble_eq_true rfl⟩ (Nat.le_of_ble_eq_true rfl) (by decide)
theorem r_L_law_729 {ls : xL} {st : List Value} {σ : xS}  : xR mL_law 729 ls (st) σ = gI (lget ls 5) (fun x => xR mL_law 731 ls (.int x :: st) σ) := y_iload xe_L_law dL_law_729
theorem r_L_law_731 {ls : xL} {st : List Value} {σ : xS} {x y : Int32} : xR mL_law 731 ls (.int y :: .int x :: st) σ = if x = y then xR mL_law 736 ls (st) σ else xR mL_law 734 ls (st) σ := y_icmp_eq xe_L_law dL_law_731 (by decide)
theorem r_L_law_734 {ls : xL} {st : List Value} {σ : xS}  : xR mL_law 734 ls (st) σ = xR mL_law 735 ls (.int (nI 0) :: st) σ := y_iconst xe_L_law dL_law_734 (by decide +kernel)
theorem r_L_law_735 {ls : xL} {σ : xS} {x : Int32} : xR mL_law 735 ls ([.int x]) σ = if x = 0 ∨ x = 1 then some (.inl (some (.int x)), σ) else none := y_zret xe_L_law dL_law_735 rfl
theorem r_L_law_736 {ls : xL} {st : List Value} {σ : xS}  : xR mL_law 736 ls (st) σ = gI (lget ls 5) (fun x => xR mL_law 738 ls (.int x :: st) σ) := y_iload xe_L_law dL_law_736
theorem r_L_law_738 {ls : xL} {st : List Value} {σ : xS} {x : Int32} : xR mL_law 738 ls (.int x :: st) σ = if ¬ x = 0 then xR mL_law 753 ls (st) σ else xR mL_law 741 ls (st) σ := y_if_ne xe_L_law dL_law_738 (by decide)
theorem r_L_law_741 {ls : xL} {st : List Value} {σ : xS}  : xR mL_law 741 ls (st) σ = gA (lget ls 3) (fun x => xR mL_law 742 ls (.ref x :: st) σ) := y_aload_n xe_L_law dL_law_741
theorem r_L_law_742 {ls : xL} {st : List Value} {σ : xS}  : xR mL_law 742 ls (st) σ = xR mL_law 743 ls (.int (nI 0) :: st) σ := y_iconst xe_L_law dL_law_742 (by decide +kernel)
theorem r_L_law_743 {ls : xL} {st : List Value} {σ : xS} {a : Nat} {i : Int32} : xR mL_law 743 ls (.int i :: .ref a :: st) σ = (hlng σ 4 a).bind (fun q => if xin i q.1 = true then xR mL_law 744 ls (.long (q.2 i.toNatClampNeg) :: st) σ else none) := y_lald xe_L_law dL_law_743
theorem r_L_law_744 {ls : xL} {st : List Value} {σ : xS}  : xR mL_law 744 ls (st) σ = gI (lget ls 6) (fun x => xR mL_law 746 ls (.int x :: st) σ) := y_iload xe_L_law dL_law_744
theorem r_L_law_746 {ls : xL} {st : List Value} {σ : xS} {x : Int32} : xR mL_law 746 ls (.int x :: st) σ = xR mL_law 747 ls (.long x.toInt64 :: st) σ := y_i2l xe_L_law dL_law_746
theorem r_L_law_747 {ls : xL} {st : List Value} {σ : xS} {x y : Int64} : xR mL_law 747 ls (.long y :: .long x :: st) σ = xR mL_law 748 ls (.int (lg_cmp x y) :: st) σ := y_lcmp xe_L_law dL_law_747
theorem r_L_law_748 {ls : xL} {st : List Value} {σ : xS} {x : Int32} : xR mL_law 748 ls (.int x :: st) σ = if x = 0 then xR mL_law 753 ls (st) σ else xR mL_law 751 ls (st) σ := y_if_eq xe_L_law dL_law_748 (by decide)
theorem r_L_law_751 {ls : xL} {st : List Value} {σ : xS}  : xR mL_law 751 ls (st) σ = xR mL_law 752 ls (.int (nI 0) :: st) σ := y_iconst xe_L_law dL_law_751 (by decide +kernel)
theorem r_L_law_752 {ls : xL} {σ : xS} {x : Int32} : xR mL_law 752 ls ([.int x]) σ = if x = 0 ∨ x = 1 then some (.inl (some (.int x)), σ) else none := y_zret xe_L_law dL_law_752 rfl
theorem r_L_law_753 {ls : xL} {st : List Value} {σ : xS}  : xR mL_law 753 ls (st) σ = xR mL_law 1423 ls (st) σ := y_goto xe_L_law dL_law_753 (by decide)
theorem r_L_law_756 {ls : xL} {st : List Value} {σ : xS}  : xR mL_law 756 ls (st) σ = gA (lget ls 1) (fun x => xR mL_law 757 ls (.ref x :: st) σ) := y_aload_n xe_L_law dL_law_756
theorem r_L_law_757 {ls : xL} {st : List Value} {σ : xS}  : xR mL_law 757 ls (st) σ = gA (lget ls 0) (fun x => xR mL_law 758 ls (.ref x :: st) σ) := y_aload_n xe_L_law dL_law_757
theorem r_L_law_758 {ls : xL} {st : List Value} {σ : xS}  : xR mL_law 758 ls (st) σ = gI (lget ls 4) (fun x => xR mL_law 760 ls (.int x :: st) σ) := y_iload xe_L_law dL_law_758
theorem r_L_law_760 {ls : xL} {st : List Value} {σ : xS}  : xR mL_law 760 ls (st) σ = xR mL_law 761 ls (.int (nI 1) :: st) σ := y_iconst xe_L_law dL_law_760 (by decide +kernel)
theorem r_L_law_761 {ls : xL} {st : List Value} {σ : xS} {x y : Int32} : xR mL_law 761 ls (.int y :: .int x :: st) σ = xR mL_law 762 ls (.int (x + y) :: st) σ := y_iadd xe_L_law dL_law_761
theorem r_L_law_762 {ls : xL} {st : List Value} {σ : xS} {a : Nat} {i : Int32} : xR mL_law 762 ls (.int i :: .ref a :: st) σ = (hl9 σ a).bind (fun q => if xin i q.1 = true then xR mL_law 763 ls (.int (q.2 i.toNatClampNeg) :: st) σ else none) := y_iald9 xe_L_law dL_law_762 rfl
theorem r_L_law_763 {ls : xL} {st : List Value} {σ : xS}  : xR mL_law 763 ls (st) σ = gA (lget ls 0) (fun x => xR mL_law 764 ls (.ref x :: st) σ) := y_aload_n xe_L_law dL_law_763
theorem r_L_law_764 {ls : xL} {st : List Value} {σ : xS}  : xR mL_law 764 ls (st) σ = gI (lget ls 4) (fun x => xR mL_law 766 ls (.int x :: st) σ) := y_iload xe_L_law dL_law_764
theorem r_L_law_766 {ls : xL} {st : List Value} {σ : xS}  : xR mL_law 766 ls (st) σ = xR mL_law 767 ls (.int (nI 2) :: st) σ := y_iconst xe_L_law dL_law_766 (by decide +kernel)
theorem r_L_law_767 {ls : xL} {st : List Value} {σ : xS} {x y : Int32} : xR mL_law 767 ls (.int y :: .int x :: st) σ = xR mL_law 768 ls (.int (x + y) :: st) σ := y_iadd xe_L_law dL_law_767
theorem r_L_law_768 {ls : xL} {st : List Value} {σ : xS} {a : Nat} {i : Int32} : xR mL_law 768 ls (.int i :: .ref a :: st) σ = (hl9 σ a).bind (fun q => if xin i q.1 = true then xR mL_law 769 ls (.int (q.2 i.toNatClampNeg) :: st) σ else none) := y_iald9 xe_L_law dL_law_768 rfl
theorem r_L_law_769 {ls : xL} {st : List Value} {σ : xS}  : xR mL_law 769 ls (st) σ = gA (lget ls 0) (fun x => xR mL_law 770 ls (.ref x :: st) σ) := y_aload_n xe_L_law dL_law_769
theorem r_L_law_770 {ls : xL} {st : List Value} {σ : xS}  : xR mL_law 770 ls (st) σ = gI (lget ls 4) (fun x => xR mL_law 772 ls (.int x :: st) σ) := y_iload xe_L_law dL_law_770
theorem r_L_law_772 {ls : xL} {st : List Value} {σ : xS}  : xR mL_law 772 ls (st) σ = xR mL_law 773 ls (.int (nI 3) :: st) σ := y_iconst xe_L_law dL_law_772 (by decide +kernel)
theorem r_L_law_773 {ls : xL} {st : List Value} {σ : xS} {x y : Int32} : xR mL_law 773 ls (.int y :: .int x :: st) σ = xR mL_law 774 ls (.int (x + y) :: st) σ := y_iadd xe_L_law dL_law_773
theorem r_L_law_774 {ls : xL} {st : List Value} {σ : xS} {a : Nat} {i : Int32} : xR mL_law 774 ls (.int i :: .ref a :: st) σ = (hl9 σ a).bind (fun q => if xin i q.1 = true then xR mL_law 775 ls (.int (q.2 i.toNatClampNeg) :: st) σ else none) := y_iald9 xe_L_law dL_law_774 rfl
theorem r_L_law_775 {ls : xL} {st : List Value} {σ : xS}  : xR mL_law 775 ls (st) σ = gA (lget ls 0) (fun x => xR mL_law 776 ls (.ref x :: st) σ) := y_aload_n xe_L_law dL_law_775
theorem r_L_law_776 {ls : xL} {st : List Value} {σ : xS}  : xR mL_law 776 ls (st) σ = gI (lget ls 4) (fun x => xR mL_law 778 ls (.int x :: st) σ) := y_iload xe_L_law dL_law_776
theorem r_L_law_778 {ls : xL} {st : List Value} {σ : xS}  : xR mL_law 778 ls (st) σ = xR mL_law 779 ls (.int (nI 4) :: st) σ := y_iconst xe_L_law dL_law_778 (by decide +kernel)
theorem r_L_law_779 {ls : xL} {st : List Value} {σ : xS} {x y : Int32} : xR mL_law 779 ls (.int y :: .int x :: st) σ = xR mL_law 780 ls (.int (x + y) :: st) σ := y_iadd xe_L_law dL_law_779
theorem r_L_law_780 {ls : xL} {st : List Value} {σ : xS} {a : Nat} {i : Int32} : xR mL_law 780 ls (.int i :: .ref a :: st) σ = (hl9 σ a).bind (fun q => if xin i q.1 = true then xR mL_law 781 ls (.int (q.2 i.toNatClampNeg) :: st) σ else none) := y_iald9 xe_L_law dL_law_780 rfl
theorem r_L_law_781 {ls : xL} {st : List Value} {σ : xS}  : xR mL_law 781 ls (st) σ = gA (lget ls 3) (fun x => xR mL_law 782 ls (.ref x :: st) σ) := y_aload_n xe_L_law dL_law_781
theorem r_L_law_782 {ls : xL} {st : List Value} {σ : xS} {x0 : Nat} {x1 : Int32} {x2 : Int32} {x3 : Int32} {x4 : Int32} {x5 : Nat} : xR mL_law 782 ls (.ref x5 :: .int x4 :: .int x3 :: .int x2 :: .int x1 :: .ref x0 :: st) σ = yC (xwid st) (xC1 mL_line [.ref x0, .int x1, .int x2, .int x3, .int x4, .ref x5] σ) (fun v τ => xR mL_law 785 ls (v.toList ++ st) τ) := y_cL (as := [.ref x0, .int x1, .int x2, .int x3, .int x4, .ref x5]) xe_L_law dL_law_782 cl_8_127 rfl xe_L_line ⟨Nat.le_of_ble_eq_true rfl, Nat.le_of_ble_eq_true rfl⟩ (Nat.le_of_ble_eq_true rfl) (by decide)
theorem r_L_law_785 {ls : xL} {st : List Value} {σ : xS} {x : Int32} : xR mL_law 785 ls (.int x :: st) σ = (lst1 ls 5 (some (.int x))).bind (fun l => xR mL_law 787 l (st) σ) := y_istore xe_L_law dL_law_785
theorem r_L_law_787 {ls : xL} {st : List Value} {σ : xS}  : xR mL_law 787 ls (st) σ = gA (lget ls 2) (fun x => xR mL_law 788 ls (.ref x :: st) σ) := y_aload_n xe_L_law dL_law_787
theorem r_L_law_788 {ls : xL} {st : List Value} {σ : xS}  : xR mL_law 788 ls (st) σ = gA (lget ls 0) (fun x => xR mL_law 789 ls (.ref x :: st) σ) := y_aload_n xe_L_law dL_law_788
theorem r_L_law_789 {ls : xL} {st : List Value} {σ : xS}  : xR mL_law 789 ls (st) σ = gI (lget ls 4) (fun x => xR mL_law 791 ls (.int x :: st) σ) := y_iload xe_L_law dL_law_789
theorem r_L_law_791 {ls : xL} {st : List Value} {σ : xS}  : xR mL_law 791 ls (st) σ = xR mL_law 792 ls (.int (nI 1) :: st) σ := y_iconst xe_L_law dL_law_791 (by decide +kernel)
theorem r_L_law_792 {ls : xL} {st : List Value} {σ : xS} {x y : Int32} : xR mL_law 792 ls (.int y :: .int x :: st) σ = xR mL_law 793 ls (.int (x + y) :: st) σ := y_iadd xe_L_law dL_law_792
theorem r_L_law_793 {ls : xL} {st : List Value} {σ : xS} {a : Nat} {i : Int32} : xR mL_law 793 ls (.int i :: .ref a :: st) σ = (hl9 σ a).bind (fun q => if xin i q.1 = true then xR mL_law 794 ls (.int (q.2 i.toNatClampNeg) :: st) σ else none) := y_iald9 xe_L_law dL_law_793 rfl
theorem r_L_law_794 {ls : xL} {st : List Value} {σ : xS}  : xR mL_law 794 ls (st) σ = gA (lget ls 0) (fun x => xR mL_law 795 ls (.ref x :: st) σ) := y_aload_n xe_L_law dL_law_794
theorem r_L_law_795 {ls : xL} {st : List Value} {σ : xS}  : xR mL_law 795 ls (st) σ = gI (lget ls 4) (fun x => xR mL_law 797 ls (.int x :: st) σ) := y_iload xe_L_law dL_law_795
theorem r_L_law_797 {ls : xL} {st : List Value} {σ : xS}  : xR mL_law 797 ls (st) σ = xR mL_law 798 ls (.int (nI 2) :: st) σ := y_iconst xe_L_law dL_law_797 (by decide +kernel)
theorem r_L_law_798 {ls : xL} {st : List Value} {σ : xS} {x y : Int32} : xR mL_law 798 ls (.int y :: .int x :: st) σ = xR mL_law 799 ls (.int (x + y) :: st) σ := y_iadd xe_L_law dL_law_798
theorem r_L_law_799 {ls : xL} {st : List Value} {σ : xS} {a : Nat} {i : Int32} : xR mL_law 799 ls (.int i :: .ref a :: st) σ = (hl9 σ a).bind (fun q => if xin i q.1 = true then xR mL_law 800 ls (.int (q.2 i.toNatClampNeg) :: st) σ else none) := y_iald9 xe_L_law dL_law_799 rfl
theorem r_L_law_800 {ls : xL} {st : List Value} {σ : xS}  : xR mL_law 800 ls (st) σ = gA (lget ls 0) (fun x => xR mL_law 801 ls (.ref x :: st) σ) := y_aload_n xe_L_law dL_law_800
theorem r_L_law_801 {ls : xL} {st : List Value} {σ : xS}  : xR mL_law 801 ls (st) σ = gI (lget ls 4) (fun x => xR mL_law 803 ls (.int x :: st) σ) := y_iload xe_L_law dL_law_801
theorem r_L_law_803 {ls : xL} {st : List Value} {σ : xS}  : xR mL_law 803 ls (st) σ = xR mL_law 804 ls (.int (nI 3) :: st) σ := y_iconst xe_L_law dL_law_803 (by decide +kernel)
theorem r_L_law_804 {ls : xL} {st : List Value} {σ : xS} {x y : Int32} : xR mL_law 804 ls (.int y :: .int x :: st) σ = xR mL_law 805 ls (.int (x + y) :: st) σ := y_iadd xe_L_law dL_law_804
theorem r_L_law_805 {ls : xL} {st : List Value} {σ : xS} {a : Nat} {i : Int32} : xR mL_law 805 ls (.int i :: .ref a :: st) σ = (hl9 σ a).bind (fun q => if xin i q.1 = true then xR mL_law 806 ls (.int (q.2 i.toNatClampNeg) :: st) σ else none) := y_iald9 xe_L_law dL_law_805 rfl
theorem r_L_law_806 {ls : xL} {st : List Value} {σ : xS}  : xR mL_law 806 ls (st) σ = gA (lget ls 0) (fun x => xR mL_law 807 ls (.ref x :: st) σ) := y_aload_n xe_L_law dL_law_806
theorem r_L_law_807 {ls : xL} {st : List Value} {σ : xS}  : xR mL_law 807 ls (st) σ = gI (lget ls 4) (fun x => xR mL_law 809 ls (.int x :: st) σ) := y_iload xe_L_law dL_law_807
theorem r_L_law_809 {ls : xL} {st : List Value} {σ : xS}  : xR mL_law 809 ls (st) σ = xR mL_law 810 ls (.int (nI 4) :: st) σ := y_iconst xe_L_law dL_law_809 (by decide +kernel)
theorem r_L_law_810 {ls : xL} {st : List Value} {σ : xS} {x y : Int32} : xR mL_law 810 ls (.int y :: .int x :: st) σ = xR mL_law 811 ls (.int (x + y) :: st) σ := y_iadd xe_L_law dL_law_810
theorem r_L_law_811 {ls : xL} {st : List Value} {σ : xS} {a : Nat} {i : Int32} : xR mL_law 811 ls (.int i :: .ref a :: st) σ = (hl9 σ a).bind (fun q => if xin i q.1 = true then xR mL_law 812 ls (.int (q.2 i.toNatClampNeg) :: st) σ else none) := y_iald9 xe_L_law dL_law_811 rfl
theorem r_L_law_812 {ls : xL} {st : List Value} {σ : xS} {a : Nat} {x0 : Int32} {x1 : Int32} {x2 : Int32} {x3 : Int32} : xR mL_law 812 ls (.int x3 :: .int x2 :: .int x1 :: .int x0 :: .ref a :: st) σ = yV (hcls σ a) 6 (xwid st) (xC1 mX7_line [.ref a, .int x0, .int x1, .int x2, .int x3] σ) (fun v τ => xR mL_law 815 ls (v.toList ++ st) τ) := y_cV (as := [.ref a, .int x0, .int x1, .int x2, .int x3]) (as2 := [.int x0, .int x1, .int x2, .int x3]) (r := (vwCl[6]?).getD default) xe_L_law dL_law_812 cl_8_130 rfl rfl rfl rfl xe_X7_line ⟨Nat.le_of_ble_eq_true rfl, Nat.le_of_ble_eq_true rfl⟩ (Nat.le_of_ble_eq_true rfl) (by decide)
theorem r_L_law_815 {ls : xL} {st : List Value} {σ : xS} {x : Int32} : xR mL_law 815 ls (.int x :: st) σ = (lst1 ls 6 (some (.int x))).bind (fun l => xR mL_law 817 l (st) σ) := y_istore xe_L_law dL_law_815
theorem r_L_law_817 {ls : xL} {st : List Value} {σ : xS}  : xR mL_law 817 ls (st) σ = gA (lget ls 2) (fun x => xR mL_law 818 ls (.ref x :: st) σ) := y_aload_n xe_L_law dL_law_817
theorem r_L_law_818 {ls : xL} {st : List Value} {σ : xS} {a : Nat}  : xR mL_law 818 ls (.ref a :: st) σ = yV (hcls σ a) 6 (xwid st) (xC1 mX7_thrown [.ref a] σ) (fun v τ => xR mL_law 821 ls (v.toList ++ st) τ) := y_cV (as := [.ref a]) (as2 := []) (r := (vwCl[6]?).getD default) xe_L_law dL_law_818 cl_8_81 rfl rfl rfl rfl xe_X7_thrown ⟨Nat.le_of_ble_eq_true rfl, Nat.le_of_ble_eq_true rfl⟩ (Nat.le_of_ble_eq_true rfl) (by decide)
theorem r_L_law_821 {ls : xL} {st : List Value} {σ : xS}  : xR mL_law 821 ls (st) σ = gI (lget ls 5) (fun x => xR mL_law 823 ls (.int x :: st) σ) := y_iload xe_L_law dL_law_821
theorem r_L_law_823 {ls : xL} {st : List Value} {σ : xS} {x y : Int32} : xR mL_law 823 ls (.int y :: .int x :: st) σ = if x = y then xR mL_law 828 ls (st) σ else xR mL_law 826 ls (st) σ := y_icmp_eq xe_L_law dL_law_823 (by decide)
theorem r_L_law_826 {ls : xL} {st : List Value} {σ : xS}  : xR mL_law 826 ls (st) σ = xR mL_law 827 ls (.int (nI 0) :: st) σ := y_iconst xe_L_law dL_law_826 (by decide +kernel)
theorem r_L_law_827 {ls : xL} {σ : xS} {x : Int32} : xR mL_law 827 ls ([.int x]) σ = if x = 0 ∨ x = 1 then some (.inl (some (.int x)), σ) else none := y_zret xe_L_law dL_law_827 rfl
theorem r_L_law_828 {ls : xL} {st : List Value} {σ : xS}  : xR mL_law 828 ls (st) σ = gI (lget ls 5) (fun x => xR mL_law 830 ls (.int x :: st) σ) := y_iload xe_L_law dL_law_828
theorem r_L_law_830 {ls : xL} {st : List Value} {σ : xS} {x : Int32} : xR mL_law 830 ls (.int x :: st) σ = if ¬ x = 0 then xR mL_law 845 ls (st) σ else xR mL_law 833 ls (st) σ := y_if_ne xe_L_law dL_law_830 (by decide)
theorem r_L_law_833 {ls : xL} {st : List Value} {σ : xS}  : xR mL_law 833 ls (st) σ = gA (lget ls 3) (fun x => xR mL_law 834 ls (.ref x :: st) σ) := y_aload_n xe_L_law dL_law_833
theorem r_L_law_834 {ls : xL} {st : List Value} {σ : xS}  : xR mL_law 834 ls (st) σ = xR mL_law 835 ls (.int (nI 0) :: st) σ := y_iconst xe_L_law dL_law_834 (by decide +kernel)
theorem r_L_law_835 {ls : xL} {st : List Value} {σ : xS} {a : Nat} {i : Int32} : xR mL_law 835 ls (.int i :: .ref a :: st) σ = (hlng σ 4 a).bind (fun q => if xin i q.1 = true then xR mL_law 836 ls (.long (q.2 i.toNatClampNeg) :: st) σ else none) := y_lald xe_L_law dL_law_835
theorem r_L_law_836 {ls : xL} {st : List Value} {σ : xS}  : xR mL_law 836 ls (st) σ = gI (lget ls 6) (fun x => xR mL_law 838 ls (.int x :: st) σ) := y_iload xe_L_law dL_law_836
theorem r_L_law_838 {ls : xL} {st : List Value} {σ : xS} {x : Int32} : xR mL_law 838 ls (.int x :: st) σ = xR mL_law 839 ls (.long x.toInt64 :: st) σ := y_i2l xe_L_law dL_law_838
theorem r_L_law_839 {ls : xL} {st : List Value} {σ : xS} {x y : Int64} : xR mL_law 839 ls (.long y :: .long x :: st) σ = xR mL_law 840 ls (.int (lg_cmp x y) :: st) σ := y_lcmp xe_L_law dL_law_839
theorem r_L_law_840 {ls : xL} {st : List Value} {σ : xS} {x : Int32} : xR mL_law 840 ls (.int x :: st) σ = if x = 0 then xR mL_law 845 ls (st) σ else xR mL_law 843 ls (st) σ := y_if_eq xe_L_law dL_law_840 (by decide)
theorem r_L_law_843 {ls : xL} {st : List Value} {σ : xS}  : xR mL_law 843 ls (st) σ = xR mL_law 844 ls (.int (nI 0) :: st) σ := y_iconst xe_L_law dL_law_843 (by decide +kernel)
theorem r_L_law_844 {ls : xL} {σ : xS} {x : Int32} : xR mL_law 844 ls ([.int x]) σ = if x = 0 ∨ x = 1 then some (.inl (some (.int x)), σ) else none := y_zret xe_L_law dL_law_844 rfl
theorem r_L_law_845 {ls : xL} {st : List Value} {σ : xS}  : xR mL_law 845 ls (st) σ = xR mL_law 1423 ls (st) σ := y_goto xe_L_law dL_law_845 (by decide)
theorem r_L_law_848 {ls : xL} {st : List Value} {σ : xS}  : xR mL_law 848 ls (st) σ = gA (lget ls 1) (fun x => xR mL_law 849 ls (.ref x :: st) σ) := y_aload_n xe_L_law dL_law_848
theorem r_L_law_849 {ls : xL} {st : List Value} {σ : xS}  : xR mL_law 849 ls (st) σ = gA (lget ls 0) (fun x => xR mL_law 850 ls (.ref x :: st) σ) := y_aload_n xe_L_law dL_law_849
theorem r_L_law_850 {ls : xL} {st : List Value} {σ : xS}  : xR mL_law 850 ls (st) σ = gI (lget ls 4) (fun x => xR mL_law 852 ls (.int x :: st) σ) := y_iload xe_L_law dL_law_850
theorem r_L_law_852 {ls : xL} {st : List Value} {σ : xS}  : xR mL_law 852 ls (st) σ = xR mL_law 853 ls (.int (nI 1) :: st) σ := y_iconst xe_L_law dL_law_852 (by decide +kernel)
theorem r_L_law_853 {ls : xL} {st : List Value} {σ : xS} {x y : Int32} : xR mL_law 853 ls (.int y :: .int x :: st) σ = xR mL_law 854 ls (.int (x + y) :: st) σ := y_iadd xe_L_law dL_law_853
theorem r_L_law_854 {ls : xL} {st : List Value} {σ : xS} {a : Nat} {i : Int32} : xR mL_law 854 ls (.int i :: .ref a :: st) σ = (hl9 σ a).bind (fun q => if xin i q.1 = true then xR mL_law 855 ls (.int (q.2 i.toNatClampNeg) :: st) σ else none) := y_iald9 xe_L_law dL_law_854 rfl
theorem r_L_law_855 {ls : xL} {st : List Value} {σ : xS}  : xR mL_law 855 ls (st) σ = gA (lget ls 0) (fun x => xR mL_law 856 ls (.ref x :: st) σ) := y_aload_n xe_L_law dL_law_855
theorem r_L_law_856 {ls : xL} {st : List Value} {σ : xS}  : xR mL_law 856 ls (st) σ = gI (lget ls 4) (fun x => xR mL_law 858 ls (.int x :: st) σ) := y_iload xe_L_law dL_law_856
theorem r_L_law_858 {ls : xL} {st : List Value} {σ : xS}  : xR mL_law 858 ls (st) σ = xR mL_law 859 ls (.int (nI 2) :: st) σ := y_iconst xe_L_law dL_law_858 (by decide +kernel)
theorem r_L_law_859 {ls : xL} {st : List Value} {σ : xS} {x y : Int32} : xR mL_law 859 ls (.int y :: .int x :: st) σ = xR mL_law 860 ls (.int (x + y) :: st) σ := y_iadd xe_L_law dL_law_859
theorem r_L_law_860 {ls : xL} {st : List Value} {σ : xS} {a : Nat} {i : Int32} : xR mL_law 860 ls (.int i :: .ref a :: st) σ = (hl9 σ a).bind (fun q => if xin i q.1 = true then xR mL_law 861 ls (.int (q.2 i.toNatClampNeg) :: st) σ else none) := y_iald9 xe_L_law dL_law_860 rfl
theorem r_L_law_861 {ls : xL} {st : List Value} {σ : xS}  : xR mL_law 861 ls (st) σ = gA (lget ls 3) (fun x => xR mL_law 862 ls (.ref x :: st) σ) := y_aload_n xe_L_law dL_law_861
theorem r_L_law_862 {ls : xL} {st : List Value} {σ : xS} {x0 : Nat} {x1 : Int32} {x2 : Int32} {x3 : Nat} : xR mL_law 862 ls (.ref x3 :: .int x2 :: .int x1 :: .ref x0 :: st) σ = yC (xwid st) (xC1 mL_skater [.ref x0, .int x1, .int x2, .ref x3] σ) (fun v τ => xR mL_law 865 ls (v.toList ++ st) τ) := y_cL (as := [.ref x0, .int x1, .int x2, .ref x3]) xe_L_law dL_law_862 cl_8_131 rfl xe_L_skater ⟨Nat.le_of_ble_eq_true rfl, Nat.le_of_ble_eq_true rfl⟩ (Nat.le_of_ble_eq_true rfl) (by decide)
theorem r_L_law_865 {ls : xL} {st : List Value} {σ : xS} {x : Int32} : xR mL_law 865 ls (.int x :: st) σ = (lst1 ls 5 (some (.int x))).bind (fun l => xR mL_law 867 l (st) σ) := y_istore xe_L_law dL_law_865
theorem r_L_law_867 {ls : xL} {st : List Value} {σ : xS}  : xR mL_law 867 ls (st) σ = gA (lget ls 2) (fun x => xR mL_law 868 ls (.ref x :: st) σ) := y_aload_n xe_L_law dL_law_867
theorem r_L_law_868 {ls : xL} {st : List Value} {σ : xS}  : xR mL_law 868 ls (st) σ = gA (lget ls 0) (fun x => xR mL_law 869 ls (.ref x :: st) σ) := y_aload_n xe_L_law dL_law_868
theorem r_L_law_869 {ls : xL} {st : List Value} {σ : xS}  : xR mL_law 869 ls (st) σ = gI (lget ls 4) (fun x => xR mL_law 871 ls (.int x :: st) σ) := y_iload xe_L_law dL_law_869
theorem r_L_law_871 {ls : xL} {st : List Value} {σ : xS}  : xR mL_law 871 ls (st) σ = xR mL_law 872 ls (.int (nI 1) :: st) σ := y_iconst xe_L_law dL_law_871 (by decide +kernel)
theorem r_L_law_872 {ls : xL} {st : List Value} {σ : xS} {x y : Int32} : xR mL_law 872 ls (.int y :: .int x :: st) σ = xR mL_law 873 ls (.int (x + y) :: st) σ := y_iadd xe_L_law dL_law_872
theorem r_L_law_873 {ls : xL} {st : List Value} {σ : xS} {a : Nat} {i : Int32} : xR mL_law 873 ls (.int i :: .ref a :: st) σ = (hl9 σ a).bind (fun q => if xin i q.1 = true then xR mL_law 874 ls (.int (q.2 i.toNatClampNeg) :: st) σ else none) := y_iald9 xe_L_law dL_law_873 rfl
theorem r_L_law_874 {ls : xL} {st : List Value} {σ : xS}  : xR mL_law 874 ls (st) σ = gA (lget ls 0) (fun x => xR mL_law 875 ls (.ref x :: st) σ) := y_aload_n xe_L_law dL_law_874
theorem r_L_law_875 {ls : xL} {st : List Value} {σ : xS}  : xR mL_law 875 ls (st) σ = gI (lget ls 4) (fun x => xR mL_law 877 ls (.int x :: st) σ) := y_iload xe_L_law dL_law_875
theorem r_L_law_877 {ls : xL} {st : List Value} {σ : xS}  : xR mL_law 877 ls (st) σ = xR mL_law 878 ls (.int (nI 2) :: st) σ := y_iconst xe_L_law dL_law_877 (by decide +kernel)
theorem r_L_law_878 {ls : xL} {st : List Value} {σ : xS} {x y : Int32} : xR mL_law 878 ls (.int y :: .int x :: st) σ = xR mL_law 879 ls (.int (x + y) :: st) σ := y_iadd xe_L_law dL_law_878
theorem r_L_law_879 {ls : xL} {st : List Value} {σ : xS} {a : Nat} {i : Int32} : xR mL_law 879 ls (.int i :: .ref a :: st) σ = (hl9 σ a).bind (fun q => if xin i q.1 = true then xR mL_law 880 ls (.int (q.2 i.toNatClampNeg) :: st) σ else none) := y_iald9 xe_L_law dL_law_879 rfl
theorem r_L_law_880 {ls : xL} {st : List Value} {σ : xS} {a : Nat} {x0 : Int32} {x1 : Int32} : xR mL_law 880 ls (.int x1 :: .int x0 :: .ref a :: st) σ = yV (hcls σ a) 6 (xwid st) (xC1 mX7_skater [.ref a, .int x0, .int x1] σ) (fun v τ => xR mL_law 883 ls (v.toList ++ st) τ) := y_cV (as := [.ref a, .int x0, .int x1]) (as2 := [.int x0, .int x1]) (r := (vwCl[6]?).getD default) xe_L_law dL_law_880 cl_8_133 rfl rfl rfl rfl xe_X7_skater ⟨Nat.le_of_ble_eq_true rfl, Nat.le_of_ble_eq_true rfl⟩ (Nat.le_of_ble_eq_true rfl) (by decide)
theorem r_L_law_883 {ls : xL} {st : List Value} {σ : xS} {x : Int32} : xR mL_law 883 ls (.int x :: st) σ = (lst1 ls 6 (some (.int x))).bind (fun l => xR mL_law 885 l (st) σ) := y_istore xe_L_law dL_law_883
theorem r_L_law_885 {ls : xL} {st : List Value} {σ : xS}  : xR mL_law 885 ls (st) σ = gA (lget ls 2) (fun x => xR mL_law 886 ls (.ref x :: st) σ) := y_aload_n xe_L_law dL_law_885
theorem r_L_law_886 {ls : xL} {st : List Value} {σ : xS} {a : Nat}  : xR mL_law 886 ls (.ref a :: st) σ = yV (hcls σ a) 6 (xwid st) (xC1 mX7_thrown [.ref a] σ) (fun v τ => xR mL_law 889 ls (v.toList ++ st) τ) := y_cV (as := [.ref a]) (as2 := []) (r := (vwCl[6]?).getD default) xe_L_law dL_law_886 cl_8_81 rfl rfl rfl rfl xe_X7_thrown ⟨Nat.le_of_ble_eq_true rfl, Nat.le_of_ble_eq_true rfl⟩ (Nat.le_of_ble_eq_true rfl) (by decide)
theorem r_L_law_889 {ls : xL} {st : List Value} {σ : xS}  : xR mL_law 889 ls (st) σ = gI (lget ls 5) (fun x => xR mL_law 891 ls (.int x :: st) σ) := y_iload xe_L_law dL_law_889
theorem r_L_law_891 {ls : xL} {st : List Value} {σ : xS} {x y : Int32} : xR mL_law 891 ls (.int y :: .int x :: st) σ = if x = y then xR mL_law 896 ls (st) σ else xR mL_law 894 ls (st) σ := y_icmp_eq xe_L_law dL_law_891 (by decide)
theorem r_L_law_894 {ls : xL} {st : List Value} {σ : xS}  : xR mL_law 894 ls (st) σ = xR mL_law 895 ls (.int (nI 0) :: st) σ := y_iconst xe_L_law dL_law_894 (by decide +kernel)
theorem r_L_law_895 {ls : xL} {σ : xS} {x : Int32} : xR mL_law 895 ls ([.int x]) σ = if x = 0 ∨ x = 1 then some (.inl (some (.int x)), σ) else none := y_zret xe_L_law dL_law_895 rfl
theorem r_L_law_896 {ls : xL} {st : List Value} {σ : xS}  : xR mL_law 896 ls (st) σ = gI (lget ls 5) (fun x => xR mL_law 898 ls (.int x :: st) σ) := y_iload xe_L_law dL_law_896
theorem r_L_law_898 {ls : xL} {st : List Value} {σ : xS} {x : Int32} : xR mL_law 898 ls (.int x :: st) σ = if ¬ x = 0 then xR mL_law 913 ls (st) σ else xR mL_law 901 ls (st) σ := y_if_ne xe_L_law dL_law_898 (by decide)
theorem r_L_law_901 {ls : xL} {st : List Value} {σ : xS}  : xR mL_law 901 ls (st) σ = gA (lget ls 3) (fun x => xR mL_law 902 ls (.ref x :: st) σ) := y_aload_n xe_L_law dL_law_901
theorem r_L_law_902 {ls : xL} {st : List Value} {σ : xS}  : xR mL_law 902 ls (st) σ = xR mL_law 903 ls (.int (nI 0) :: st) σ := y_iconst xe_L_law dL_law_902 (by decide +kernel)
theorem r_L_law_903 {ls : xL} {st : List Value} {σ : xS} {a : Nat} {i : Int32} : xR mL_law 903 ls (.int i :: .ref a :: st) σ = (hlng σ 4 a).bind (fun q => if xin i q.1 = true then xR mL_law 904 ls (.long (q.2 i.toNatClampNeg) :: st) σ else none) := y_lald xe_L_law dL_law_903
theorem r_L_law_904 {ls : xL} {st : List Value} {σ : xS}  : xR mL_law 904 ls (st) σ = gI (lget ls 6) (fun x => xR mL_law 906 ls (.int x :: st) σ) := y_iload xe_L_law dL_law_904
theorem r_L_law_906 {ls : xL} {st : List Value} {σ : xS} {x : Int32} : xR mL_law 906 ls (.int x :: st) σ = xR mL_law 907 ls (.long x.toInt64 :: st) σ := y_i2l xe_L_law dL_law_906
theorem r_L_law_907 {ls : xL} {st : List Value} {σ : xS} {x y : Int64} : xR mL_law 907 ls (.long y :: .long x :: st) σ = xR mL_law 908 ls (.int (lg_cmp x y) :: st) σ := y_lcmp xe_L_law dL_law_907
theorem r_L_law_908 {ls : xL} {st : List Value} {σ : xS} {x : Int32} : xR mL_law 908 ls (.int x :: st) σ = if x = 0 then xR mL_law 913 ls (st) σ else xR mL_law 911 ls (st) σ := y_if_eq xe_L_law dL_law_908 (by decide)
theorem r_L_law_911 {ls : xL} {st : List Value} {σ : xS}  : xR mL_law 911 ls (st) σ = xR mL_law 912 ls (.int (nI 0) :: st) σ := y_iconst xe_L_law dL_law_911 (by decide +kernel)
theorem r_L_law_912 {ls : xL} {σ : xS} {x : Int32} : xR mL_law 912 ls ([.int x]) σ = if x = 0 ∨ x = 1 then some (.inl (some (.int x)), σ) else none := y_zret xe_L_law dL_law_912 rfl
theorem r_L_law_913 {ls : xL} {st : List Value} {σ : xS}  : xR mL_law 913 ls (st) σ = xR mL_law 1423 ls (st) σ := y_goto xe_L_law dL_law_913 (by decide)
theorem r_L_law_916 {ls : xL} {st : List Value} {σ : xS}  : xR mL_law 916 ls (st) σ = gA (lget ls 1) (fun x => xR mL_law 917 ls (.ref x :: st) σ) := y_aload_n xe_L_law dL_law_916
theorem r_L_law_917 {ls : xL} {st : List Value} {σ : xS}  : xR mL_law 917 ls (st) σ = gA (lget ls 0) (fun x => xR mL_law 918 ls (.ref x :: st) σ) := y_aload_n xe_L_law dL_law_917
theorem r_L_law_918 {ls : xL} {st : List Value} {σ : xS}  : xR mL_law 918 ls (st) σ = gI (lget ls 4) (fun x => xR mL_law 920 ls (.int x :: st) σ) := y_iload xe_L_law dL_law_918
theorem r_L_law_920 {ls : xL} {st : List Value} {σ : xS}  : xR mL_law 920 ls (st) σ = xR mL_law 921 ls (.int (nI 1) :: st) σ := y_iconst xe_L_law dL_law_920 (by decide +kernel)
theorem r_L_law_921 {ls : xL} {st : List Value} {σ : xS} {x y : Int32} : xR mL_law 921 ls (.int y :: .int x :: st) σ = xR mL_law 922 ls (.int (x + y) :: st) σ := y_iadd xe_L_law dL_law_921
theorem r_L_law_922 {ls : xL} {st : List Value} {σ : xS} {a : Nat} {i : Int32} : xR mL_law 922 ls (.int i :: .ref a :: st) σ = (hl9 σ a).bind (fun q => if xin i q.1 = true then xR mL_law 923 ls (.int (q.2 i.toNatClampNeg) :: st) σ else none) := y_iald9 xe_L_law dL_law_922 rfl
theorem r_L_law_923 {ls : xL} {st : List Value} {σ : xS}  : xR mL_law 923 ls (st) σ = gA (lget ls 0) (fun x => xR mL_law 924 ls (.ref x :: st) σ) := y_aload_n xe_L_law dL_law_923
theorem r_L_law_924 {ls : xL} {st : List Value} {σ : xS}  : xR mL_law 924 ls (st) σ = gI (lget ls 4) (fun x => xR mL_law 926 ls (.int x :: st) σ) := y_iload xe_L_law dL_law_924
theorem r_L_law_926 {ls : xL} {st : List Value} {σ : xS}  : xR mL_law 926 ls (st) σ = xR mL_law 927 ls (.int (nI 2) :: st) σ := y_iconst xe_L_law dL_law_926 (by decide +kernel)
theorem r_L_law_927 {ls : xL} {st : List Value} {σ : xS} {x y : Int32} : xR mL_law 927 ls (.int y :: .int x :: st) σ = xR mL_law 928 ls (.int (x + y) :: st) σ := y_iadd xe_L_law dL_law_927
theorem r_L_law_928 {ls : xL} {st : List Value} {σ : xS} {a : Nat} {i : Int32} : xR mL_law 928 ls (.int i :: .ref a :: st) σ = (hl9 σ a).bind (fun q => if xin i q.1 = true then xR mL_law 929 ls (.int (q.2 i.toNatClampNeg) :: st) σ else none) := y_iald9 xe_L_law dL_law_928 rfl
theorem r_L_law_929 {ls : xL} {st : List Value} {σ : xS}  : xR mL_law 929 ls (st) σ = gA (lget ls 3) (fun x => xR mL_law 930 ls (.ref x :: st) σ) := y_aload_n xe_L_law dL_law_929
theorem r_L_law_930 {ls : xL} {st : List Value} {σ : xS} {x0 : Nat} {x1 : Int32} {x2 : Int32} {x3 : Nat} : xR mL_law 930 ls (.ref x3 :: .int x2 :: .int x1 :: .ref x0 :: st) σ = yC (xwid st) (xC1 mL_rink [.ref x0, .int x1, .int x2, .ref x3] σ) (fun v τ => xR mL_law 933 ls (v.toList ++ st) τ) := y_cL (as := [.ref x0, .int x1, .int x2, .ref x3]) xe_L_law dL_law_930 cl_8_134 rfl xe_L_rink ⟨Nat.le_of_ble_eq_true rfl, Nat.le_of_ble_eq_true rfl⟩ (Nat.le_of_ble_eq_true rfl) (by decide)
theorem r_L_law_933 {ls : xL} {st : List Value} {σ : xS} {x : Int32} : xR mL_law 933 ls (.int x :: st) σ = (lst1 ls 5 (some (.int x))).bind (fun l => xR mL_law 935 l (st) σ) := y_istore xe_L_law dL_law_933
theorem r_L_law_935 {ls : xL} {st : List Value} {σ : xS}  : xR mL_law 935 ls (st) σ = gA (lget ls 2) (fun x => xR mL_law 936 ls (.ref x :: st) σ) := y_aload_n xe_L_law dL_law_935
theorem r_L_law_936 {ls : xL} {st : List Value} {σ : xS}  : xR mL_law 936 ls (st) σ = gA (lget ls 0) (fun x => xR mL_law 937 ls (.ref x :: st) σ) := y_aload_n xe_L_law dL_law_936
theorem r_L_law_937 {ls : xL} {st : List Value} {σ : xS}  : xR mL_law 937 ls (st) σ = gI (lget ls 4) (fun x => xR mL_law 939 ls (.int x :: st) σ) := y_iload xe_L_law dL_law_937
theorem r_L_law_939 {ls : xL} {st : List Value} {σ : xS}  : xR mL_law 939 ls (st) σ = xR mL_law 940 ls (.int (nI 1) :: st) σ := y_iconst xe_L_law dL_law_939 (by decide +kernel)
theorem r_L_law_940 {ls : xL} {st : List Value} {σ : xS} {x y : Int32} : xR mL_law 940 ls (.int y :: .int x :: st) σ = xR mL_law 941 ls (.int (x + y) :: st) σ := y_iadd xe_L_law dL_law_940
theorem r_L_law_941 {ls : xL} {st : List Value} {σ : xS} {a : Nat} {i : Int32} : xR mL_law 941 ls (.int i :: .ref a :: st) σ = (hl9 σ a).bind (fun q => if xin i q.1 = true then xR mL_law 942 ls (.int (q.2 i.toNatClampNeg) :: st) σ else none) := y_iald9 xe_L_law dL_law_941 rfl
theorem r_L_law_942 {ls : xL} {st : List Value} {σ : xS}  : xR mL_law 942 ls (st) σ = gA (lget ls 0) (fun x => xR mL_law 943 ls (.ref x :: st) σ) := y_aload_n xe_L_law dL_law_942
theorem r_L_law_943 {ls : xL} {st : List Value} {σ : xS}  : xR mL_law 943 ls (st) σ = gI (lget ls 4) (fun x => xR mL_law 945 ls (.int x :: st) σ) := y_iload xe_L_law dL_law_943
theorem r_L_law_945 {ls : xL} {st : List Value} {σ : xS}  : xR mL_law 945 ls (st) σ = xR mL_law 946 ls (.int (nI 2) :: st) σ := y_iconst xe_L_law dL_law_945 (by decide +kernel)
theorem r_L_law_946 {ls : xL} {st : List Value} {σ : xS} {x y : Int32} : xR mL_law 946 ls (.int y :: .int x :: st) σ = xR mL_law 947 ls (.int (x + y) :: st) σ := y_iadd xe_L_law dL_law_946
theorem r_L_law_947 {ls : xL} {st : List Value} {σ : xS} {a : Nat} {i : Int32} : xR mL_law 947 ls (.int i :: .ref a :: st) σ = (hl9 σ a).bind (fun q => if xin i q.1 = true then xR mL_law 948 ls (.int (q.2 i.toNatClampNeg) :: st) σ else none) := y_iald9 xe_L_law dL_law_947 rfl
theorem r_L_law_948 {ls : xL} {st : List Value} {σ : xS} {a : Nat} {x0 : Int32} {x1 : Int32} : xR mL_law 948 ls (.int x1 :: .int x0 :: .ref a :: st) σ = yV (hcls σ a) 6 (xwid st) (xC1 mX7_rink [.ref a, .int x0, .int x1] σ) (fun v τ => xR mL_law 951 ls (v.toList ++ st) τ) := y_cV (as := [.ref a, .int x0, .int x1]) (as2 := [.int x0, .int x1]) (r := (vwCl[6]?).getD default) xe_L_law dL_law_948 cl_8_136 rfl rfl rfl rfl xe_X7_rink ⟨Nat.le_of_ble_eq_true rfl, Nat.le_of_ble_eq_true rfl⟩ (Nat.le_of_ble_eq_true rfl) (by decide)
theorem r_L_law_951 {ls : xL} {st : List Value} {σ : xS} {x : Int32} : xR mL_law 951 ls (.int x :: st) σ = (lst1 ls 6 (some (.int x))).bind (fun l => xR mL_law 953 l (st) σ) := y_istore xe_L_law dL_law_951
theorem r_L_law_953 {ls : xL} {st : List Value} {σ : xS}  : xR mL_law 953 ls (st) σ = gA (lget ls 2) (fun x => xR mL_law 954 ls (.ref x :: st) σ) := y_aload_n xe_L_law dL_law_953
theorem r_L_law_954 {ls : xL} {st : List Value} {σ : xS} {a : Nat}  : xR mL_law 954 ls (.ref a :: st) σ = yV (hcls σ a) 6 (xwid st) (xC1 mX7_thrown [.ref a] σ) (fun v τ => xR mL_law 957 ls (v.toList ++ st) τ) := y_cV (as := [.ref a]) (as2 := []) (r := (vwCl[6]?).getD default) xe_L_law dL_law_954 cl_8_81 rfl rfl rfl rfl xe_X7_thrown ⟨Nat.le_of_ble_eq_true rfl, Nat.le_of_ble_eq_true rfl⟩ (Nat.le_of_ble_eq_true rfl) (by decide)
theorem r_L_law_957 {ls : xL} {st : List Value} {σ : xS}  : xR mL_law 957 ls (st) σ = gI (lget ls 5) (fun x => xR mL_law 959 ls (.int x :: st) σ) := y_iload xe_L_law dL_law_957
theorem r_L_law_959 {ls : xL} {st : List Value} {σ : xS} {x y : Int32} : xR mL_law 959 ls (.int y :: .int x :: st) σ = if x = y then xR mL_law 964 ls (st) σ else xR mL_law 962 ls (st) σ := y_icmp_eq xe_L_law dL_law_959 (by decide)
theorem r_L_law_962 {ls : xL} {st : List Value} {σ : xS}  : xR mL_law 962 ls (st) σ = xR mL_law 963 ls (.int (nI 0) :: st) σ := y_iconst xe_L_law dL_law_962 (by decide +kernel)
theorem r_L_law_963 {ls : xL} {σ : xS} {x : Int32} : xR mL_law 963 ls ([.int x]) σ = if x = 0 ∨ x = 1 then some (.inl (some (.int x)), σ) else none := y_zret xe_L_law dL_law_963 rfl
theorem r_L_law_964 {ls : xL} {st : List Value} {σ : xS}  : xR mL_law 964 ls (st) σ = gI (lget ls 5) (fun x => xR mL_law 966 ls (.int x :: st) σ) := y_iload xe_L_law dL_law_964
theorem r_L_law_966 {ls : xL} {st : List Value} {σ : xS} {x : Int32} : xR mL_law 966 ls (.int x :: st) σ = if ¬ x = 0 then xR mL_law 981 ls (st) σ else xR mL_law 969 ls (st) σ := y_if_ne xe_L_law dL_law_966 (by decide)
theorem r_L_law_969 {ls : xL} {st : List Value} {σ : xS}  : xR mL_law 969 ls (st) σ = gA (lget ls 3) (fun x => xR mL_law 970 ls (.ref x :: st) σ) := y_aload_n xe_L_law dL_law_969
theorem r_L_law_970 {ls : xL} {st : List Value} {σ : xS}  : xR mL_law 970 ls (st) σ = xR mL_law 971 ls (.int (nI 0) :: st) σ := y_iconst xe_L_law dL_law_970 (by decide +kernel)
theorem r_L_law_971 {ls : xL} {st : List Value} {σ : xS} {a : Nat} {i : Int32} : xR mL_law 971 ls (.int i :: .ref a :: st) σ = (hlng σ 4 a).bind (fun q => if xin i q.1 = true then xR mL_law 972 ls (.long (q.2 i.toNatClampNeg) :: st) σ else none) := y_lald xe_L_law dL_law_971
theorem r_L_law_972 {ls : xL} {st : List Value} {σ : xS}  : xR mL_law 972 ls (st) σ = gI (lget ls 6) (fun x => xR mL_law 974 ls (.int x :: st) σ) := y_iload xe_L_law dL_law_972
theorem r_L_law_974 {ls : xL} {st : List Value} {σ : xS} {x : Int32} : xR mL_law 974 ls (.int x :: st) σ = xR mL_law 975 ls (.long x.toInt64 :: st) σ := y_i2l xe_L_law dL_law_974
theorem r_L_law_975 {ls : xL} {st : List Value} {σ : xS} {x y : Int64} : xR mL_law 975 ls (.long y :: .long x :: st) σ = xR mL_law 976 ls (.int (lg_cmp x y) :: st) σ := y_lcmp xe_L_law dL_law_975
theorem r_L_law_976 {ls : xL} {st : List Value} {σ : xS} {x : Int32} : xR mL_law 976 ls (.int x :: st) σ = if x = 0 then xR mL_law 981 ls (st) σ else xR mL_law 979 ls (st) σ := y_if_eq xe_L_law dL_law_976 (by decide)
theorem r_L_law_979 {ls : xL} {st : List Value} {σ : xS}  : xR mL_law 979 ls (st) σ = xR mL_law 980 ls (.int (nI 0) :: st) σ := y_iconst xe_L_law dL_law_979 (by decide +kernel)
theorem r_L_law_980 {ls : xL} {σ : xS} {x : Int32} : xR mL_law 980 ls ([.int x]) σ = if x = 0 ∨ x = 1 then some (.inl (some (.int x)), σ) else none := y_zret xe_L_law dL_law_980 rfl
theorem r_L_law_981 {ls : xL} {st : List Value} {σ : xS}  : xR mL_law 981 ls (st) σ = xR mL_law 1423 ls (st) σ := y_goto xe_L_law dL_law_981 (by decide)
theorem r_L_law_984 {ls : xL} {st : List Value} {σ : xS}  : xR mL_law 984 ls (st) σ = gA (lget ls 1) (fun x => xR mL_law 985 ls (.ref x :: st) σ) := y_aload_n xe_L_law dL_law_984
theorem r_L_law_985 {ls : xL} {st : List Value} {σ : xS}  : xR mL_law 985 ls (st) σ = gA (lget ls 0) (fun x => xR mL_law 986 ls (.ref x :: st) σ) := y_aload_n xe_L_law dL_law_985
theorem r_L_law_986 {ls : xL} {st : List Value} {σ : xS}  : xR mL_law 986 ls (st) σ = gI (lget ls 4) (fun x => xR mL_law 988 ls (.int x :: st) σ) := y_iload xe_L_law dL_law_986
theorem r_L_law_988 {ls : xL} {st : List Value} {σ : xS}  : xR mL_law 988 ls (st) σ = xR mL_law 989 ls (.int (nI 1) :: st) σ := y_iconst xe_L_law dL_law_988 (by decide +kernel)
theorem r_L_law_989 {ls : xL} {st : List Value} {σ : xS} {x y : Int32} : xR mL_law 989 ls (.int y :: .int x :: st) σ = xR mL_law 990 ls (.int (x + y) :: st) σ := y_iadd xe_L_law dL_law_989
theorem r_L_law_990 {ls : xL} {st : List Value} {σ : xS} {a : Nat} {i : Int32} : xR mL_law 990 ls (.int i :: .ref a :: st) σ = (hl9 σ a).bind (fun q => if xin i q.1 = true then xR mL_law 991 ls (.int (q.2 i.toNatClampNeg) :: st) σ else none) := y_iald9 xe_L_law dL_law_990 rfl
theorem r_L_law_991 {ls : xL} {st : List Value} {σ : xS}  : xR mL_law 991 ls (st) σ = gA (lget ls 3) (fun x => xR mL_law 992 ls (.ref x :: st) σ) := y_aload_n xe_L_law dL_law_991
theorem r_L_law_992 {ls : xL} {st : List Value} {σ : xS} {x0 : Nat} {x1 : Int32} {x2 : Nat} : xR mL_law 992 ls (.ref x2 :: .int x1 :: .ref x0 :: st) σ = yC (xwid st) (xC1 mL_count [.ref x0, .int x1, .ref x2] σ) (fun v τ => xR mL_law 995 ls (v.toList ++ st) τ) := y_cL (as := [.ref x0, .int x1, .ref x2]) xe_L_law dL_law_992 cl_8_137 rfl xe_L_count ⟨Nat.le_of_ble_eq_true rfl, Nat.le_of_ble_eq_true rfl⟩ (Nat.le_of_ble_eq_true rfl) (by decide)
theorem r_L_law_995 {ls : xL} {st : List Value} {σ : xS} {x : Int32} : xR mL_law 995 ls (.int x :: st) σ = (lst1 ls 5 (some (.int x))).bind (fun l => xR mL_law 997 l (st) σ) := y_istore xe_L_law dL_law_995
theorem r_L_law_997 {ls : xL} {st : List Value} {σ : xS}  : xR mL_law 997 ls (st) σ = gA (lget ls 2) (fun x => xR mL_law 998 ls (.ref x :: st) σ) := y_aload_n xe_L_law dL_law_997
theorem r_L_law_998 {ls : xL} {st : List Value} {σ : xS}  : xR mL_law 998 ls (st) σ = gA (lget ls 0) (fun x => xR mL_law 999 ls (.ref x :: st) σ) := y_aload_n xe_L_law dL_law_998
theorem r_L_law_999 {ls : xL} {st : List Value} {σ : xS}  : xR mL_law 999 ls (st) σ = gI (lget ls 4) (fun x => xR mL_law 1001 ls (.int x :: st) σ) := y_iload xe_L_law dL_law_999
theorem r_L_law_1001 {ls : xL} {st : List Value} {σ : xS}  : xR mL_law 1001 ls (st) σ = xR mL_law 1002 ls (.int (nI 1) :: st) σ := y_iconst xe_L_law dL_law_1001 (by decide +kernel)
theorem r_L_law_1002 {ls : xL} {st : List Value} {σ : xS} {x y : Int32} : xR mL_law 1002 ls (.int y :: .int x :: st) σ = xR mL_law 1003 ls (.int (x + y) :: st) σ := y_iadd xe_L_law dL_law_1002
theorem r_L_law_1003 {ls : xL} {st : List Value} {σ : xS} {a : Nat} {i : Int32} : xR mL_law 1003 ls (.int i :: .ref a :: st) σ = (hl9 σ a).bind (fun q => if xin i q.1 = true then xR mL_law 1004 ls (.int (q.2 i.toNatClampNeg) :: st) σ else none) := y_iald9 xe_L_law dL_law_1003 rfl
theorem r_L_law_1004 {ls : xL} {st : List Value} {σ : xS} {a : Nat} {x0 : Int32} : xR mL_law 1004 ls (.int x0 :: .ref a :: st) σ = yV (hcls σ a) 6 (xwid st) (xC1 mX7_count [.ref a, .int x0] σ) (fun v τ => xR mL_law 1007 ls (v.toList ++ st) τ) := y_cV (as := [.ref a, .int x0]) (as2 := [.int x0]) (r := (vwCl[6]?).getD default) xe_L_law dL_law_1004 cl_8_139 rfl rfl rfl rfl xe_X7_count ⟨Nat.le_of_ble_eq_true rfl, Nat.le_of_ble_eq_true rfl⟩ (Nat.le_of_ble_eq_true rfl) (by decide)
theorem r_L_law_1007 {ls : xL} {st : List Value} {σ : xS} {x : Int32} : xR mL_law 1007 ls (.int x :: st) σ = (lst1 ls 6 (some (.int x))).bind (fun l => xR mL_law 1009 l (st) σ) := y_istore xe_L_law dL_law_1007
theorem r_L_law_1009 {ls : xL} {st : List Value} {σ : xS}  : xR mL_law 1009 ls (st) σ = gA (lget ls 2) (fun x => xR mL_law 1010 ls (.ref x :: st) σ) := y_aload_n xe_L_law dL_law_1009
theorem r_L_law_1010 {ls : xL} {st : List Value} {σ : xS} {a : Nat}  : xR mL_law 1010 ls (.ref a :: st) σ = yV (hcls σ a) 6 (xwid st) (xC1 mX7_thrown [.ref a] σ) (fun v τ => xR mL_law 1013 ls (v.toList ++ st) τ) := y_cV (as := [.ref a]) (as2 := []) (r := (vwCl[6]?).getD default) xe_L_law dL_law_1010 cl_8_81 rfl rfl rfl rfl xe_X7_thrown ⟨Nat.le_of_ble_eq_true rfl, Nat.le_of_ble_eq_true rfl⟩ (Nat.le_of_ble_eq_true rfl) (by decide)
theorem r_L_law_1013 {ls : xL} {st : List Value} {σ : xS}  : xR mL_law 1013 ls (st) σ = gI (lget ls 5) (fun x => xR mL_law 1015 ls (.int x :: st) σ) := y_iload xe_L_law dL_law_1013
theorem r_L_law_1015 {ls : xL} {st : List Value} {σ : xS} {x y : Int32} : xR mL_law 1015 ls (.int y :: .int x :: st) σ = if x = y then xR mL_law 1020 ls (st) σ else xR mL_law 1018 ls (st) σ := y_icmp_eq xe_L_law dL_law_1015 (by decide)
theorem r_L_law_1018 {ls : xL} {st : List Value} {σ : xS}  : xR mL_law 1018 ls (st) σ = xR mL_law 1019 ls (.int (nI 0) :: st) σ := y_iconst xe_L_law dL_law_1018 (by decide +kernel)
theorem r_L_law_1019 {ls : xL} {σ : xS} {x : Int32} : xR mL_law 1019 ls ([.int x]) σ = if x = 0 ∨ x = 1 then some (.inl (some (.int x)), σ) else none := y_zret xe_L_law dL_law_1019 rfl
theorem r_L_law_1020 {ls : xL} {st : List Value} {σ : xS}  : xR mL_law 1020 ls (st) σ = gI (lget ls 5) (fun x => xR mL_law 1022 ls (.int x :: st) σ) := y_iload xe_L_law dL_law_1020
theorem r_L_law_1022 {ls : xL} {st : List Value} {σ : xS} {x : Int32} : xR mL_law 1022 ls (.int x :: st) σ = if ¬ x = 0 then xR mL_law 1037 ls (st) σ else xR mL_law 1025 ls (st) σ := y_if_ne xe_L_law dL_law_1022 (by decide)
theorem r_L_law_1025 {ls : xL} {st : List Value} {σ : xS}  : xR mL_law 1025 ls (st) σ = gA (lget ls 3) (fun x => xR mL_law 1026 ls (.ref x :: st) σ) := y_aload_n xe_L_law dL_law_1025
theorem r_L_law_1026 {ls : xL} {st : List Value} {σ : xS}  : xR mL_law 1026 ls (st) σ = xR mL_law 1027 ls (.int (nI 0) :: st) σ := y_iconst xe_L_law dL_law_1026 (by decide +kernel)
theorem r_L_law_1027 {ls : xL} {st : List Value} {σ : xS} {a : Nat} {i : Int32} : xR mL_law 1027 ls (.int i :: .ref a :: st) σ = (hlng σ 4 a).bind (fun q => if xin i q.1 = true then xR mL_law 1028 ls (.long (q.2 i.toNatClampNeg) :: st) σ else none) := y_lald xe_L_law dL_law_1027
theorem r_L_law_1028 {ls : xL} {st : List Value} {σ : xS}  : xR mL_law 1028 ls (st) σ = gI (lget ls 6) (fun x => xR mL_law 1030 ls (.int x :: st) σ) := y_iload xe_L_law dL_law_1028
theorem r_L_law_1030 {ls : xL} {st : List Value} {σ : xS} {x : Int32} : xR mL_law 1030 ls (.int x :: st) σ = xR mL_law 1031 ls (.long x.toInt64 :: st) σ := y_i2l xe_L_law dL_law_1030
theorem r_L_law_1031 {ls : xL} {st : List Value} {σ : xS} {x y : Int64} : xR mL_law 1031 ls (.long y :: .long x :: st) σ = xR mL_law 1032 ls (.int (lg_cmp x y) :: st) σ := y_lcmp xe_L_law dL_law_1031
theorem r_L_law_1032 {ls : xL} {st : List Value} {σ : xS} {x : Int32} : xR mL_law 1032 ls (.int x :: st) σ = if x = 0 then xR mL_law 1037 ls (st) σ else xR mL_law 1035 ls (st) σ := y_if_eq xe_L_law dL_law_1032 (by decide)
theorem r_L_law_1035 {ls : xL} {st : List Value} {σ : xS}  : xR mL_law 1035 ls (st) σ = xR mL_law 1036 ls (.int (nI 0) :: st) σ := y_iconst xe_L_law dL_law_1035 (by decide +kernel)
theorem r_L_law_1036 {ls : xL} {σ : xS} {x : Int32} : xR mL_law 1036 ls ([.int x]) σ = if x = 0 ∨ x = 1 then some (.inl (some (.int x)), σ) else none := y_zret xe_L_law dL_law_1036 rfl
theorem r_L_law_1037 {ls : xL} {st : List Value} {σ : xS}  : xR mL_law 1037 ls (st) σ = xR mL_law 1423 ls (st) σ := y_goto xe_L_law dL_law_1037 (by decide)
theorem r_L_law_1040 {ls : xL} {st : List Value} {σ : xS}  : xR mL_law 1040 ls (st) σ = gA (lget ls 1) (fun x => xR mL_law 1041 ls (.ref x :: st) σ) := y_aload_n xe_L_law dL_law_1040
theorem r_L_law_1041 {ls : xL} {st : List Value} {σ : xS}  : xR mL_law 1041 ls (st) σ = gA (lget ls 0) (fun x => xR mL_law 1042 ls (.ref x :: st) σ) := y_aload_n xe_L_law dL_law_1041
theorem r_L_law_1042 {ls : xL} {st : List Value} {σ : xS}  : xR mL_law 1042 ls (st) σ = gI (lget ls 4) (fun x => xR mL_law 1044 ls (.int x :: st) σ) := y_iload xe_L_law dL_law_1042
theorem r_L_law_1044 {ls : xL} {st : List Value} {σ : xS}  : xR mL_law 1044 ls (st) σ = xR mL_law 1045 ls (.int (nI 1) :: st) σ := y_iconst xe_L_law dL_law_1044 (by decide +kernel)
theorem r_L_law_1045 {ls : xL} {st : List Value} {σ : xS} {x y : Int32} : xR mL_law 1045 ls (.int y :: .int x :: st) σ = xR mL_law 1046 ls (.int (x + y) :: st) σ := y_iadd xe_L_law dL_law_1045
theorem r_L_law_1046 {ls : xL} {st : List Value} {σ : xS} {a : Nat} {i : Int32} : xR mL_law 1046 ls (.int i :: .ref a :: st) σ = (hl9 σ a).bind (fun q => if xin i q.1 = true then xR mL_law 1047 ls (.int (q.2 i.toNatClampNeg) :: st) σ else none) := y_iald9 xe_L_law dL_law_1046 rfl
theorem r_L_law_1047 {ls : xL} {st : List Value} {σ : xS}  : xR mL_law 1047 ls (st) σ = gA (lget ls 3) (fun x => xR mL_law 1048 ls (.ref x :: st) σ) := y_aload_n xe_L_law dL_law_1047
theorem r_L_law_1048 {ls : xL} {st : List Value} {σ : xS} {x0 : Nat} {x1 : Int32} {x2 : Nat} : xR mL_law 1048 ls (.ref x2 :: .int x1 :: .ref x0 :: st) σ = yC (xwid st) (xC1 mL_setting [.ref x0, .int x1, .ref x2] σ) (fun v τ => xR mL_law 1051 ls (v.toList ++ st) τ) := y_cL (as := [.ref x0, .int x1, .ref x2]) xe_L_law dL_law_1048 cl_8_140 rfl xe_L_setting ⟨Nat.le_of_ble_eq_true rfl, Nat.le_of_ble_eq_true rfl⟩ (Nat.le_of_ble_eq_true rfl) (by decide)
theorem r_L_law_1051 {ls : xL} {st : List Value} {σ : xS} {x : Int32} : xR mL_law 1051 ls (.int x :: st) σ = (lst1 ls 5 (some (.int x))).bind (fun l => xR mL_law 1053 l (st) σ) := y_istore xe_L_law dL_law_1051
theorem r_L_law_1053 {ls : xL} {st : List Value} {σ : xS}  : xR mL_law 1053 ls (st) σ = gA (lget ls 2) (fun x => xR mL_law 1054 ls (.ref x :: st) σ) := y_aload_n xe_L_law dL_law_1053
theorem r_L_law_1054 {ls : xL} {st : List Value} {σ : xS}  : xR mL_law 1054 ls (st) σ = gA (lget ls 0) (fun x => xR mL_law 1055 ls (.ref x :: st) σ) := y_aload_n xe_L_law dL_law_1054
theorem r_L_law_1055 {ls : xL} {st : List Value} {σ : xS}  : xR mL_law 1055 ls (st) σ = gI (lget ls 4) (fun x => xR mL_law 1057 ls (.int x :: st) σ) := y_iload xe_L_law dL_law_1055
theorem r_L_law_1057 {ls : xL} {st : List Value} {σ : xS}  : xR mL_law 1057 ls (st) σ = xR mL_law 1058 ls (.int (nI 1) :: st) σ := y_iconst xe_L_law dL_law_1057 (by decide +kernel)
theorem r_L_law_1058 {ls : xL} {st : List Value} {σ : xS} {x y : Int32} : xR mL_law 1058 ls (.int y :: .int x :: st) σ = xR mL_law 1059 ls (.int (x + y) :: st) σ := y_iadd xe_L_law dL_law_1058
theorem r_L_law_1059 {ls : xL} {st : List Value} {σ : xS} {a : Nat} {i : Int32} : xR mL_law 1059 ls (.int i :: .ref a :: st) σ = (hl9 σ a).bind (fun q => if xin i q.1 = true then xR mL_law 1060 ls (.int (q.2 i.toNatClampNeg) :: st) σ else none) := y_iald9 xe_L_law dL_law_1059 rfl
theorem r_L_law_1060 {ls : xL} {st : List Value} {σ : xS} {a : Nat} {x0 : Int32} : xR mL_law 1060 ls (.int x0 :: .ref a :: st) σ = yV (hcls σ a) 6 (xwid st) (xC1 mX7_setting [.ref a, .int x0] σ) (fun v τ => xR mL_law 1063 ls (v.toList ++ st) τ) := y_cV (as := [.ref a, .int x0]) (as2 := [.int x0]) (r := (vwCl[6]?).getD default) xe_L_law dL_law_1060 cl_8_142 rfl rfl rfl rfl xe_X7_setting ⟨Nat.le_of_ble_eq_true rfl, Nat.le_of_ble_eq_true rfl⟩ (Nat.le_of_ble_eq_true rfl) (by decide)
theorem r_L_law_1063 {ls : xL} {st : List Value} {σ : xS} {x : Int32} : xR mL_law 1063 ls (.int x :: st) σ = (lst1 ls 6 (some (.int x))).bind (fun l => xR mL_law 1065 l (st) σ) := y_istore xe_L_law dL_law_1063
theorem r_L_law_1065 {ls : xL} {st : List Value} {σ : xS}  : xR mL_law 1065 ls (st) σ = gA (lget ls 2) (fun x => xR mL_law 1066 ls (.ref x :: st) σ) := y_aload_n xe_L_law dL_law_1065
theorem r_L_law_1066 {ls : xL} {st : List Value} {σ : xS} {a : Nat}  : xR mL_law 1066 ls (.ref a :: st) σ = yV (hcls σ a) 6 (xwid st) (xC1 mX7_thrown [.ref a] σ) (fun v τ => xR mL_law 1069 ls (v.toList ++ st) τ) := y_cV (as := [.ref a]) (as2 := []) (r := (vwCl[6]?).getD default) xe_L_law dL_law_1066 cl_8_81 rfl rfl rfl rfl xe_X7_thrown ⟨Nat.le_of_ble_eq_true rfl, Nat.le_of_ble_eq_true rfl⟩ (Nat.le_of_ble_eq_true rfl) (by decide)
theorem r_L_law_1069 {ls : xL} {st : List Value} {σ : xS}  : xR mL_law 1069 ls (st) σ = gI (lget ls 5) (fun x => xR mL_law 1071 ls (.int x :: st) σ) := y_iload xe_L_law dL_law_1069
theorem r_L_law_1071 {ls : xL} {st : List Value} {σ : xS} {x y : Int32} : xR mL_law 1071 ls (.int y :: .int x :: st) σ = if x = y then xR mL_law 1076 ls (st) σ else xR mL_law 1074 ls (st) σ := y_icmp_eq xe_L_law dL_law_1071 (by decide)
theorem r_L_law_1074 {ls : xL} {st : List Value} {σ : xS}  : xR mL_law 1074 ls (st) σ = xR mL_law 1075 ls (.int (nI 0) :: st) σ := y_iconst xe_L_law dL_law_1074 (by decide +kernel)
theorem r_L_law_1075 {ls : xL} {σ : xS} {x : Int32} : xR mL_law 1075 ls ([.int x]) σ = if x = 0 ∨ x = 1 then some (.inl (some (.int x)), σ) else none := y_zret xe_L_law dL_law_1075 rfl
theorem r_L_law_1076 {ls : xL} {st : List Value} {σ : xS}  : xR mL_law 1076 ls (st) σ = gI (lget ls 5) (fun x => xR mL_law 1078 ls (.int x :: st) σ) := y_iload xe_L_law dL_law_1076
theorem r_L_law_1078 {ls : xL} {st : List Value} {σ : xS} {x : Int32} : xR mL_law 1078 ls (.int x :: st) σ = if ¬ x = 0 then xR mL_law 1093 ls (st) σ else xR mL_law 1081 ls (st) σ := y_if_ne xe_L_law dL_law_1078 (by decide)
theorem r_L_law_1081 {ls : xL} {st : List Value} {σ : xS}  : xR mL_law 1081 ls (st) σ = gA (lget ls 3) (fun x => xR mL_law 1082 ls (.ref x :: st) σ) := y_aload_n xe_L_law dL_law_1081
theorem r_L_law_1082 {ls : xL} {st : List Value} {σ : xS}  : xR mL_law 1082 ls (st) σ = xR mL_law 1083 ls (.int (nI 0) :: st) σ := y_iconst xe_L_law dL_law_1082 (by decide +kernel)
theorem r_L_law_1083 {ls : xL} {st : List Value} {σ : xS} {a : Nat} {i : Int32} : xR mL_law 1083 ls (.int i :: .ref a :: st) σ = (hlng σ 4 a).bind (fun q => if xin i q.1 = true then xR mL_law 1084 ls (.long (q.2 i.toNatClampNeg) :: st) σ else none) := y_lald xe_L_law dL_law_1083
theorem r_L_law_1084 {ls : xL} {st : List Value} {σ : xS}  : xR mL_law 1084 ls (st) σ = gI (lget ls 6) (fun x => xR mL_law 1086 ls (.int x :: st) σ) := y_iload xe_L_law dL_law_1084
theorem r_L_law_1086 {ls : xL} {st : List Value} {σ : xS} {x : Int32} : xR mL_law 1086 ls (.int x :: st) σ = xR mL_law 1087 ls (.long x.toInt64 :: st) σ := y_i2l xe_L_law dL_law_1086
theorem r_L_law_1087 {ls : xL} {st : List Value} {σ : xS} {x y : Int64} : xR mL_law 1087 ls (.long y :: .long x :: st) σ = xR mL_law 1088 ls (.int (lg_cmp x y) :: st) σ := y_lcmp xe_L_law dL_law_1087
theorem r_L_law_1088 {ls : xL} {st : List Value} {σ : xS} {x : Int32} : xR mL_law 1088 ls (.int x :: st) σ = if x = 0 then xR mL_law 1093 ls (st) σ else xR mL_law 1091 ls (st) σ := y_if_eq xe_L_law dL_law_1088 (by decide)
theorem r_L_law_1091 {ls : xL} {st : List Value} {σ : xS}  : xR mL_law 1091 ls (st) σ = xR mL_law 1092 ls (.int (nI 0) :: st) σ := y_iconst xe_L_law dL_law_1091 (by decide +kernel)
theorem r_L_law_1092 {ls : xL} {σ : xS} {x : Int32} : xR mL_law 1092 ls ([.int x]) σ = if x = 0 ∨ x = 1 then some (.inl (some (.int x)), σ) else none := y_zret xe_L_law dL_law_1092 rfl
theorem r_L_law_1093 {ls : xL} {st : List Value} {σ : xS}  : xR mL_law 1093 ls (st) σ = xR mL_law 1423 ls (st) σ := y_goto xe_L_law dL_law_1093 (by decide)
theorem r_L_law_1096 {ls : xL} {st : List Value} {σ : xS}  : xR mL_law 1096 ls (st) σ = gA (lget ls 1) (fun x => xR mL_law 1097 ls (.ref x :: st) σ) := y_aload_n xe_L_law dL_law_1096
theorem r_L_law_1097 {ls : xL} {st : List Value} {σ : xS}  : xR mL_law 1097 ls (st) σ = gA (lget ls 0) (fun x => xR mL_law 1098 ls (.ref x :: st) σ) := y_aload_n xe_L_law dL_law_1097
theorem r_L_law_1098 {ls : xL} {st : List Value} {σ : xS}  : xR mL_law 1098 ls (st) σ = gI (lget ls 4) (fun x => xR mL_law 1100 ls (.int x :: st) σ) := y_iload xe_L_law dL_law_1098
theorem r_L_law_1100 {ls : xL} {st : List Value} {σ : xS}  : xR mL_law 1100 ls (st) σ = xR mL_law 1101 ls (.int (nI 1) :: st) σ := y_iconst xe_L_law dL_law_1100 (by decide +kernel)
theorem r_L_law_1101 {ls : xL} {st : List Value} {σ : xS} {x y : Int32} : xR mL_law 1101 ls (.int y :: .int x :: st) σ = xR mL_law 1102 ls (.int (x + y) :: st) σ := y_iadd xe_L_law dL_law_1101
theorem r_L_law_1102 {ls : xL} {st : List Value} {σ : xS} {a : Nat} {i : Int32} : xR mL_law 1102 ls (.int i :: .ref a :: st) σ = (hl9 σ a).bind (fun q => if xin i q.1 = true then xR mL_law 1103 ls (.int (q.2 i.toNatClampNeg) :: st) σ else none) := y_iald9 xe_L_law dL_law_1102 rfl
theorem r_L_law_1103 {ls : xL} {st : List Value} {σ : xS}  : xR mL_law 1103 ls (st) σ = gA (lget ls 0) (fun x => xR mL_law 1104 ls (.ref x :: st) σ) := y_aload_n xe_L_law dL_law_1103
theorem r_L_law_1104 {ls : xL} {st : List Value} {σ : xS}  : xR mL_law 1104 ls (st) σ = gI (lget ls 4) (fun x => xR mL_law 1106 ls (.int x :: st) σ) := y_iload xe_L_law dL_law_1104
theorem r_L_law_1106 {ls : xL} {st : List Value} {σ : xS}  : xR mL_law 1106 ls (st) σ = xR mL_law 1107 ls (.int (nI 2) :: st) σ := y_iconst xe_L_law dL_law_1106 (by decide +kernel)
theorem r_L_law_1107 {ls : xL} {st : List Value} {σ : xS} {x y : Int32} : xR mL_law 1107 ls (.int y :: .int x :: st) σ = xR mL_law 1108 ls (.int (x + y) :: st) σ := y_iadd xe_L_law dL_law_1107
theorem r_L_law_1108 {ls : xL} {st : List Value} {σ : xS} {a : Nat} {i : Int32} : xR mL_law 1108 ls (.int i :: .ref a :: st) σ = (hl9 σ a).bind (fun q => if xin i q.1 = true then xR mL_law 1109 ls (.int (q.2 i.toNatClampNeg) :: st) σ else none) := y_iald9 xe_L_law dL_law_1108 rfl
theorem r_L_law_1109 {ls : xL} {st : List Value} {σ : xS}  : xR mL_law 1109 ls (st) σ = gA (lget ls 3) (fun x => xR mL_law 1110 ls (.ref x :: st) σ) := y_aload_n xe_L_law dL_law_1109
theorem r_L_law_1110 {ls : xL} {st : List Value} {σ : xS} {x0 : Nat} {x1 : Int32} {x2 : Int32} {x3 : Nat} : xR mL_law 1110 ls (.ref x3 :: .int x2 :: .int x1 :: .ref x0 :: st) σ = yC (xwid st) (xC1 mL_why [.ref x0, .int x1, .int x2, .ref x3] σ) (fun v τ => xR mL_law 1113 ls (v.toList ++ st) τ) := y_cL (as := [.ref x0, .int x1, .int x2, .ref x3]) xe_L_law dL_law_1110 cl_8_143 rfl xe_L_why ⟨Nat.le_of_ble_eq_true rfl, Nat.le_of_ble_eq_true rfl⟩ (Nat.le_of_ble_eq_true rfl) (by decide)
theorem r_L_law_1113 {ls : xL} {st : List Value} {σ : xS} {x : Int32} : xR mL_law 1113 ls (.int x :: st) σ = (lst1 ls 5 (some (.int x))).bind (fun l => xR mL_law 1115 l (st) σ) := y_istore xe_L_law dL_law_1113
theorem r_L_law_1115 {ls : xL} {st : List Value} {σ : xS}  : xR mL_law 1115 ls (st) σ = gA (lget ls 2) (fun x => xR mL_law 1116 ls (.ref x :: st) σ) := y_aload_n xe_L_law dL_law_1115
theorem r_L_law_1116 {ls : xL} {st : List Value} {σ : xS}  : xR mL_law 1116 ls (st) σ = gA (lget ls 0) (fun x => xR mL_law 1117 ls (.ref x :: st) σ) := y_aload_n xe_L_law dL_law_1116
theorem r_L_law_1117 {ls : xL} {st : List Value} {σ : xS}  : xR mL_law 1117 ls (st) σ = gI (lget ls 4) (fun x => xR mL_law 1119 ls (.int x :: st) σ) := y_iload xe_L_law dL_law_1117
theorem r_L_law_1119 {ls : xL} {st : List Value} {σ : xS}  : xR mL_law 1119 ls (st) σ = xR mL_law 1120 ls (.int (nI 1) :: st) σ := y_iconst xe_L_law dL_law_1119 (by decide +kernel)
theorem r_L_law_1120 {ls : xL} {st : List Value} {σ : xS} {x y : Int32} : xR mL_law 1120 ls (.int y :: .int x :: st) σ = xR mL_law 1121 ls (.int (x + y) :: st) σ := y_iadd xe_L_law dL_law_1120
theorem r_L_law_1121 {ls : xL} {st : List Value} {σ : xS} {a : Nat} {i : Int32} : xR mL_law 1121 ls (.int i :: .ref a :: st) σ = (hl9 σ a).bind (fun q => if xin i q.1 = true then xR mL_law 1122 ls (.int (q.2 i.toNatClampNeg) :: st) σ else none) := y_iald9 xe_L_law dL_law_1121 rfl
theorem r_L_law_1122 {ls : xL} {st : List Value} {σ : xS}  : xR mL_law 1122 ls (st) σ = gA (lget ls 0) (fun x => xR mL_law 1123 ls (.ref x :: st) σ) := y_aload_n xe_L_law dL_law_1122
theorem r_L_law_1123 {ls : xL} {st : List Value} {σ : xS}  : xR mL_law 1123 ls (st) σ = gI (lget ls 4) (fun x => xR mL_law 1125 ls (.int x :: st) σ) := y_iload xe_L_law dL_law_1123
theorem r_L_law_1125 {ls : xL} {st : List Value} {σ : xS}  : xR mL_law 1125 ls (st) σ = xR mL_law 1126 ls (.int (nI 2) :: st) σ := y_iconst xe_L_law dL_law_1125 (by decide +kernel)
theorem r_L_law_1126 {ls : xL} {st : List Value} {σ : xS} {x y : Int32} : xR mL_law 1126 ls (.int y :: .int x :: st) σ = xR mL_law 1127 ls (.int (x + y) :: st) σ := y_iadd xe_L_law dL_law_1126
theorem r_L_law_1127 {ls : xL} {st : List Value} {σ : xS} {a : Nat} {i : Int32} : xR mL_law 1127 ls (.int i :: .ref a :: st) σ = (hl9 σ a).bind (fun q => if xin i q.1 = true then xR mL_law 1128 ls (.int (q.2 i.toNatClampNeg) :: st) σ else none) := y_iald9 xe_L_law dL_law_1127 rfl
theorem r_L_law_1128 {ls : xL} {st : List Value} {σ : xS} {a : Nat} {x0 : Int32} {x1 : Int32} : xR mL_law 1128 ls (.int x1 :: .int x0 :: .ref a :: st) σ = yV (hcls σ a) 6 (xwid st) (xC1 mX7_why [.ref a, .int x0, .int x1] σ) (fun v τ => xR mL_law 1131 ls (v.toList ++ st) τ) := y_cV (as := [.ref a, .int x0, .int x1]) (as2 := [.int x0, .int x1]) (r := (vwCl[6]?).getD default) xe_L_law dL_law_1128 cl_8_145 rfl rfl rfl rfl xe_X7_why ⟨Nat.le_of_ble_eq_true rfl, Nat.le_of_ble_eq_true rfl⟩ (Nat.le_of_ble_eq_true rfl) (by decide)
theorem r_L_law_1131 {ls : xL} {st : List Value} {σ : xS} {x : Int32} : xR mL_law 1131 ls (.int x :: st) σ = (lst1 ls 6 (some (.int x))).bind (fun l => xR mL_law 1133 l (st) σ) := y_istore xe_L_law dL_law_1131
theorem r_L_law_1133 {ls : xL} {st : List Value} {σ : xS}  : xR mL_law 1133 ls (st) σ = gA (lget ls 2) (fun x => xR mL_law 1134 ls (.ref x :: st) σ) := y_aload_n xe_L_law dL_law_1133
theorem r_L_law_1134 {ls : xL} {st : List Value} {σ : xS} {a : Nat}  : xR mL_law 1134 ls (.ref a :: st) σ = yV (hcls σ a) 6 (xwid st) (xC1 mX7_thrown [.ref a] σ) (fun v τ => xR mL_law 1137 ls (v.toList ++ st) τ) := y_cV (as := [.ref a]) (as2 := []) (r := (vwCl[6]?).getD default) xe_L_law dL_law_1134 cl_8_81 rfl rfl rfl rfl xe_X7_thrown ⟨Nat.le_of_ble_eq_true rfl, Nat.le_of_ble_eq_true rfl⟩ (Nat.le_of_ble_eq_true rfl) (by decide)
theorem r_L_law_1137 {ls : xL} {st : List Value} {σ : xS}  : xR mL_law 1137 ls (st) σ = gI (lget ls 5) (fun x => xR mL_law 1139 ls (.int x :: st) σ) := y_iload xe_L_law dL_law_1137
theorem r_L_law_1139 {ls : xL} {st : List Value} {σ : xS} {x y : Int32} : xR mL_law 1139 ls (.int y :: .int x :: st) σ = if x = y then xR mL_law 1144 ls (st) σ else xR mL_law 1142 ls (st) σ := y_icmp_eq xe_L_law dL_law_1139 (by decide)
theorem r_L_law_1142 {ls : xL} {st : List Value} {σ : xS}  : xR mL_law 1142 ls (st) σ = xR mL_law 1143 ls (.int (nI 0) :: st) σ := y_iconst xe_L_law dL_law_1142 (by decide +kernel)
theorem r_L_law_1143 {ls : xL} {σ : xS} {x : Int32} : xR mL_law 1143 ls ([.int x]) σ = if x = 0 ∨ x = 1 then some (.inl (some (.int x)), σ) else none := y_zret xe_L_law dL_law_1143 rfl
theorem r_L_law_1144 {ls : xL} {st : List Value} {σ : xS}  : xR mL_law 1144 ls (st) σ = gI (lget ls 5) (fun x => xR mL_law 1146 ls (.int x :: st) σ) := y_iload xe_L_law dL_law_1144
theorem r_L_law_1146 {ls : xL} {st : List Value} {σ : xS} {x : Int32} : xR mL_law 1146 ls (.int x :: st) σ = if ¬ x = 0 then xR mL_law 1161 ls (st) σ else xR mL_law 1149 ls (st) σ := y_if_ne xe_L_law dL_law_1146 (by decide)
theorem r_L_law_1149 {ls : xL} {st : List Value} {σ : xS}  : xR mL_law 1149 ls (st) σ = gA (lget ls 3) (fun x => xR mL_law 1150 ls (.ref x :: st) σ) := y_aload_n xe_L_law dL_law_1149
theorem r_L_law_1150 {ls : xL} {st : List Value} {σ : xS}  : xR mL_law 1150 ls (st) σ = xR mL_law 1151 ls (.int (nI 0) :: st) σ := y_iconst xe_L_law dL_law_1150 (by decide +kernel)
theorem r_L_law_1151 {ls : xL} {st : List Value} {σ : xS} {a : Nat} {i : Int32} : xR mL_law 1151 ls (.int i :: .ref a :: st) σ = (hlng σ 4 a).bind (fun q => if xin i q.1 = true then xR mL_law 1152 ls (.long (q.2 i.toNatClampNeg) :: st) σ else none) := y_lald xe_L_law dL_law_1151
theorem r_L_law_1152 {ls : xL} {st : List Value} {σ : xS}  : xR mL_law 1152 ls (st) σ = gI (lget ls 6) (fun x => xR mL_law 1154 ls (.int x :: st) σ) := y_iload xe_L_law dL_law_1152
theorem r_L_law_1154 {ls : xL} {st : List Value} {σ : xS} {x : Int32} : xR mL_law 1154 ls (.int x :: st) σ = xR mL_law 1155 ls (.long x.toInt64 :: st) σ := y_i2l xe_L_law dL_law_1154
theorem r_L_law_1155 {ls : xL} {st : List Value} {σ : xS} {x y : Int64} : xR mL_law 1155 ls (.long y :: .long x :: st) σ = xR mL_law 1156 ls (.int (lg_cmp x y) :: st) σ := y_lcmp xe_L_law dL_law_1155
theorem r_L_law_1156 {ls : xL} {st : List Value} {σ : xS} {x : Int32} : xR mL_law 1156 ls (.int x :: st) σ = if x = 0 then xR mL_law 1161 ls (st) σ else xR mL_law 1159 ls (st) σ := y_if_eq xe_L_law dL_law_1156 (by decide)
theorem r_L_law_1159 {ls : xL} {st : List Value} {σ : xS}  : xR mL_law 1159 ls (st) σ = xR mL_law 1160 ls (.int (nI 0) :: st) σ := y_iconst xe_L_law dL_law_1159 (by decide +kernel)
theorem r_L_law_1160 {ls : xL} {σ : xS} {x : Int32} : xR mL_law 1160 ls ([.int x]) σ = if x = 0 ∨ x = 1 then some (.inl (some (.int x)), σ) else none := y_zret xe_L_law dL_law_1160 rfl
theorem r_L_law_1161 {ls : xL} {st : List Value} {σ : xS}  : xR mL_law 1161 ls (st) σ = xR mL_law 1423 ls (st) σ := y_goto xe_L_law dL_law_1161 (by decide)
theorem r_L_law_1164 {ls : xL} {st : List Value} {σ : xS}  : xR mL_law 1164 ls (st) σ = gA (lget ls 1) (fun x => xR mL_law 1165 ls (.ref x :: st) σ) := y_aload_n xe_L_law dL_law_1164
theorem r_L_law_1165 {ls : xL} {st : List Value} {σ : xS}  : xR mL_law 1165 ls (st) σ = gA (lget ls 0) (fun x => xR mL_law 1166 ls (.ref x :: st) σ) := y_aload_n xe_L_law dL_law_1165
theorem r_L_law_1166 {ls : xL} {st : List Value} {σ : xS}  : xR mL_law 1166 ls (st) σ = gI (lget ls 4) (fun x => xR mL_law 1168 ls (.int x :: st) σ) := y_iload xe_L_law dL_law_1166
theorem r_L_law_1168 {ls : xL} {st : List Value} {σ : xS}  : xR mL_law 1168 ls (st) σ = xR mL_law 1169 ls (.int (nI 1) :: st) σ := y_iconst xe_L_law dL_law_1168 (by decide +kernel)
theorem r_L_law_1169 {ls : xL} {st : List Value} {σ : xS} {x y : Int32} : xR mL_law 1169 ls (.int y :: .int x :: st) σ = xR mL_law 1170 ls (.int (x + y) :: st) σ := y_iadd xe_L_law dL_law_1169
theorem r_L_law_1170 {ls : xL} {st : List Value} {σ : xS} {a : Nat} {i : Int32} : xR mL_law 1170 ls (.int i :: .ref a :: st) σ = (hl9 σ a).bind (fun q => if xin i q.1 = true then xR mL_law 1171 ls (.int (q.2 i.toNatClampNeg) :: st) σ else none) := y_iald9 xe_L_law dL_law_1170 rfl
theorem r_L_law_1171 {ls : xL} {st : List Value} {σ : xS}  : xR mL_law 1171 ls (st) σ = gA (lget ls 0) (fun x => xR mL_law 1172 ls (.ref x :: st) σ) := y_aload_n xe_L_law dL_law_1171
theorem r_L_law_1172 {ls : xL} {st : List Value} {σ : xS}  : xR mL_law 1172 ls (st) σ = gI (lget ls 4) (fun x => xR mL_law 1174 ls (.int x :: st) σ) := y_iload xe_L_law dL_law_1172
theorem r_L_law_1174 {ls : xL} {st : List Value} {σ : xS}  : xR mL_law 1174 ls (st) σ = xR mL_law 1175 ls (.int (nI 2) :: st) σ := y_iconst xe_L_law dL_law_1174 (by decide +kernel)
theorem r_L_law_1175 {ls : xL} {st : List Value} {σ : xS} {x y : Int32} : xR mL_law 1175 ls (.int y :: .int x :: st) σ = xR mL_law 1176 ls (.int (x + y) :: st) σ := y_iadd xe_L_law dL_law_1175
theorem r_L_law_1176 {ls : xL} {st : List Value} {σ : xS} {a : Nat} {i : Int32} : xR mL_law 1176 ls (.int i :: .ref a :: st) σ = (hl9 σ a).bind (fun q => if xin i q.1 = true then xR mL_law 1177 ls (.int (q.2 i.toNatClampNeg) :: st) σ else none) := y_iald9 xe_L_law dL_law_1176 rfl
theorem r_L_law_1177 {ls : xL} {st : List Value} {σ : xS}  : xR mL_law 1177 ls (st) σ = gA (lget ls 0) (fun x => xR mL_law 1178 ls (.ref x :: st) σ) := y_aload_n xe_L_law dL_law_1177
theorem r_L_law_1178 {ls : xL} {st : List Value} {σ : xS}  : xR mL_law 1178 ls (st) σ = gI (lget ls 4) (fun x => xR mL_law 1180 ls (.int x :: st) σ) := y_iload xe_L_law dL_law_1178
theorem r_L_law_1180 {ls : xL} {st : List Value} {σ : xS}  : xR mL_law 1180 ls (st) σ = xR mL_law 1181 ls (.int (nI 3) :: st) σ := y_iconst xe_L_law dL_law_1180 (by decide +kernel)
theorem r_L_law_1181 {ls : xL} {st : List Value} {σ : xS} {x y : Int32} : xR mL_law 1181 ls (.int y :: .int x :: st) σ = xR mL_law 1182 ls (.int (x + y) :: st) σ := y_iadd xe_L_law dL_law_1181
theorem r_L_law_1182 {ls : xL} {st : List Value} {σ : xS} {a : Nat} {i : Int32} : xR mL_law 1182 ls (.int i :: .ref a :: st) σ = (hl9 σ a).bind (fun q => if xin i q.1 = true then xR mL_law 1183 ls (.int (q.2 i.toNatClampNeg) :: st) σ else none) := y_iald9 xe_L_law dL_law_1182 rfl
theorem r_L_law_1183 {ls : xL} {st : List Value} {σ : xS}  : xR mL_law 1183 ls (st) σ = gA (lget ls 0) (fun x => xR mL_law 1184 ls (.ref x :: st) σ) := y_aload_n xe_L_law dL_law_1183
theorem r_L_law_1184 {ls : xL} {st : List Value} {σ : xS}  : xR mL_law 1184 ls (st) σ = gI (lget ls 4) (fun x => xR mL_law 1186 ls (.int x :: st) σ) := y_iload xe_L_law dL_law_1184
theorem r_L_law_1186 {ls : xL} {st : List Value} {σ : xS}  : xR mL_law 1186 ls (st) σ = xR mL_law 1187 ls (.int (nI 4) :: st) σ := y_iconst xe_L_law dL_law_1186 (by decide +kernel)
theorem r_L_law_1187 {ls : xL} {st : List Value} {σ : xS} {x y : Int32} : xR mL_law 1187 ls (.int y :: .int x :: st) σ = xR mL_law 1188 ls (.int (x + y) :: st) σ := y_iadd xe_L_law dL_law_1187
theorem r_L_law_1188 {ls : xL} {st : List Value} {σ : xS} {a : Nat} {i : Int32} : xR mL_law 1188 ls (.int i :: .ref a :: st) σ = (hl9 σ a).bind (fun q => if xin i q.1 = true then xR mL_law 1189 ls (.int (q.2 i.toNatClampNeg) :: st) σ else none) := y_iald9 xe_L_law dL_law_1188 rfl
theorem r_L_law_1189 {ls : xL} {st : List Value} {σ : xS}  : xR mL_law 1189 ls (st) σ = gA (lget ls 3) (fun x => xR mL_law 1190 ls (.ref x :: st) σ) := y_aload_n xe_L_law dL_law_1189
theorem r_L_law_1190 {ls : xL} {st : List Value} {σ : xS} {x0 : Nat} {x1 : Int32} {x2 : Int32} {x3 : Int32} {x4 : Int32} {x5 : Nat} : xR mL_law 1190 ls (.ref x5 :: .int x4 :: .int x3 :: .int x2 :: .int x1 :: .ref x0 :: st) σ = yC (xwid st) (xC1 mL_ifGlided [.ref x0, .int x1, .int x2, .int x3, .int x4, .ref x5] σ) (fun v τ => xR mL_law 1193 ls (v.toList ++ st) τ) := y_cL (as := [.ref x0, .int x1, .int x2, .int x3, .int x4, .ref x5]) xe_L_law dL_law_1190 cl_8_146 rfl xe_L_ifGlided ⟨Nat.le_of_ble_eq_true rfl, Nat.le_of_ble_eq_true rfl⟩ (Nat.le_of_ble_eq_true rfl) (by decide)
theorem r_L_law_1193 {ls : xL} {st : List Value} {σ : xS} {x : Int32} : xR mL_law 1193 ls (.int x :: st) σ = (lst1 ls 5 (some (.int x))).bind (fun l => xR mL_law 1195 l (st) σ) := y_istore xe_L_law dL_law_1193
theorem r_L_law_1195 {ls : xL} {st : List Value} {σ : xS}  : xR mL_law 1195 ls (st) σ = gA (lget ls 2) (fun x => xR mL_law 1196 ls (.ref x :: st) σ) := y_aload_n xe_L_law dL_law_1195
theorem r_L_law_1196 {ls : xL} {st : List Value} {σ : xS}  : xR mL_law 1196 ls (st) σ = gA (lget ls 0) (fun x => xR mL_law 1197 ls (.ref x :: st) σ) := y_aload_n xe_L_law dL_law_1196
theorem r_L_law_1197 {ls : xL} {st : List Value} {σ : xS}  : xR mL_law 1197 ls (st) σ = gI (lget ls 4) (fun x => xR mL_law 1199 ls (.int x :: st) σ) := y_iload xe_L_law dL_law_1197
theorem r_L_law_1199 {ls : xL} {st : List Value} {σ : xS}  : xR mL_law 1199 ls (st) σ = xR mL_law 1200 ls (.int (nI 1) :: st) σ := y_iconst xe_L_law dL_law_1199 (by decide +kernel)
theorem r_L_law_1200 {ls : xL} {st : List Value} {σ : xS} {x y : Int32} : xR mL_law 1200 ls (.int y :: .int x :: st) σ = xR mL_law 1201 ls (.int (x + y) :: st) σ := y_iadd xe_L_law dL_law_1200
theorem r_L_law_1201 {ls : xL} {st : List Value} {σ : xS} {a : Nat} {i : Int32} : xR mL_law 1201 ls (.int i :: .ref a :: st) σ = (hl9 σ a).bind (fun q => if xin i q.1 = true then xR mL_law 1202 ls (.int (q.2 i.toNatClampNeg) :: st) σ else none) := y_iald9 xe_L_law dL_law_1201 rfl
theorem r_L_law_1202 {ls : xL} {st : List Value} {σ : xS}  : xR mL_law 1202 ls (st) σ = gA (lget ls 0) (fun x => xR mL_law 1203 ls (.ref x :: st) σ) := y_aload_n xe_L_law dL_law_1202
theorem r_L_law_1203 {ls : xL} {st : List Value} {σ : xS}  : xR mL_law 1203 ls (st) σ = gI (lget ls 4) (fun x => xR mL_law 1205 ls (.int x :: st) σ) := y_iload xe_L_law dL_law_1203
theorem r_L_law_1205 {ls : xL} {st : List Value} {σ : xS}  : xR mL_law 1205 ls (st) σ = xR mL_law 1206 ls (.int (nI 2) :: st) σ := y_iconst xe_L_law dL_law_1205 (by decide +kernel)
theorem r_L_law_1206 {ls : xL} {st : List Value} {σ : xS} {x y : Int32} : xR mL_law 1206 ls (.int y :: .int x :: st) σ = xR mL_law 1207 ls (.int (x + y) :: st) σ := y_iadd xe_L_law dL_law_1206
theorem r_L_law_1207 {ls : xL} {st : List Value} {σ : xS} {a : Nat} {i : Int32} : xR mL_law 1207 ls (.int i :: .ref a :: st) σ = (hl9 σ a).bind (fun q => if xin i q.1 = true then xR mL_law 1208 ls (.int (q.2 i.toNatClampNeg) :: st) σ else none) := y_iald9 xe_L_law dL_law_1207 rfl
theorem r_L_law_1208 {ls : xL} {st : List Value} {σ : xS}  : xR mL_law 1208 ls (st) σ = gA (lget ls 0) (fun x => xR mL_law 1209 ls (.ref x :: st) σ) := y_aload_n xe_L_law dL_law_1208
theorem r_L_law_1209 {ls : xL} {st : List Value} {σ : xS}  : xR mL_law 1209 ls (st) σ = gI (lget ls 4) (fun x => xR mL_law 1211 ls (.int x :: st) σ) := y_iload xe_L_law dL_law_1209
theorem r_L_law_1211 {ls : xL} {st : List Value} {σ : xS}  : xR mL_law 1211 ls (st) σ = xR mL_law 1212 ls (.int (nI 3) :: st) σ := y_iconst xe_L_law dL_law_1211 (by decide +kernel)
theorem r_L_law_1212 {ls : xL} {st : List Value} {σ : xS} {x y : Int32} : xR mL_law 1212 ls (.int y :: .int x :: st) σ = xR mL_law 1213 ls (.int (x + y) :: st) σ := y_iadd xe_L_law dL_law_1212
theorem r_L_law_1213 {ls : xL} {st : List Value} {σ : xS} {a : Nat} {i : Int32} : xR mL_law 1213 ls (.int i :: .ref a :: st) σ = (hl9 σ a).bind (fun q => if xin i q.1 = true then xR mL_law 1214 ls (.int (q.2 i.toNatClampNeg) :: st) σ else none) := y_iald9 xe_L_law dL_law_1213 rfl
theorem r_L_law_1214 {ls : xL} {st : List Value} {σ : xS}  : xR mL_law 1214 ls (st) σ = gA (lget ls 0) (fun x => xR mL_law 1215 ls (.ref x :: st) σ) := y_aload_n xe_L_law dL_law_1214
theorem r_L_law_1215 {ls : xL} {st : List Value} {σ : xS}  : xR mL_law 1215 ls (st) σ = gI (lget ls 4) (fun x => xR mL_law 1217 ls (.int x :: st) σ) := y_iload xe_L_law dL_law_1215
theorem r_L_law_1217 {ls : xL} {st : List Value} {σ : xS}  : xR mL_law 1217 ls (st) σ = xR mL_law 1218 ls (.int (nI 4) :: st) σ := y_iconst xe_L_law dL_law_1217 (by decide +kernel)
theorem r_L_law_1218 {ls : xL} {st : List Value} {σ : xS} {x y : Int32} : xR mL_law 1218 ls (.int y :: .int x :: st) σ = xR mL_law 1219 ls (.int (x + y) :: st) σ := y_iadd xe_L_law dL_law_1218
theorem r_L_law_1219 {ls : xL} {st : List Value} {σ : xS} {a : Nat} {i : Int32} : xR mL_law 1219 ls (.int i :: .ref a :: st) σ = (hl9 σ a).bind (fun q => if xin i q.1 = true then xR mL_law 1220 ls (.int (q.2 i.toNatClampNeg) :: st) σ else none) := y_iald9 xe_L_law dL_law_1219 rfl
theorem r_L_law_1220 {ls : xL} {st : List Value} {σ : xS} {a : Nat} {x0 : Int32} {x1 : Int32} {x2 : Int32} {x3 : Int32} : xR mL_law 1220 ls (.int x3 :: .int x2 :: .int x1 :: .int x0 :: .ref a :: st) σ = yV (hcls σ a) 6 (xwid st) (xC1 mX7_ifGlided [.ref a, .int x0, .int x1, .int x2, .int x3] σ) (fun v τ => xR mL_law 1223 ls (v.toList ++ st) τ) := y_cV (as := [.ref a, .int x0, .int x1, .int x2, .int x3]) (as2 := [.int x0, .int x1, .int x2, .int x3]) (r := (vwCl[6]?).getD default) xe_L_law dL_law_1220 cl_8_148 rfl rfl rfl rfl xe_X7_ifGlided ⟨Nat.le_of_ble_eq_true rfl, Nat.le_of_ble_eq_true rfl⟩ (Nat.le_of_ble_eq_true rfl) (by decide)
theorem r_L_law_1223 {ls : xL} {st : List Value} {σ : xS} {x : Int32} : xR mL_law 1223 ls (.int x :: st) σ = (lst1 ls 6 (some (.int x))).bind (fun l => xR mL_law 1225 l (st) σ) := y_istore xe_L_law dL_law_1223
theorem r_L_law_1225 {ls : xL} {st : List Value} {σ : xS}  : xR mL_law 1225 ls (st) σ = gA (lget ls 2) (fun x => xR mL_law 1226 ls (.ref x :: st) σ) := y_aload_n xe_L_law dL_law_1225
theorem r_L_law_1226 {ls : xL} {st : List Value} {σ : xS} {a : Nat}  : xR mL_law 1226 ls (.ref a :: st) σ = yV (hcls σ a) 6 (xwid st) (xC1 mX7_thrown [.ref a] σ) (fun v τ => xR mL_law 1229 ls (v.toList ++ st) τ) := y_cV (as := [.ref a]) (as2 := []) (r := (vwCl[6]?).getD default) xe_L_law dL_law_1226 cl_8_81 rfl rfl rfl rfl xe_X7_thrown ⟨Nat.le_of_ble_eq_true rfl, Nat.le_of_ble_eq_true rfl⟩ (Nat.le_of_ble_eq_true rfl) (by decide)
theorem r_L_law_1229 {ls : xL} {st : List Value} {σ : xS}  : xR mL_law 1229 ls (st) σ = gI (lget ls 5) (fun x => xR mL_law 1231 ls (.int x :: st) σ) := y_iload xe_L_law dL_law_1229
theorem r_L_law_1231 {ls : xL} {st : List Value} {σ : xS} {x y : Int32} : xR mL_law 1231 ls (.int y :: .int x :: st) σ = if x = y then xR mL_law 1236 ls (st) σ else xR mL_law 1234 ls (st) σ := y_icmp_eq xe_L_law dL_law_1231 (by decide)
theorem r_L_law_1234 {ls : xL} {st : List Value} {σ : xS}  : xR mL_law 1234 ls (st) σ = xR mL_law 1235 ls (.int (nI 0) :: st) σ := y_iconst xe_L_law dL_law_1234 (by decide +kernel)
theorem r_L_law_1235 {ls : xL} {σ : xS} {x : Int32} : xR mL_law 1235 ls ([.int x]) σ = if x = 0 ∨ x = 1 then some (.inl (some (.int x)), σ) else none := y_zret xe_L_law dL_law_1235 rfl
theorem r_L_law_1236 {ls : xL} {st : List Value} {σ : xS}  : xR mL_law 1236 ls (st) σ = gI (lget ls 5) (fun x => xR mL_law 1238 ls (.int x :: st) σ) := y_iload xe_L_law dL_law_1236
theorem r_L_law_1238 {ls : xL} {st : List Value} {σ : xS} {x : Int32} : xR mL_law 1238 ls (.int x :: st) σ = if ¬ x = 0 then xR mL_law 1253 ls (st) σ else xR mL_law 1241 ls (st) σ := y_if_ne xe_L_law dL_law_1238 (by decide)
theorem r_L_law_1241 {ls : xL} {st : List Value} {σ : xS}  : xR mL_law 1241 ls (st) σ = gA (lget ls 3) (fun x => xR mL_law 1242 ls (.ref x :: st) σ) := y_aload_n xe_L_law dL_law_1241
theorem r_L_law_1242 {ls : xL} {st : List Value} {σ : xS}  : xR mL_law 1242 ls (st) σ = xR mL_law 1243 ls (.int (nI 0) :: st) σ := y_iconst xe_L_law dL_law_1242 (by decide +kernel)
theorem r_L_law_1243 {ls : xL} {st : List Value} {σ : xS} {a : Nat} {i : Int32} : xR mL_law 1243 ls (.int i :: .ref a :: st) σ = (hlng σ 4 a).bind (fun q => if xin i q.1 = true then xR mL_law 1244 ls (.long (q.2 i.toNatClampNeg) :: st) σ else none) := y_lald xe_L_law dL_law_1243
theorem r_L_law_1244 {ls : xL} {st : List Value} {σ : xS}  : xR mL_law 1244 ls (st) σ = gI (lget ls 6) (fun x => xR mL_law 1246 ls (.int x :: st) σ) := y_iload xe_L_law dL_law_1244
theorem r_L_law_1246 {ls : xL} {st : List Value} {σ : xS} {x : Int32} : xR mL_law 1246 ls (.int x :: st) σ = xR mL_law 1247 ls (.long x.toInt64 :: st) σ := y_i2l xe_L_law dL_law_1246
theorem r_L_law_1247 {ls : xL} {st : List Value} {σ : xS} {x y : Int64} : xR mL_law 1247 ls (.long y :: .long x :: st) σ = xR mL_law 1248 ls (.int (lg_cmp x y) :: st) σ := y_lcmp xe_L_law dL_law_1247
theorem r_L_law_1248 {ls : xL} {st : List Value} {σ : xS} {x : Int32} : xR mL_law 1248 ls (.int x :: st) σ = if x = 0 then xR mL_law 1253 ls (st) σ else xR mL_law 1251 ls (st) σ := y_if_eq xe_L_law dL_law_1248 (by decide)
theorem r_L_law_1251 {ls : xL} {st : List Value} {σ : xS}  : xR mL_law 1251 ls (st) σ = xR mL_law 1252 ls (.int (nI 0) :: st) σ := y_iconst xe_L_law dL_law_1251 (by decide +kernel)
theorem r_L_law_1252 {ls : xL} {σ : xS} {x : Int32} : xR mL_law 1252 ls ([.int x]) σ = if x = 0 ∨ x = 1 then some (.inl (some (.int x)), σ) else none := y_zret xe_L_law dL_law_1252 rfl
theorem r_L_law_1253 {ls : xL} {st : List Value} {σ : xS}  : xR mL_law 1253 ls (st) σ = xR mL_law 1423 ls (st) σ := y_goto xe_L_law dL_law_1253 (by decide)
theorem r_L_law_1256 {ls : xL} {st : List Value} {σ : xS}  : xR mL_law 1256 ls (st) σ = gA (lget ls 1) (fun x => xR mL_law 1257 ls (.ref x :: st) σ) := y_aload_n xe_L_law dL_law_1256
theorem r_L_law_1257 {ls : xL} {st : List Value} {σ : xS}  : xR mL_law 1257 ls (st) σ = gA (lget ls 0) (fun x => xR mL_law 1258 ls (.ref x :: st) σ) := y_aload_n xe_L_law dL_law_1257
theorem r_L_law_1258 {ls : xL} {st : List Value} {σ : xS}  : xR mL_law 1258 ls (st) σ = gI (lget ls 4) (fun x => xR mL_law 1260 ls (.int x :: st) σ) := y_iload xe_L_law dL_law_1258
theorem r_L_law_1260 {ls : xL} {st : List Value} {σ : xS}  : xR mL_law 1260 ls (st) σ = xR mL_law 1261 ls (.int (nI 1) :: st) σ := y_iconst xe_L_law dL_law_1260 (by decide +kernel)
theorem r_L_law_1261 {ls : xL} {st : List Value} {σ : xS} {x y : Int32} : xR mL_law 1261 ls (.int y :: .int x :: st) σ = xR mL_law 1262 ls (.int (x + y) :: st) σ := y_iadd xe_L_law dL_law_1261
theorem r_L_law_1262 {ls : xL} {st : List Value} {σ : xS} {a : Nat} {i : Int32} : xR mL_law 1262 ls (.int i :: .ref a :: st) σ = (hl9 σ a).bind (fun q => if xin i q.1 = true then xR mL_law 1263 ls (.int (q.2 i.toNatClampNeg) :: st) σ else none) := y_iald9 xe_L_law dL_law_1262 rfl
theorem r_L_law_1263 {ls : xL} {st : List Value} {σ : xS}  : xR mL_law 1263 ls (st) σ = gA (lget ls 3) (fun x => xR mL_law 1264 ls (.ref x :: st) σ) := y_aload_n xe_L_law dL_law_1263
theorem r_L_law_1264 {ls : xL} {st : List Value} {σ : xS} {x0 : Nat} {x1 : Int32} {x2 : Nat} : xR mL_law 1264 ls (.ref x2 :: .int x1 :: .ref x0 :: st) σ = yC (xwid st) (xC1 mL_best [.ref x0, .int x1, .ref x2] σ) (fun v τ => xR mL_law 1267 ls (v.toList ++ st) τ) := y_cL (as := [.ref x0, .int x1, .ref x2]) xe_L_law dL_law_1264 cl_8_149 rfl xe_L_best ⟨Nat.le_of_ble_eq_true rfl, Nat.le_of_ble_eq_true rfl⟩ (Nat.le_of_ble_eq_true rfl) (by decide)
theorem r_L_law_1267 {ls : xL} {st : List Value} {σ : xS} {x : Int32} : xR mL_law 1267 ls (.int x :: st) σ = (lst1 ls 5 (some (.int x))).bind (fun l => xR mL_law 1269 l (st) σ) := y_istore xe_L_law dL_law_1267
theorem r_L_law_1269 {ls : xL} {st : List Value} {σ : xS}  : xR mL_law 1269 ls (st) σ = gA (lget ls 2) (fun x => xR mL_law 1270 ls (.ref x :: st) σ) := y_aload_n xe_L_law dL_law_1269
theorem r_L_law_1270 {ls : xL} {st : List Value} {σ : xS}  : xR mL_law 1270 ls (st) σ = gA (lget ls 0) (fun x => xR mL_law 1271 ls (.ref x :: st) σ) := y_aload_n xe_L_law dL_law_1270
theorem r_L_law_1271 {ls : xL} {st : List Value} {σ : xS}  : xR mL_law 1271 ls (st) σ = gI (lget ls 4) (fun x => xR mL_law 1273 ls (.int x :: st) σ) := y_iload xe_L_law dL_law_1271
theorem r_L_law_1273 {ls : xL} {st : List Value} {σ : xS}  : xR mL_law 1273 ls (st) σ = xR mL_law 1274 ls (.int (nI 1) :: st) σ := y_iconst xe_L_law dL_law_1273 (by decide +kernel)
theorem r_L_law_1274 {ls : xL} {st : List Value} {σ : xS} {x y : Int32} : xR mL_law 1274 ls (.int y :: .int x :: st) σ = xR mL_law 1275 ls (.int (x + y) :: st) σ := y_iadd xe_L_law dL_law_1274
theorem r_L_law_1275 {ls : xL} {st : List Value} {σ : xS} {a : Nat} {i : Int32} : xR mL_law 1275 ls (.int i :: .ref a :: st) σ = (hl9 σ a).bind (fun q => if xin i q.1 = true then xR mL_law 1276 ls (.int (q.2 i.toNatClampNeg) :: st) σ else none) := y_iald9 xe_L_law dL_law_1275 rfl
theorem r_L_law_1276 {ls : xL} {st : List Value} {σ : xS} {a : Nat} {x0 : Int32} : xR mL_law 1276 ls (.int x0 :: .ref a :: st) σ = yV (hcls σ a) 6 (xwid st) (xC1 mX7_best [.ref a, .int x0] σ) (fun v τ => xR mL_law 1279 ls (v.toList ++ st) τ) := y_cV (as := [.ref a, .int x0]) (as2 := [.int x0]) (r := (vwCl[6]?).getD default) xe_L_law dL_law_1276 cl_8_151 rfl rfl rfl rfl xe_X7_best ⟨Nat.le_of_ble_eq_true rfl, Nat.le_of_ble_eq_true rfl⟩ (Nat.le_of_ble_eq_true rfl) (by decide)
theorem r_L_law_1279 {ls : xL} {st : List Value} {σ : xS} {x : Int32} : xR mL_law 1279 ls (.int x :: st) σ = (lst1 ls 6 (some (.int x))).bind (fun l => xR mL_law 1281 l (st) σ) := y_istore xe_L_law dL_law_1279
theorem r_L_law_1281 {ls : xL} {st : List Value} {σ : xS}  : xR mL_law 1281 ls (st) σ = gA (lget ls 2) (fun x => xR mL_law 1282 ls (.ref x :: st) σ) := y_aload_n xe_L_law dL_law_1281
theorem r_L_law_1282 {ls : xL} {st : List Value} {σ : xS} {a : Nat}  : xR mL_law 1282 ls (.ref a :: st) σ = yV (hcls σ a) 6 (xwid st) (xC1 mX7_thrown [.ref a] σ) (fun v τ => xR mL_law 1285 ls (v.toList ++ st) τ) := y_cV (as := [.ref a]) (as2 := []) (r := (vwCl[6]?).getD default) xe_L_law dL_law_1282 cl_8_81 rfl rfl rfl rfl xe_X7_thrown ⟨Nat.le_of_ble_eq_true rfl, Nat.le_of_ble_eq_true rfl⟩ (Nat.le_of_ble_eq_true rfl) (by decide)
theorem r_L_law_1285 {ls : xL} {st : List Value} {σ : xS}  : xR mL_law 1285 ls (st) σ = gI (lget ls 5) (fun x => xR mL_law 1287 ls (.int x :: st) σ) := y_iload xe_L_law dL_law_1285
theorem r_L_law_1287 {ls : xL} {st : List Value} {σ : xS} {x y : Int32} : xR mL_law 1287 ls (.int y :: .int x :: st) σ = if x = y then xR mL_law 1292 ls (st) σ else xR mL_law 1290 ls (st) σ := y_icmp_eq xe_L_law dL_law_1287 (by decide)
theorem r_L_law_1290 {ls : xL} {st : List Value} {σ : xS}  : xR mL_law 1290 ls (st) σ = xR mL_law 1291 ls (.int (nI 0) :: st) σ := y_iconst xe_L_law dL_law_1290 (by decide +kernel)
theorem r_L_law_1291 {ls : xL} {σ : xS} {x : Int32} : xR mL_law 1291 ls ([.int x]) σ = if x = 0 ∨ x = 1 then some (.inl (some (.int x)), σ) else none := y_zret xe_L_law dL_law_1291 rfl
theorem r_L_law_1292 {ls : xL} {st : List Value} {σ : xS}  : xR mL_law 1292 ls (st) σ = gI (lget ls 5) (fun x => xR mL_law 1294 ls (.int x :: st) σ) := y_iload xe_L_law dL_law_1292
theorem r_L_law_1294 {ls : xL} {st : List Value} {σ : xS} {x : Int32} : xR mL_law 1294 ls (.int x :: st) σ = if ¬ x = 0 then xR mL_law 1309 ls (st) σ else xR mL_law 1297 ls (st) σ := y_if_ne xe_L_law dL_law_1294 (by decide)
theorem r_L_law_1297 {ls : xL} {st : List Value} {σ : xS}  : xR mL_law 1297 ls (st) σ = gA (lget ls 3) (fun x => xR mL_law 1298 ls (.ref x :: st) σ) := y_aload_n xe_L_law dL_law_1297
theorem r_L_law_1298 {ls : xL} {st : List Value} {σ : xS}  : xR mL_law 1298 ls (st) σ = xR mL_law 1299 ls (.int (nI 0) :: st) σ := y_iconst xe_L_law dL_law_1298 (by decide +kernel)
theorem r_L_law_1299 {ls : xL} {st : List Value} {σ : xS} {a : Nat} {i : Int32} : xR mL_law 1299 ls (.int i :: .ref a :: st) σ = (hlng σ 4 a).bind (fun q => if xin i q.1 = true then xR mL_law 1300 ls (.long (q.2 i.toNatClampNeg) :: st) σ else none) := y_lald xe_L_law dL_law_1299
theorem r_L_law_1300 {ls : xL} {st : List Value} {σ : xS}  : xR mL_law 1300 ls (st) σ = gI (lget ls 6) (fun x => xR mL_law 1302 ls (.int x :: st) σ) := y_iload xe_L_law dL_law_1300
theorem r_L_law_1302 {ls : xL} {st : List Value} {σ : xS} {x : Int32} : xR mL_law 1302 ls (.int x :: st) σ = xR mL_law 1303 ls (.long x.toInt64 :: st) σ := y_i2l xe_L_law dL_law_1302
theorem r_L_law_1303 {ls : xL} {st : List Value} {σ : xS} {x y : Int64} : xR mL_law 1303 ls (.long y :: .long x :: st) σ = xR mL_law 1304 ls (.int (lg_cmp x y) :: st) σ := y_lcmp xe_L_law dL_law_1303
theorem r_L_law_1304 {ls : xL} {st : List Value} {σ : xS} {x : Int32} : xR mL_law 1304 ls (.int x :: st) σ = if x = 0 then xR mL_law 1309 ls (st) σ else xR mL_law 1307 ls (st) σ := y_if_eq xe_L_law dL_law_1304 (by decide)
theorem r_L_law_1307 {ls : xL} {st : List Value} {σ : xS}  : xR mL_law 1307 ls (st) σ = xR mL_law 1308 ls (.int (nI 0) :: st) σ := y_iconst xe_L_law dL_law_1307 (by decide +kernel)
theorem r_L_law_1308 {ls : xL} {σ : xS} {x : Int32} : xR mL_law 1308 ls ([.int x]) σ = if x = 0 ∨ x = 1 then some (.inl (some (.int x)), σ) else none := y_zret xe_L_law dL_law_1308 rfl
theorem r_L_law_1309 {ls : xL} {st : List Value} {σ : xS}  : xR mL_law 1309 ls (st) σ = xR mL_law 1423 ls (st) σ := y_goto xe_L_law dL_law_1309 (by decide)
theorem r_L_law_1312 {ls : xL} {st : List Value} {σ : xS}  : xR mL_law 1312 ls (st) σ = gA (lget ls 1) (fun x => xR mL_law 1313 ls (.ref x :: st) σ) := y_aload_n xe_L_law dL_law_1312
theorem r_L_law_1313 {ls : xL} {st : List Value} {σ : xS} {a : Nat}  : xR mL_law 1313 ls (.ref a :: st) σ = yV (hcls σ a) 5 (xwid st) (xC1 mX6_calm [.ref a] σ) (fun v τ => xR mL_law 1316 ls (v.toList ++ st) τ) := y_cV (as := [.ref a]) (as2 := []) (r := (vwCl[5]?).getD default) xe_L_law dL_law_1313 cl_8_152 rfl rfl rfl rfl xe_X6_calm ⟨Nat.le_of_ble_eq_true rfl, Nat.le_of_ble_eq_true rfl⟩ (Nat.le_of_ble_eq_true rfl) (by decide)
theorem r_L_law_1316 {ls : xL} {st : List Value} {σ : xS}  : xR mL_law 1316 ls (st) σ = gA (lget ls 2) (fun x => xR mL_law 1317 ls (.ref x :: st) σ) := y_aload_n xe_L_law dL_law_1316
theorem r_L_law_1317 {ls : xL} {st : List Value} {σ : xS} {a : Nat}  : xR mL_law 1317 ls (.ref a :: st) σ = yV (hcls σ a) 6 (xwid st) (xC1 mX7_calm [.ref a] σ) (fun v τ => xR mL_law 1320 ls (v.toList ++ st) τ) := y_cV (as := [.ref a]) (as2 := []) (r := (vwCl[6]?).getD default) xe_L_law dL_law_1317 cl_8_155 rfl rfl rfl rfl xe_X7_calm ⟨Nat.le_of_ble_eq_true rfl, Nat.le_of_ble_eq_true rfl⟩ (Nat.le_of_ble_eq_true rfl) (by decide)
theorem r_L_law_1320 {ls : xL} {st : List Value} {σ : xS} {x y : Int32} : xR mL_law 1320 ls (.int y :: .int x :: st) σ = if x = y then xR mL_law 1423 ls (st) σ else xR mL_law 1323 ls (st) σ := y_icmp_eq xe_L_law dL_law_1320 (by decide)
theorem r_L_law_1323 {ls : xL} {st : List Value} {σ : xS}  : xR mL_law 1323 ls (st) σ = xR mL_law 1324 ls (.int (nI 0) :: st) σ := y_iconst xe_L_law dL_law_1323 (by decide +kernel)
theorem r_L_law_1324 {ls : xL} {σ : xS} {x : Int32} : xR mL_law 1324 ls ([.int x]) σ = if x = 0 ∨ x = 1 then some (.inl (some (.int x)), σ) else none := y_zret xe_L_law dL_law_1324 rfl
theorem r_L_law_1325 {ls : xL} {st : List Value} {σ : xS}  : xR mL_law 1325 ls (st) σ = gA (lget ls 1) (fun x => xR mL_law 1326 ls (.ref x :: st) σ) := y_aload_n xe_L_law dL_law_1325
theorem r_L_law_1326 {ls : xL} {st : List Value} {σ : xS} {a : Nat}  : xR mL_law 1326 ls (.ref a :: st) σ = yV (hcls σ a) 5 (xwid st) (xC1 mX6_ownedShare [.ref a] σ) (fun v τ => xR mL_law 1329 ls (v.toList ++ st) τ) := y_cV (as := [.ref a]) (as2 := []) (r := (vwCl[5]?).getD default) xe_L_law dL_law_1326 cl_8_156 rfl rfl rfl rfl xe_X6_ownedShare ⟨Nat.le_of_ble_eq_true rfl, Nat.le_of_ble_eq_true rfl⟩ (Nat.le_of_ble_eq_true rfl) (by decide)
theorem r_L_law_1329 {ls : xL} {st : List Value} {σ : xS} {x : UInt64} : xR mL_law 1329 ls (.double x :: st) σ = (lst2 ls 5 (.double x)).bind (fun l => xR mL_law 1331 l (st) σ) := y_dstore xe_L_law dL_law_1329
theorem r_L_law_1331 {ls : xL} {st : List Value} {σ : xS}  : xR mL_law 1331 ls (st) σ = gA (lget ls 2) (fun x => xR mL_law 1332 ls (.ref x :: st) σ) := y_aload_n xe_L_law dL_law_1331
theorem r_L_law_1332 {ls : xL} {st : List Value} {σ : xS} {a : Nat}  : xR mL_law 1332 ls (.ref a :: st) σ = yV (hcls σ a) 6 (xwid st) (xC1 mX7_ownedShare [.ref a] σ) (fun v τ => xR mL_law 1335 ls (v.toList ++ st) τ) := y_cV (as := [.ref a]) (as2 := []) (r := (vwCl[6]?).getD default) xe_L_law dL_law_1332 cl_8_160 rfl rfl rfl rfl xe_X7_ownedShare ⟨Nat.le_of_ble_eq_true rfl, Nat.le_of_ble_eq_true rfl⟩ (Nat.le_of_ble_eq_true rfl) (by decide)
theorem r_L_law_1335 {ls : xL} {st : List Value} {σ : xS} {x : UInt64} : xR mL_law 1335 ls (.double x :: st) σ = (lst2 ls 7 (.double x)).bind (fun l => xR mL_law 1337 l (st) σ) := y_dstore xe_L_law dL_law_1335
theorem r_L_law_1337 {ls : xL} {st : List Value} {σ : xS}  : xR mL_law 1337 ls (st) σ = gD (lget ls 5) (fun x => xR mL_law 1339 ls (.double x :: st) σ) := y_dload xe_L_law dL_law_1337
theorem r_L_law_1339 {ls : xL} {st : List Value} {σ : xS}  : xR mL_law 1339 ls (st) σ = gD (lget ls 7) (fun x => xR mL_law 1341 ls (.double x :: st) σ) := y_dload xe_L_law dL_law_1339
theorem r_L_law_1341 {ls : xL} {st : List Value} {σ : xS} {x y : UInt64} : xR mL_law 1341 ls (.double y :: .double x :: st) σ = xR mL_law 1342 ls (.int (Op.cmpValue (FP.dcmp x y) .l) :: st) σ := y_dcmp xe_L_law dL_law_1341
theorem r_L_law_1342 {ls : xL} {st : List Value} {σ : xS} {x : Int32} : xR mL_law 1342 ls (.int x :: st) σ = if x = 0 then xR mL_law 1363 ls (st) σ else xR mL_law 1345 ls (st) σ := y_if_eq xe_L_law dL_law_1342 (by decide)
theorem r_L_law_1345 {ls : xL} {st : List Value} {σ : xS}  : xR mL_law 1345 ls (st) σ = gD (lget ls 5) (fun x => xR mL_law 1347 ls (.double x :: st) σ) := y_dload xe_L_law dL_law_1345
theorem r_L_law_1347 {ls : xL} {st : List Value} {σ : xS}  : xR mL_law 1347 ls (st) σ = gD (lget ls 5) (fun x => xR mL_law 1349 ls (.double x :: st) σ) := y_dload xe_L_law dL_law_1347
theorem r_L_law_1349 {ls : xL} {st : List Value} {σ : xS} {x y : UInt64} : xR mL_law 1349 ls (.double y :: .double x :: st) σ = xR mL_law 1350 ls (.int (Op.cmpValue (FP.dcmp x y) .l) :: st) σ := y_dcmp xe_L_law dL_law_1349
theorem r_L_law_1350 {ls : xL} {st : List Value} {σ : xS} {x : Int32} : xR mL_law 1350 ls (.int x :: st) σ = if x = 0 then xR mL_law 1361 ls (st) σ else xR mL_law 1353 ls (st) σ := y_if_eq xe_L_law dL_law_1350 (by decide)
theorem r_L_law_1353 {ls : xL} {st : List Value} {σ : xS}  : xR mL_law 1353 ls (st) σ = gD (lget ls 7) (fun x => xR mL_law 1355 ls (.double x :: st) σ) := y_dload xe_L_law dL_law_1353
theorem r_L_law_1355 {ls : xL} {st : List Value} {σ : xS}  : xR mL_law 1355 ls (st) σ = gD (lget ls 7) (fun x => xR mL_law 1357 ls (.double x :: st) σ) := y_dload xe_L_law dL_law_1355
theorem r_L_law_1357 {ls : xL} {st : List Value} {σ : xS} {x y : UInt64} : xR mL_law 1357 ls (.double y :: .double x :: st) σ = xR mL_law 1358 ls (.int (Op.cmpValue (FP.dcmp x y) .l) :: st) σ := y_dcmp xe_L_law dL_law_1357
theorem r_L_law_1358 {ls : xL} {st : List Value} {σ : xS} {x : Int32} : xR mL_law 1358 ls (.int x :: st) σ = if ¬ x = 0 then xR mL_law 1363 ls (st) σ else xR mL_law 1361 ls (st) σ := y_if_ne xe_L_law dL_law_1358 (by decide)
theorem r_L_law_1361 {ls : xL} {st : List Value} {σ : xS}  : xR mL_law 1361 ls (st) σ = xR mL_law 1362 ls (.int (nI 0) :: st) σ := y_iconst xe_L_law dL_law_1361 (by decide +kernel)
theorem r_L_law_1362 {ls : xL} {σ : xS} {x : Int32} : xR mL_law 1362 ls ([.int x]) σ = if x = 0 ∨ x = 1 then some (.inl (some (.int x)), σ) else none := y_zret xe_L_law dL_law_1362 rfl
theorem r_L_law_1363 {ls : xL} {st : List Value} {σ : xS}  : xR mL_law 1363 ls (st) σ = xR mL_law 1423 ls (st) σ := y_goto xe_L_law dL_law_1363 (by decide)
theorem r_L_law_1366 {ls : xL} {st : List Value} {σ : xS}  : xR mL_law 1366 ls (st) σ = gA (lget ls 1) (fun x => xR mL_law 1367 ls (.ref x :: st) σ) := y_aload_n xe_L_law dL_law_1366
theorem r_L_law_1367 {ls : xL} {st : List Value} {σ : xS} {a : Nat}  : xR mL_law 1367 ls (.ref a :: st) σ = yV (hcls σ a) 5 (xwid st) (xC1 mX6_meanRink [.ref a] σ) (fun v τ => xR mL_law 1370 ls (v.toList ++ st) τ) := y_cV (as := [.ref a]) (as2 := []) (r := (vwCl[5]?).getD default) xe_L_law dL_law_1367 cl_8_161 rfl rfl rfl rfl xe_X6_meanRink ⟨Nat.le_of_ble_eq_true rfl, Nat.le_of_ble_eq_true rfl⟩ (Nat.le_of_ble_eq_true rfl) (by decide)
theorem r_L_law_1370 {ls : xL} {st : List Value} {σ : xS} {x : UInt32} : xR mL_law 1370 ls (.float x :: st) σ = if FP.f2d x &&& 0x7fffffffffffffff ≤ 0x7ff0000000000000 then xR mL_law 1371 ls (.double (FP.f2d x) :: st) σ else none := y_f2d xe_L_law dL_law_1370
theorem r_L_law_1371 {ls : xL} {st : List Value} {σ : xS} {x : UInt64} : xR mL_law 1371 ls (.double x :: st) σ = (lst2 ls 5 (.double x)).bind (fun l => xR mL_law 1373 l (st) σ) := y_dstore xe_L_law dL_law_1371
theorem r_L_law_1373 {ls : xL} {st : List Value} {σ : xS}  : xR mL_law 1373 ls (st) σ = gA (lget ls 2) (fun x => xR mL_law 1374 ls (.ref x :: st) σ) := y_aload_n xe_L_law dL_law_1373
theorem r_L_law_1374 {ls : xL} {st : List Value} {σ : xS} {a : Nat}  : xR mL_law 1374 ls (.ref a :: st) σ = yV (hcls σ a) 6 (xwid st) (xC1 mX7_meanRink [.ref a] σ) (fun v τ => xR mL_law 1377 ls (v.toList ++ st) τ) := y_cV (as := [.ref a]) (as2 := []) (r := (vwCl[6]?).getD default) xe_L_law dL_law_1374 cl_8_165 rfl rfl rfl rfl xe_X7_meanRink ⟨Nat.le_of_ble_eq_true rfl, Nat.le_of_ble_eq_true rfl⟩ (Nat.le_of_ble_eq_true rfl) (by decide)
theorem r_L_law_1377 {ls : xL} {st : List Value} {σ : xS} {x : UInt32} : xR mL_law 1377 ls (.float x :: st) σ = if FP.f2d x &&& 0x7fffffffffffffff ≤ 0x7ff0000000000000 then xR mL_law 1378 ls (.double (FP.f2d x) :: st) σ else none := y_f2d xe_L_law dL_law_1377
theorem r_L_law_1378 {ls : xL} {st : List Value} {σ : xS} {x : UInt64} : xR mL_law 1378 ls (.double x :: st) σ = (lst2 ls 7 (.double x)).bind (fun l => xR mL_law 1380 l (st) σ) := y_dstore xe_L_law dL_law_1378
theorem r_L_law_1380 {ls : xL} {st : List Value} {σ : xS}  : xR mL_law 1380 ls (st) σ = gD (lget ls 5) (fun x => xR mL_law 1382 ls (.double x :: st) σ) := y_dload xe_L_law dL_law_1380
theorem r_L_law_1382 {ls : xL} {st : List Value} {σ : xS}  : xR mL_law 1382 ls (st) σ = gD (lget ls 7) (fun x => xR mL_law 1384 ls (.double x :: st) σ) := y_dload xe_L_law dL_law_1382
theorem r_L_law_1384 {ls : xL} {st : List Value} {σ : xS} {x y : UInt64} : xR mL_law 1384 ls (.double y :: .double x :: st) σ = xR mL_law 1385 ls (.int (Op.cmpValue (FP.dcmp x y) .l) :: st) σ := y_dcmp xe_L_law dL_law_1384
theorem r_L_law_1385 {ls : xL} {st : List Value} {σ : xS} {x : Int32} : xR mL_law 1385 ls (.int x :: st) σ = if x = 0 then xR mL_law 1406 ls (st) σ else xR mL_law 1388 ls (st) σ := y_if_eq xe_L_law dL_law_1385 (by decide)
theorem r_L_law_1388 {ls : xL} {st : List Value} {σ : xS}  : xR mL_law 1388 ls (st) σ = gD (lget ls 5) (fun x => xR mL_law 1390 ls (.double x :: st) σ) := y_dload xe_L_law dL_law_1388
theorem r_L_law_1390 {ls : xL} {st : List Value} {σ : xS}  : xR mL_law 1390 ls (st) σ = gD (lget ls 5) (fun x => xR mL_law 1392 ls (.double x :: st) σ) := y_dload xe_L_law dL_law_1390
theorem r_L_law_1392 {ls : xL} {st : List Value} {σ : xS} {x y : UInt64} : xR mL_law 1392 ls (.double y :: .double x :: st) σ = xR mL_law 1393 ls (.int (Op.cmpValue (FP.dcmp x y) .l) :: st) σ := y_dcmp xe_L_law dL_law_1392
theorem r_L_law_1393 {ls : xL} {st : List Value} {σ : xS} {x : Int32} : xR mL_law 1393 ls (.int x :: st) σ = if x = 0 then xR mL_law 1404 ls (st) σ else xR mL_law 1396 ls (st) σ := y_if_eq xe_L_law dL_law_1393 (by decide)
theorem r_L_law_1396 {ls : xL} {st : List Value} {σ : xS}  : xR mL_law 1396 ls (st) σ = gD (lget ls 7) (fun x => xR mL_law 1398 ls (.double x :: st) σ) := y_dload xe_L_law dL_law_1396
theorem r_L_law_1398 {ls : xL} {st : List Value} {σ : xS}  : xR mL_law 1398 ls (st) σ = gD (lget ls 7) (fun x => xR mL_law 1400 ls (.double x :: st) σ) := y_dload xe_L_law dL_law_1398
theorem r_L_law_1400 {ls : xL} {st : List Value} {σ : xS} {x y : UInt64} : xR mL_law 1400 ls (.double y :: .double x :: st) σ = xR mL_law 1401 ls (.int (Op.cmpValue (FP.dcmp x y) .l) :: st) σ := y_dcmp xe_L_law dL_law_1400
theorem r_L_law_1401 {ls : xL} {st : List Value} {σ : xS} {x : Int32} : xR mL_law 1401 ls (.int x :: st) σ = if ¬ x = 0 then xR mL_law 1406 ls (st) σ else xR mL_law 1404 ls (st) σ := y_if_ne xe_L_law dL_law_1401 (by decide)
theorem r_L_law_1404 {ls : xL} {st : List Value} {σ : xS}  : xR mL_law 1404 ls (st) σ = xR mL_law 1405 ls (.int (nI 0) :: st) σ := y_iconst xe_L_law dL_law_1404 (by decide +kernel)
theorem r_L_law_1405 {ls : xL} {σ : xS} {x : Int32} : xR mL_law 1405 ls ([.int x]) σ = if x = 0 ∨ x = 1 then some (.inl (some (.int x)), σ) else none := y_zret xe_L_law dL_law_1405 rfl
theorem r_L_law_1406 {ls : xL} {st : List Value} {σ : xS}  : xR mL_law 1406 ls (st) σ = xR mL_law 1423 ls (st) σ := y_goto xe_L_law dL_law_1406 (by decide)
theorem r_L_law_1409 {ls : xL} {st : List Value} {σ : xS}  : xR mL_law 1409 ls (st) σ = gA (lget ls 1) (fun x => xR mL_law 1410 ls (.ref x :: st) σ) := y_aload_n xe_L_law dL_law_1409
theorem r_L_law_1410 {ls : xL} {st : List Value} {σ : xS} {a : Nat}  : xR mL_law 1410 ls (.ref a :: st) σ = yV (hcls σ a) 5 (xwid st) (xC1 mX6_digest [.ref a] σ) (fun v τ => xR mL_law 1413 ls (v.toList ++ st) τ) := y_cV (as := [.ref a]) (as2 := []) (r := (vwCl[5]?).getD default) xe_L_law dL_law_1410 cl_8_166 rfl rfl rfl rfl xe_X6_digest ⟨Nat.le_of_ble_eq_true rfl, Nat.le_of_ble_eq_true rfl⟩ (Nat.le_of_ble_eq_true rfl) (by decide)
theorem r_L_law_1413 {ls : xL} {st : List Value} {σ : xS}  : xR mL_law 1413 ls (st) σ = gA (lget ls 2) (fun x => xR mL_law 1414 ls (.ref x :: st) σ) := y_aload_n xe_L_law dL_law_1413
theorem r_L_law_1414 {ls : xL} {st : List Value} {σ : xS} {a : Nat}  : xR mL_law 1414 ls (.ref a :: st) σ = yV (hcls σ a) 6 (xwid st) (xC1 mX7_digest [.ref a] σ) (fun v τ => xR mL_law 1417 ls (v.toList ++ st) τ) := y_cV (as := [.ref a]) (as2 := []) (r := (vwCl[6]?).getD default) xe_L_law dL_law_1414 cl_8_170 rfl rfl rfl rfl xe_X7_digest ⟨Nat.le_of_ble_eq_true rfl, Nat.le_of_ble_eq_true rfl⟩ (Nat.le_of_ble_eq_true rfl) (by decide)
theorem r_L_law_1417 {ls : xL} {st : List Value} {σ : xS} {x y : Int64} : xR mL_law 1417 ls (.long y :: .long x :: st) σ = xR mL_law 1418 ls (.int (lg_cmp x y) :: st) σ := y_lcmp xe_L_law dL_law_1417
theorem r_L_law_1418 {ls : xL} {st : List Value} {σ : xS} {x : Int32} : xR mL_law 1418 ls (.int x :: st) σ = if x = 0 then xR mL_law 1423 ls (st) σ else xR mL_law 1421 ls (st) σ := y_if_eq xe_L_law dL_law_1418 (by decide)
theorem r_L_law_1421 {ls : xL} {st : List Value} {σ : xS}  : xR mL_law 1421 ls (st) σ = xR mL_law 1422 ls (.int (nI 0) :: st) σ := y_iconst xe_L_law dL_law_1421 (by decide +kernel)
theorem r_L_law_1422 {ls : xL} {σ : xS} {x : Int32} : xR mL_law 1422 ls ([.int x]) σ = if x = 0 ∨ x = 1 then some (.inl (some (.int x)), σ) else none := y_zret xe_L_law dL_law_1422 rfl
theorem r_L_law_1423 {ls : xL} {st : List Value} {σ : xS}  : xR mL_law 1423 ls (st) σ = gI (lget ls 4) (fun x => (lst1 ls 4 (some (.int (x + (nI 5))))).bind (fun l => xR mL_law 1426 l (st) σ)) := y_iinc xe_L_law dL_law_1423 (by decide +kernel)
theorem r_L_law_1426 {ls : xL} {st : List Value} {σ : xS}  : xR mL_law 1426 ls (st) σ = xR mL_law 23 ls (st) σ := y_goto xe_L_law dL_law_1426 (by decide)
theorem r_L_law_1429 {ls : xL} {st : List Value} {σ : xS}  : xR mL_law 1429 ls (st) σ = xR mL_law 1430 ls (.int (nI 1) :: st) σ := y_iconst xe_L_law dL_law_1429 (by decide +kernel)
theorem r_L_law_1430 {ls : xL} {σ : xS} {x : Int32} : xR mL_law 1430 ls ([.int x]) σ = if x = 0 ∨ x = 1 then some (.inl (some (.int x)), σ) else none := y_zret xe_L_law dL_law_1430 rfl
