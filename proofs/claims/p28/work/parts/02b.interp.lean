/-! ===== an interpreter of the claim's bytecode over abstract heaps: cells by place; a reference is a place ===== -/
abbrev xC : Type := (Nat × vp_A) ⊕ (Nat × List Value)
/-- the cells; how many; how many were made beside them; slots -/
abbrev xS : Type := (Nat → Option xC) × (Nat × Nat × Nat)
abbrev xL : Type := List (Option Value)
/-- what an instruction does: it goes on; returns; calls; throws -/
abbrev xA : Type := (Nat × xL × List Value × xS) ⊕ (Option Value × xS) ⊕ (Nat × List Value × Nat × xL × List Value × xS) ⊕ (Nat × xS)
abbrev xO : Type := (Option Value ⊕ Nat) × xS
def lget : xL → Nat → Option Value
  | [], _ => none
  | a :: _, 0 => a
  | _ :: l, k + 1 => lget l k
def lkl : Option Value → Option Value
  | some (.long _) => none
  | some (.double _) => none
  | x => x
def lst1 : xL → Nat → Option Value → Option xL
  | [], _, _ => none
  | _ :: l, 0, v => some (v :: l)
  | a :: l, 1, v => (lst1 l 0 v).map (fun l' => lkl a :: l')
  | a :: l, k + 2, v => (lst1 l (k + 1) v).map (fun l' => a :: l')
def lst2 : xL → Nat → Value → Option xL
  | [], _, _ => none
  | _ :: l, 0, v => match l with
    | [] => none
    | _ :: l' => some (some v :: none :: l')
  | a :: l, 1, v => (lst2 l 0 v).map (fun l' => lkl a :: l')
  | a :: l, k + 2, v => (lst2 l (k + 1) v).map (fun l' => a :: l')
section XP
variable {α : Type}
def pV (st : List Value) (k : Value → List Value → Option α) : Option α := match st with
  | v :: r => k v r
  | _ => none
def pI (st : List Value) (k : Int32 → List Value → Option α) : Option α := match st with
  | .int x :: r => k x r
  | _ => none
def pL (st : List Value) (k : Int64 → List Value → Option α) : Option α := match st with
  | .long x :: r => k x r
  | _ => none
def pF (st : List Value) (k : UInt32 → List Value → Option α) : Option α := match st with
  | .float x :: r => k x r
  | _ => none
def pD (st : List Value) (k : UInt64 → List Value → Option α) : Option α := match st with
  | .double x :: r => k x r
  | _ => none
def pA (st : List Value) (k : Nat → List Value → Option α) : Option α := match st with
  | .ref x :: r => k x r
  | _ => none
def pZ (st : List Value) (k : Option α) : Option α := match st with
  | [] => k
  | _ => none
def gI (v : Option Value) (k : Int32 → Option α) : Option α := match v with
  | some (.int x) => k x
  | _ => none
def gL (v : Option Value) (k : Int64 → Option α) : Option α := match v with
  | some (.long x) => k x
  | _ => none
def gF (v : Option Value) (k : UInt32 → Option α) : Option α := match v with
  | some (.float x) => k x
  | _ => none
def gD (v : Option Value) (k : UInt64 → Option α) : Option α := match v with
  | some (.double x) => k x
  | _ => none
def gA (v : Option Value) (k : Nat → Option α) : Option α := match v with
  | some (.ref x) => k x
  | _ => none
theorem pV_s {st : List Value} {k : Value → List Value → Option α} {a : α} (h : pV st k = some a) : ∃ v r, st = v :: r ∧ k v r = some a := by
  unfold pV at h; split at h
  · exact ⟨_, _, rfl, h⟩
  · cases h
theorem pI_s {st : List Value} {k : Int32 → List Value → Option α} {a : α} (h : pI st k = some a) : ∃ v r, st = .int v :: r ∧ k v r = some a := by
  unfold pI at h; split at h
  · exact ⟨_, _, rfl, h⟩
  · cases h
theorem pL_s {st : List Value} {k : Int64 → List Value → Option α} {a : α} (h : pL st k = some a) : ∃ v r, st = .long v :: r ∧ k v r = some a := by
  unfold pL at h; split at h
  · exact ⟨_, _, rfl, h⟩
  · cases h
theorem pF_s {st : List Value} {k : UInt32 → List Value → Option α} {a : α} (h : pF st k = some a) : ∃ v r, st = .float v :: r ∧ k v r = some a := by
  unfold pF at h; split at h
  · exact ⟨_, _, rfl, h⟩
  · cases h
theorem pD_s {st : List Value} {k : UInt64 → List Value → Option α} {a : α} (h : pD st k = some a) : ∃ v r, st = .double v :: r ∧ k v r = some a := by
  unfold pD at h; split at h
  · exact ⟨_, _, rfl, h⟩
  · cases h
theorem pA_s {st : List Value} {k : Nat → List Value → Option α} {a : α} (h : pA st k = some a) : ∃ v r, st = .ref v :: r ∧ k v r = some a := by
  unfold pA at h; split at h
  · exact ⟨_, _, rfl, h⟩
  · cases h
theorem pZ_s {st : List Value} {k : Option α} {a : α} (h : pZ st k = some a) : st = [] ∧ k = some a := by
  unfold pZ at h; split at h
  · exact ⟨rfl, h⟩
  · cases h
theorem gI_s {v : Option Value} {k : Int32 → Option α} {a : α} (h : gI v k = some a) : ∃ x, v = some (.int x) ∧ k x = some a := by
  unfold gI at h; split at h
  · exact ⟨_, rfl, h⟩
  · cases h
theorem gL_s {v : Option Value} {k : Int64 → Option α} {a : α} (h : gL v k = some a) : ∃ x, v = some (.long x) ∧ k x = some a := by
  unfold gL at h; split at h
  · exact ⟨_, rfl, h⟩
  · cases h
theorem gF_s {v : Option Value} {k : UInt32 → Option α} {a : α} (h : gF v k = some a) : ∃ x, v = some (.float x) ∧ k x = some a := by
  unfold gF at h; split at h
  · exact ⟨_, rfl, h⟩
  · cases h
theorem gD_s {v : Option Value} {k : UInt64 → Option α} {a : α} (h : gD v k = some a) : ∃ x, v = some (.double x) ∧ k x = some a := by
  unfold gD at h; split at h
  · exact ⟨_, rfl, h⟩
  · cases h
theorem gA_s {v : Option Value} {k : Nat → Option α} {a : α} (h : gA v k = some a) : ∃ x, v = some (.ref x) ∧ k x = some a := by
  unfold gA at h; split at h
  · exact ⟨_, rfl, h⟩
  · cases h
theorem ite_s {c : Prop} [Decidable c] {x : Option α} {a : α} (h : (if c then x else none) = some a) : c ∧ x = some a := by
  split at h
  · exact ⟨by assumption, h⟩
  · cases h
theorem bind_s {β : Type} {o : Option β} {k : β → Option α} {a : α} (h : o.bind k = some a) : ∃ v, o = some v ∧ k v = some a := by
  cases o with
  | none => cases h
  | some v => exact ⟨v, rfl, h⟩
end XP
-- the heap
def hup (σ : xS) (a : Nat) (c : xC) : xS := (fun j => if j = a then some c else σ.1 j, σ.2)
def hnew (σ : xS) (c : xC) (sl : Nat) : xS := (fun j => if j = σ.2.1 then some c else σ.1 j, (σ.2.1 + 1, σ.2.2.1, σ.2.2.2 + sl))
def hobj (σ : xS) (a : Nat) : Option (Nat × List Value) := match σ.1 a with
  | some (.inr o) => some o
  | _ => none
def hcls (σ : xS) (a : Nat) : Option Nat := (hobj σ a).map (fun o => o.1)
def hfld (σ : xS) (a ci k : Nat) : Option Value := (hobj σ a).bind fun o => if o.1 = ci then o.2[k]? else none
def hfst (σ : xS) (a ci k : Nat) (v : Value) : Option xS := (hobj σ a).bind fun o => if o.1 = ci ∧ k < o.2.length then some (hup σ a (.inr (ci, o.2.set k v))) else none
def hint (σ : xS) (t a : Nat) : Option (Nat × (Nat → Int32)) := match σ.1 a with
  | some (.inl (t', n, .inl f)) => if t' = t then some (n, f) else none
  | _ => none
def hlng (σ : xS) (t a : Nat) : Option (Nat × (Nat → Int64)) := match σ.1 a with
  | some (.inl (t', n, .inr (.inl f))) => if t' = t then some (n, f) else none
  | _ => none
def href (σ : xS) (a : Nat) : Option (Nat × Nat × (Nat → Option Nat)) := match σ.1 a with
  | some (.inl (t, n, .inr (.inr (.inr (.inr f))))) => some (t, n, f)
  | _ => none
def xin (i : Int32) (n : Nat) : Bool := !decide (i < 0) && decide (i.toNatClampNeg < n)
theorem xin_s {i : Int32} {n : Nat} (h : xin i n = true) : vp_in i n := by
  simp only [xin, Bool.and_eq_true, Bool.not_eq_true', decide_eq_false_iff_not, decide_eq_true_eq] at h
  rintro (q | q)
  · exact h.1 q
  · exact absurd h.2 (by omega)
def xwid : List Value → Nat
  | [] => 0
  | v :: l => v.category + xwid l
theorem xwid_sum (l : List Value) : (l.map fun v => v.category).sum = xwid l := by
  induction l with
  | nil => rfl
  | cons a l ih => simp [xwid, ih]
def xty (ci k : Nat) : Option FieldType := (vwCl[ci]?).bind fun r => parseFieldDescriptor (r.2.1 k).2.2.1
def xfin (ci k : Nat) : Bool := match vwCl[ci]? with
  | some r => (r.2.1 k).2.2.2
  | none => true
def xdec (ci k : Nat) : String := match vwCl[ci]? with
  | some r => (r.2.1 k).1
  | none => ""
def xfit : FieldType → Value → Bool
  | .int, .int _ => true
  | .long, .long _ => true
  | .boolean, .int x => decide (x = 0) || decide (x = 1)
  | .object _, .ref _ => true
  | .array _, .ref _ => true
  | _, _ => false
def xblk : Nat → List Value
  | 0 => [.null, .int 0]
  | 1 => [.long 0, .long 0, .long 0, .null, .null, .null, .int 0, .int 0, .int 0, .int 0]
  | 2 => [.null]
  | 3 => [.null, .int 0, .int 0]
  | 4 => [.int 0, .int 0, .int 0, .int 0, .int 0, .int 0, .long 0]
  | 5 => [.null, .null, .null, .null, .null, .null, .int 0]
  | 6 => [.null, .null, .null, .int 0, .null, .int 0, .null, .int 0, .int 0, .null, .null, .null, .int 0]
  | _ => []
def xelt : Nat → Option Nat
  | 1 => some 2
  | 4 => some 3
  | _ => none
-- steps
def xnx (pc : Nat) (ls : xL) (st : List Value) (σ : xS) : Option xA := some (.inl (pc, ls, st, σ))
def xgo (pc : Nat) (off : Int) (ls : xL) (st : List Value) (σ : xS) : Option xA := if 0 ≤ (pc : Int) + off then xnx ((pc : Int) + off).toNat ls st σ else none
def xpop : Nat → List Value → Option (List Value × List Value)
  | 0, st => some ([], st)
  | n + 1, v :: st => (xpop n st).map (fun q => (q.1 ++ [v], q.2))
  | _, [] => none
def xspr : List Value → xL
  | [] => []
  | v :: l => match v with
    | .long x => some (.long x) :: none :: xspr l
    | .double x => some (.double x) :: none :: xspr l
    | v => some v :: xspr l
def xini (n : Nat) (as : List Value) : xL := xspr as ++ List.replicate (n - (xspr as).length) none
/-- a call: the callee's row, the caller's, the arguments -/
def xcal (e : xMe) (ν : Nat) (as : List Value) (pc : Nat) (ls : xL) (st : List Value) (σ : xS) : Option xA :=
  (xM[ν]?).bind fun f => if xwid st ≤ 8 ∧ f.2.2.2.2.2.1 + 1 ≤ e.2.2.2.2.2.1 ∧ 8 + (f.2.2.1 + 11) + f.2.2.2.2.2.2.1 ≤ e.2.2.2.2.2.2.1 ∧ (xspr as).length ≤ f.2.2.1 then some (.inr (.inr (.inl (ν, as, pc, ls, st, σ)))) else none
def xret (v : Option Value) (σ : xS) : Option xA := some (.inr (.inl (v, σ)))
def xIf (c : Prop) [Decidable c] (pc : Nat) (off : Int) (ls : xL) (st : List Value) (σ : xS) : Option xA := if 0 ≤ (pc : Int) + off then xnx (if c then ((pc : Int) + off).toNat else pc + 3) ls st σ else none
/-- an exception: its class, the entries of the class' and its constructor's links -/
def xXI : Nat → String × Nat × Nat
  | 0 => ("java/lang/IndexOutOfBoundsException", 51, 55)
  | 1 => ("java/lang/IllegalArgumentException", 64, 68)
  | _ => ("java/lang/IllegalStateException", 91, 95)
def xSL : List (Nat × String) := [(53, "no such skater"), (66, "direction or steps out of range"), (85, "no such cell"), (93, "the cell is water"), (104, "coins out of range"), (110, "too much would be filled into purses"), (124, "no such setting"), (133, "value out of range"), (139, "code out of range"), (145, "the buffer is full"), (160, "the buffer is not complete glides"), (172, "there is no snapshot"), (177, "there is no saved state"), (182, "what out of range"), (197, "no such point or line"), (199, "direction or what out of range"), (208, "rank below 0"), (220, "direction out of range"), (225, "direction, steps or what out of range")]
/-- a throw's five instructions stand at pc -/
def xths (e : xMe) (pc k x : Nat) : Bool := match decode e.2.1 (pc + 3), decode e.2.1 (pc + 4), decode e.2.1 (pc + 6), decode e.2.1 (pc + 9) with
  | .ok (.dup, 1), .ok (.ldc is, 2), .ok (.invokespecial ic, 3), .ok (.athrow, 1) => decide (e.2.2.2.2.1 = 6) && decide (x < 3) && decide (k = (xXI x).2.1) && decide (ic = (xXI x).2.2) && xSL.any (fun t => decide (t.1 = is)) && decide (6 ≤ e.2.2.2.2.2.1) && decide (100 ≤ e.2.2.2.2.2.2.1) && decide (e.2.2.2.2.2.2.2 = 1)
  | _, _, _, _ => false
/-- what an instruction does in the method e at pc -/
def xDo (e : xMe) (pc : Nat) (ls : xL) (st : List Value) (σ : xS) (i : Instr) (len : Nat) : Option xA :=
  match i, len with
  | .iconst n, 1 => xnx (pc + 1) ls (.int (Int32.ofInt n) :: st) σ
  | .bipush n, 2 => xnx (pc + 2) ls (.int (Int8.ofInt n).toInt32 :: st) σ
  | .sipush n, 3 => xnx (pc + 3) ls (.int (Int16.ofInt n).toInt32 :: st) σ
  | .lconst n, 1 => xnx (pc + 1) ls (.long (Int64.ofNat (n : Nat)) :: st) σ
  | .fconst n, 1 => if n = 0 then xnx (pc + 1) ls (.float FP.fconst0 :: st) σ else none
  | .dconst n, 1 => if n = 0 then xnx (pc + 1) ls (.double FP.dconst0 :: st) σ else if n = 1 then xnx (pc + 1) ls (.double FP.dconst1 :: st) σ else none
  | .ldc k, 2 => (xfind xKL e.2.2.2.2.1 k).bind fun q => match q.1 with
    | .int x => xnx (pc + 2) ls (.int x :: st) σ
    | _ => none
  | .ldc2_w k, 3 => (xfind xKL e.2.2.2.2.1 k).bind fun q => match q.1 with
    | .long x => xnx (pc + 3) ls (.long x :: st) σ
    | .double x => xnx (pc + 3) ls (.double x :: st) σ
    | _ => none
  | .iload_n k, 1 => gI (lget ls k.val) fun x => xnx (pc + 1) ls (.int x :: st) σ
  | .iload k, 2 => gI (lget ls k) fun x => xnx (pc + 2) ls (.int x :: st) σ
  | .lload_n k, 1 => gL (lget ls k.val) fun x => xnx (pc + 1) ls (.long x :: st) σ
  | .lload k, 2 => gL (lget ls k) fun x => xnx (pc + 2) ls (.long x :: st) σ
  | .fload_n k, 1 => gF (lget ls k.val) fun x => xnx (pc + 1) ls (.float x :: st) σ
  | .dload_n k, 1 => gD (lget ls k.val) fun x => xnx (pc + 1) ls (.double x :: st) σ
  | .dload k, 2 => gD (lget ls k) fun x => xnx (pc + 2) ls (.double x :: st) σ
  | .aload_n k, 1 => gA (lget ls k.val) fun x => xnx (pc + 1) ls (.ref x :: st) σ
  | .aload k, 2 => gA (lget ls k) fun x => xnx (pc + 2) ls (.ref x :: st) σ
  | .istore_n k, 1 => pI st fun x r => (lst1 ls k.val (some (.int x))).bind fun l => xnx (pc + 1) l r σ
  | .istore k, 2 => pI st fun x r => (lst1 ls k (some (.int x))).bind fun l => xnx (pc + 2) l r σ
  | .lstore_n k, 1 => pL st fun x r => (lst2 ls k.val (.long x)).bind fun l => xnx (pc + 1) l r σ
  | .lstore k, 2 => pL st fun x r => (lst2 ls k (.long x)).bind fun l => xnx (pc + 2) l r σ
  | .dstore k, 2 => pD st fun x r => (lst2 ls k (.double x)).bind fun l => xnx (pc + 2) l r σ
  | .astore_n k, 1 => pA st fun x r => (lst1 ls k.val (some (.ref x))).bind fun l => xnx (pc + 1) l r σ
  | .astore k, 2 => pA st fun x r => (lst1 ls k (some (.ref x))).bind fun l => xnx (pc + 2) l r σ
  | .iinc k n, 3 => gI (lget ls k) fun x => (lst1 ls k (some (.int (x + Int32.ofInt n)))).bind fun l => xnx (pc + 3) l st σ
  | .iadd, 1 => pI st fun y r => pI r fun x r => xnx (pc + 1) ls (.int (x + y) :: r) σ
  | .isub, 1 => pI st fun y r => pI r fun x r => xnx (pc + 1) ls (.int (x - y) :: r) σ
  | .imul, 1 => pI st fun y r => pI r fun x r => xnx (pc + 1) ls (.int (x * y) :: r) σ
  | .idiv, 1 => pI st fun y r => pI r fun x r => if y = 0 then none else xnx (pc + 1) ls (.int (x / y) :: r) σ
  | .irem, 1 => pI st fun y r => pI r fun x r => if y = 0 then none else xnx (pc + 1) ls (.int (x - x / y * y) :: r) σ
  | .iand, 1 => pI st fun y r => pI r fun x r => xnx (pc + 1) ls (.int (x &&& y) :: r) σ
  | .ishr, 1 => pI st fun y r => pI r fun x r => xnx (pc + 1) ls (.int (x >>> (y &&& 31)) :: r) σ
  | .ladd, 1 => pL st fun y r => pL r fun x r => xnx (pc + 1) ls (.long (x + y) :: r) σ
  | .lsub, 1 => pL st fun y r => pL r fun x r => xnx (pc + 1) ls (.long (x - y) :: r) σ
  | .lmul, 1 => pL st fun y r => pL r fun x r => xnx (pc + 1) ls (.long (x * y) :: r) σ
  | .land, 1 => pL st fun y r => pL r fun x r => xnx (pc + 1) ls (.long (x &&& y) :: r) σ
  | .lor, 1 => pL st fun y r => pL r fun x r => xnx (pc + 1) ls (.long (x ||| y) :: r) σ
  | .lxor, 1 => pL st fun y r => pL r fun x r => xnx (pc + 1) ls (.long (x ^^^ y) :: r) σ
  | .lneg, 1 => pL st fun x r => xnx (pc + 1) ls (.long (-x) :: r) σ
  | .lshl, 1 => pI st fun y r => pL r fun x r => xnx (pc + 1) ls (.long (x <<< (y.toInt64 &&& 63)) :: r) σ
  | .lushr, 1 => pI st fun y r => pL r fun x r => xnx (pc + 1) ls (.long ((x.toUInt64 >>> (y.toInt64.toUInt64 &&& Int64.toUInt64 63)).toInt64) :: r) σ
  | .lcmp, 1 => pL st fun y r => pL r fun x r => xnx (pc + 1) ls (.int (lg_cmp x y) :: r) σ
  | .i2l, 1 => pI st fun x r => xnx (pc + 1) ls (.long x.toInt64 :: r) σ
  | .l2i, 1 => pL st fun x r => xnx (pc + 1) ls (.int x.toInt32 :: r) σ
  | .i2f, 1 => pI st fun x r => xnx (pc + 1) ls (.float (FP.i2f x) :: r) σ
  | .i2d, 1 => pI st fun x r => xnx (pc + 1) ls (.double (FP.i2d x) :: r) σ
  | .l2d, 1 => pL st fun x r => xnx (pc + 1) ls (.double (FP.l2d x) :: r) σ
  | .d2l, 1 => pD st fun x r => xnx (pc + 1) ls (.long (FP.d2l x) :: r) σ
  | .f2d, 1 => pF st fun x r => if FP.f2d x &&& 0x7fffffffffffffff ≤ 0x7ff0000000000000 then xnx (pc + 1) ls (.double (FP.f2d x) :: r) σ else none
  | .fdiv, 1 => pF st fun y r => pF r fun x r => if FP.fdiv x y &&& 0x7fffffff ≤ 0x7f800000 then xnx (pc + 1) ls (.float (FP.fdiv x y) :: r) σ else none
  | .ddiv, 1 => pD st fun y r => pD r fun x r => if FP.ddiv x y &&& 0x7fffffffffffffff ≤ 0x7ff0000000000000 then xnx (pc + 1) ls (.double (FP.ddiv x y) :: r) σ else none
  | .dmul, 1 => pD st fun y r => pD r fun x r => if FP.dmul x y &&& 0x7fffffffffffffff ≤ 0x7ff0000000000000 then xnx (pc + 1) ls (.double (FP.dmul x y) :: r) σ else none
  | .dsub, 1 => pD st fun y r => pD r fun x r => if FP.dsub x y &&& 0x7fffffffffffffff ≤ 0x7ff0000000000000 then xnx (pc + 1) ls (.double (FP.dsub x y) :: r) σ else none
  | .fcmp op, 1 => pF st fun y r => pF r fun x r => xnx (pc + 1) ls (.int (Op.cmpValue (FP.fcmp x y) op) :: r) σ
  | .dcmp op, 1 => pD st fun y r => pD r fun x r => xnx (pc + 1) ls (.int (Op.cmpValue (FP.dcmp x y) op) :: r) σ
  | .dup, 1 => pV st fun v r => if v.category = 1 then xnx (pc + 1) ls (v :: v :: r) σ else none
  | .pop, 1 => pV st fun v r => if v.category = 1 then xnx (pc + 1) ls r σ else none
  | .dup2, 1 => pV st fun v r => if v.category = 2 then xnx (pc + 1) ls (v :: v :: r) σ else pV r fun w r => if v.category = 1 ∧ w.category = 1 then xnx (pc + 1) ls (v :: w :: v :: w :: r) σ else none
  | .goto off, 3 => xgo pc off ls st σ
  | .ifCond .eq off, 3 => pI st fun x r => xIf (x = 0) pc off ls r σ
  | .ifCond .ne off, 3 => pI st fun x r => xIf (¬ x = 0) pc off ls r σ
  | .ifCond .lt off, 3 => pI st fun x r => xIf (x < 0) pc off ls r σ
  | .ifCond .ge off, 3 => pI st fun x r => xIf (0 ≤ x) pc off ls r σ
  | .ifCond .gt off, 3 => pI st fun x r => xIf (0 < x) pc off ls r σ
  | .ifCond .le off, 3 => pI st fun x r => xIf (x ≤ 0) pc off ls r σ
  | .if_icmp .eq off, 3 => pI st fun y r => pI r fun x r => xIf (x = y) pc off ls r σ
  | .if_icmp .ne off, 3 => pI st fun y r => pI r fun x r => xIf (¬ x = y) pc off ls r σ
  | .if_icmp .lt off, 3 => pI st fun y r => pI r fun x r => xIf (x < y) pc off ls r σ
  | .if_icmp .ge off, 3 => pI st fun y r => pI r fun x r => xIf (y ≤ x) pc off ls r σ
  | .if_icmp .gt off, 3 => pI st fun y r => pI r fun x r => xIf (y < x) pc off ls r σ
  | .if_icmp .le off, 3 => pI st fun y r => pI r fun x r => xIf (x ≤ y) pc off ls r σ
  | .tableswitch d lo hi offs, _ => pI st fun x r => if x.toInt < lo ∨ hi < x.toInt then xgo pc d ls r σ else (offs[(x.toInt - lo).toNat]?).bind fun o => xgo pc o ls r σ
  | .lookupswitch d ps, _ => pI st fun x r => if (ps.toList.zip (ps.toList.drop 1)).all (fun (a, next) => a.1 < next.1) = true then xgo pc (Op.lookupswitch.offset ps.toList d x.toInt) ls r σ else none
  | .getfield k, 3 => (xfind xFL e.2.2.2.2.1 k).bind fun q => pA st fun a r => (hfld σ a q.1 q.2.1).bind fun v => xnx (pc + 3) ls (v :: r) σ
  | .putfield k, 3 => (xfind xFL e.2.2.2.2.1 k).bind fun q => pV st fun v r => pA r fun a r => (xty q.1 q.2.1).bind fun ty =>
      if xfit ty v = true ∧ (xfin q.1 q.2.1 = false ∨ (e.1.name = "<init>" ∧ xdec q.1 q.2.1 = xcn e.2.2.2.2.1)) then (hfst σ a q.1 q.2.1 v).bind fun σ' => xnx (pc + 3) ls r σ' else none
  | .iaload, 1 => pI st fun i r => pA r fun a r => match hint σ 0 a with
    | some q => if xin i q.1 = true then xnx (pc + 1) ls (.int (q.2 i.toNatClampNeg) :: r) σ else none
    | none => (hint σ 9 a).bind fun q => if 3 ≤ e.2.2.2.2.2.2.2 ∧ xin i q.1 = true then xnx (pc + 1) ls (.int (q.2 i.toNatClampNeg) :: r) σ else none
  | .aaload, 1 => pI st fun i r => pA r fun a r => (href σ a).bind fun q => if xin i q.2.1 = true ∧ (q.1 = 2 ∨ q.1 = 3) then xnx (pc + 1) ls (va_rf (q.2.2 i.toNatClampNeg) :: r) σ else none
  | .iastore, 1 => pI st fun x r => pI r fun i r => pA r fun a r => (hint σ 0 a).bind fun q => if xin i q.1 = true then xnx (pc + 1) ls r (hup σ a (.inl (0, q.1, .inl (upd q.2 i.toNatClampNeg x)))) else none
  | .aastore, 1 => pA st fun v r => pI r fun i r => pA r fun a r => (href σ a).bind fun q => if xin i q.2.1 = true ∧ (hcls σ v).bind xelt = some q.1 then xnx (pc + 1) ls r (hup σ a (.inl (q.1, q.2.1, .inr (.inr (.inr (.inr (va_up q.2.2 i.toNatClampNeg (some v)))))))) else none
  | .arraylength, 1 => pA st fun a r => (hint σ 9 a).bind fun q => if 3 ≤ e.2.2.2.2.2.2.2 then xnx (pc + 1) ls (.int (nI q.1) :: r) σ else none
  | .newarray .int, 2 => pI st fun n r => if ¬ n < 0 ∧ n.toNatClampNeg ≤ 10000 ∧ σ.2.2.1 = 0 ∧ σ.2.1 < 999 then xnx (pc + 2) ls (.ref σ.2.1 :: r) (hnew σ (.inl (0, n.toNatClampNeg, .inl (fun _ => 0))) n.toNatClampNeg) else none
  | .anewarray k, 3 => (xfind xNL e.2.2.2.2.1 k).bind fun q => (xelt q.1).bind fun t => pI st fun n r => if ¬ n < 0 ∧ n.toNatClampNeg ≤ 10000 ∧ σ.2.2.1 = 0 ∧ σ.2.1 < 999 then xnx (pc + 3) ls (.ref σ.2.1 :: r) (hnew σ (.inl (t, n.toNatClampNeg, .inr (.inr (.inr (.inr (fun _ => none)))))) n.toNatClampNeg) else none
  | .new k, 3 => match xfind xNL e.2.2.2.2.1 k with
    | some q => if σ.2.2.1 = 0 ∧ σ.2.1 < 999 then xnx (pc + 3) ls (.ref σ.2.1 :: st) (hnew σ (.inr (q.1, xblk q.1)) (xblk q.1).length) else none
    | none => (xfind xXL e.2.2.2.2.1 k).bind fun q => if xths e pc k q.1 = true ∧ xwid st ≤ 8 then some (.inr (.inr (.inr (q.1, (σ.1, (σ.2.1, σ.2.2.1 + 1, σ.2.2.2 + 6)))))) else none
  | .invokestatic k, 3 => (xfind xCL e.2.2.2.2.1 k).bind fun q => match q.1 with
    | 0 => (xpop q.2.2.1 st).bind fun w => xcal e q.2.1 w.1 (pc + 3) ls w.2 σ
    | 3 => (xpop q.2.2.1 st).bind fun w => xcal e q.2.1 w.1 (pc + 3) ls w.2 σ
    | 11 => (xpop q.2.2.1 st).bind fun w => xcal e q.2.1 w.1 (pc + 3) ls w.2 σ
    | 12 => (xpop q.2.2.1 st).bind fun w => if 3 ≤ e.2.2.2.2.2.2.2 then xcal e q.2.1 w.1 (pc + 3) ls w.2 σ else none
    | 5 => pI st fun n r => pI r fun dp r => pA r fun a r => pI r fun sp r => pA r fun a0 r => (hint σ 0 a0).bind fun q0 => (hint σ 0 a).bind fun q1 =>
        if sp = 0 ∧ dp = 0 ∧ ¬ n < 0 ∧ n.toNatClampNeg = q0.1 ∧ q1.1 = q0.1 ∧ xwid r ≤ 8 ∧ 1 ≤ e.2.2.2.2.2.1 ∧ 30 ≤ e.2.2.2.2.2.2.1 then xnx (pc + 3) ls r (hup σ a (.inl (0, q0.1, .inl q0.2))) else none
    | 8 => pI st fun y r => pI r fun x r => if xwid r ≤ 8 ∧ 1 ≤ e.2.2.2.2.2.1 ∧ 30 ≤ e.2.2.2.2.2.2.1 then xnx (pc + 3) ls (.int (if x < y then y else x) :: r) σ else none
    | 9 => pI st fun y r => pI r fun x r => if xwid r ≤ 8 ∧ 1 ≤ e.2.2.2.2.2.1 ∧ 30 ≤ e.2.2.2.2.2.2.1 then xnx (pc + 3) ls (.int (if y < x then y else x) :: r) σ else none
    | 6 => pD st fun b r => if xwid r ≤ 8 ∧ 1 ≤ e.2.2.2.2.2.1 ∧ 30 ≤ e.2.2.2.2.2.2.1 then xnx (pc + 3) ls (.long b.toInt64 :: r) σ else none
    | 7 => pF st fun b r => if xwid r ≤ 8 ∧ 1 ≤ e.2.2.2.2.2.1 ∧ 30 ≤ e.2.2.2.2.2.2.1 then xnx (pc + 3) ls (.int b.toInt32 :: r) σ else none
    | _ => none
  | .invokevirtual k, 3 => (xfind xCL e.2.2.2.2.1 k).bind fun q => match q.1 with
    | 1 => (xpop q.2.2.1 st).bind fun w => pA w.2 fun a r => (xM[q.2.1]?).bind fun f => if (hcls σ a).bind (fun c => (vwCl[c]?).map (fun r => r.1)) = some f.1.cls then xcal e q.2.1 (.ref a :: w.1) (pc + 3) ls r σ else none
    | 10 => (xpop q.2.2.1 st).bind fun w => pA w.2 fun a r => (xM[q.2.1]?).bind fun f => if (hcls σ a).bind (fun c => (vwCl[c]?).map (fun r => r.1)) = some f.1.cls then xcal e q.2.1 (.ref a :: w.1) (pc + 3) ls r σ else none
    | _ => none
  | .invokespecial k, 3 => (xfind xCL e.2.2.2.2.1 k).bind fun q => match q.1 with
    | 2 => (xpop q.2.2.1 st).bind fun w => pA w.2 fun a r => xcal e q.2.1 (.ref a :: w.1) (pc + 3) ls r σ
    | 4 => pA st fun _ r => if xwid r ≤ 8 ∧ 1 ≤ e.2.2.2.2.2.1 ∧ 20 ≤ e.2.2.2.2.2.2.1 then xnx (pc + 3) ls r σ else none
    | _ => none
  | .ireturn, 1 => pI st fun x r => pZ r (match e.2.2.2.1 with
    | some .int => xret (some (.int x)) σ
    | some .boolean => if x = 0 ∨ x = 1 then xret (some (.int x)) σ else none
    | _ => none)
  | .lreturn, 1 => pL st fun x r => pZ r (match e.2.2.2.1 with
    | some .long => xret (some (.long x)) σ
    | _ => none)
  | .freturn, 1 => pF st fun x r => pZ r (match e.2.2.2.1 with
    | some .float => xret (some (.float x)) σ
    | _ => none)
  | .dreturn, 1 => pD st fun x r => pZ r (match e.2.2.2.1 with
    | some .double => xret (some (.double x)) σ
    | _ => none)
  | .return_, 1 => pZ st (match e.2.2.2.1 with
    | none => xret none σ
    | _ => none)
  | _, _ => none
/-- where a throw out of the call at pc is caught: the handler -/
def xhd : List (Nat × Nat × Nat × Nat × Nat) → Nat → Nat → Option Nat
  | [], _, _ => none
  | q :: l, pc, x => if q.1 ≤ pc ∧ pc < q.2.1 ∧ q.2.2.2.2 = x then some q.2.2.1 else xhd l pc x
def xhs : List (Nat × List (Nat × Nat × Nat × Nat × Nat)) → Nat → List (Nat × Nat × Nat × Nat × Nat)
  | [], _ => []
  | q :: l, μ => if q.1 = μ then q.2 else xhs l μ
/-- a handler's first row puts what was thrown into a local, which is not looked at -/
def xput (cc : ByteArray) (pc : Nat) (ls : xL) : Option (Nat × xL) := match decode cc pc with
  | .ok (.astore k, 2) => (lst1 ls k none).map (fun l => (pc + 2, l))
  | .ok (.astore_n k, 1) => (lst1 ls k.val none).map (fun l => (pc + 1, l))
  | _ => none
def xact (μ pc : Nat) (ls : xL) (st : List Value) (σ : xS) : Option xA := (xM[μ]?).bind fun e => match decode e.2.1 pc with
  | .ok (i, len) => xDo e pc ls st σ i len
  | _ => none
def xcat (μ pc x : Nat) (ls : xL) : Option (Nat × xL) := (xM[μ]?).bind fun e => (xhd (xhs xHL μ) pc x).bind fun h => xput e.2.1 h ls
def xnl (μ : Nat) : Nat := match xM[μ]? with
  | some e => e.2.2.1
  | none => 0
def xrun : Nat → Nat → Nat → xL → List Value → xS → Option xO
  | 0, _, _, _, _, _ => none
  | f + 1, μ, pc, ls, st, σ => match xact μ pc ls st σ with
    | none => none
    | some (.inl (pc', ls', st', σ')) => xrun f μ pc' ls' st' σ'
    | some (.inr (.inl (v, σ'))) => some (.inl v, σ')
    | some (.inr (.inr (.inl (ν, as, pc', ls', st', σ')))) => (match xrun f ν 0 (xini (xnl ν) as) [] σ' with
      | none => none
      | some (.inl v, σ2) => xrun f μ pc' ls' (v.toList ++ st') σ2
      | some (.inr x, σ2) => (match xcat μ pc x ls' with
        | some (pc2, l2) => xrun f μ pc2 l2 [] σ2
        | none => none))
    | some (.inr (.inr (.inr (x, σ')))) => some (.inr x, σ')
theorem xrun_mono : ∀ (f μ pc : Nat) (ls : xL) (st : List Value) (σ : xS) (o : xO), xrun f μ pc ls st σ = some o → xrun (f + 1) μ pc ls st σ = some o := by
  intro f
  induction f with
  | zero => intro μ pc ls st σ o h; cases h
  | succ f ih =>
    intro μ pc ls st σ o h
    unfold xrun at h ⊢
    split at h
    · cases h
    · next pc' ls' st' σ' e => exact ih _ _ _ _ _ _ h
    · next v σ' e => exact h
    · next ν as pc' ls' st' σ' e =>
      split at h
      · cases h
      · next v σ2 e2 =>
        rw [ih _ _ _ _ _ _ e2]
        exact ih _ _ _ _ _ _ h
      · next x σ2 e2 =>
        rw [ih _ _ _ _ _ _ e2]
        dsimp only
        split at h
        · next pc2 l2 e3 => exact ih _ _ _ _ _ _ h
        · cases h
    · next x σ' e => exact h
theorem xrun_le {f g μ pc : Nat} {ls : xL} {st : List Value} {σ : xS} {o : xO} (hfg : f ≤ g) (h : xrun f μ pc ls st σ = some o) : xrun g μ pc ls st σ = some o := by
  induction hfg with
  | refl => exact h
  | step _ ih => exact xrun_mono _ _ _ _ _ _ _ ih
/-- the run without a clock -/
noncomputable def xR (μ pc : Nat) (ls : xL) (st : List Value) (σ : xS) : Option xO :=
  @dite _ (∃ o f, xrun f μ pc ls st σ = some o) (Classical.propDecidable _) (fun h => some (Classical.choose h)) (fun _ => none)
theorem xR_iff {μ pc : Nat} {ls : xL} {st : List Value} {σ : xS} {o : xO} : xR μ pc ls st σ = some o ↔ ∃ f, xrun f μ pc ls st σ = some o := by
  unfold xR
  split
  · next h =>
    have h1 := Classical.choose_spec h
    constructor
    · intro e; cases e; exact h1
    · rintro ⟨f, hf⟩
      obtain ⟨g, hg⟩ := h1
      have a1 := xrun_le (Nat.le_max_left f g) hf
      have a2 := xrun_le (Nat.le_max_right f g) hg
      exact congrArg some (Option.some.inj (a2.symm.trans a1))
  · next h =>
    constructor
    · intro e; cases e
    · rintro ⟨f, hf⟩; exact absurd ⟨o, f, hf⟩ h
noncomputable def xC1 (ν : Nat) (as : List Value) (σ : xS) : Option xO := xR ν 0 (xini (xnl ν) as) [] σ
theorem xR_ext {x y : Option xO} (h : ∀ o, x = some o ↔ y = some o) : x = y := by
  cases x with
  | none =>
    cases y with
    | none => rfl
    | some b => exact absurd ((h b).mpr rfl) (by simp)
  | some a => exact ((h a).mp rfl).symm
/-- the run, a step on -/
theorem xR_eq (μ pc : Nat) (ls : xL) (st : List Value) (σ : xS) : xR μ pc ls st σ = match xact μ pc ls st σ with
    | none => none
    | some (.inl (pc', ls', st', σ')) => xR μ pc' ls' st' σ'
    | some (.inr (.inl (v, σ'))) => some (.inl v, σ')
    | some (.inr (.inr (.inl (ν, as, pc', ls', st', σ')))) => (match xC1 ν as σ' with
      | none => none
      | some (.inl v, σ2) => xR μ pc' ls' (v.toList ++ st') σ2
      | some (.inr x, σ2) => (match xcat μ pc x ls' with
        | some (pc2, l2) => xR μ pc2 l2 [] σ2
        | none => none))
    | some (.inr (.inr (.inr (x, σ')))) => some (.inr x, σ') := by
  refine xR_ext fun o => ?_
  rw [xR_iff]
  constructor
  · rintro ⟨f, hf⟩
    cases f with
    | zero => cases hf
    | succ f =>
      unfold xrun at hf
      split at hf
      · cases hf
      · exact xR_iff.mpr ⟨f, hf⟩
      · exact hf
      · next ν as pc' ls' st' σ' e =>
        split at hf
        · cases hf
        · next v σ2 e2 =>
          have : xC1 ν as σ' = some (.inl v, σ2) := xR_iff.mpr ⟨f, e2⟩
          simp only [this]
          exact xR_iff.mpr ⟨f, hf⟩
        · next x σ2 e2 =>
          have : xC1 ν as σ' = some (.inr x, σ2) := xR_iff.mpr ⟨f, e2⟩
          simp only [this]
          split at hf
          · exact xR_iff.mpr ⟨f, hf⟩
          · cases hf
      · exact hf
  · intro h
    split at h
    · cases h
    · next e =>
      obtain ⟨f, hf⟩ := xR_iff.mp h
      refine ⟨f + 1, ?_⟩
      unfold xrun
      rw [e]
      exact hf
    · next e =>
      refine ⟨1, ?_⟩
      unfold xrun
      rw [e]
      exact h
    · next ν as pc' ls' st' σ' e =>
      split at h
      · cases h
      · next v σ2 e2 =>
        obtain ⟨g, hg⟩ := xR_iff.mp (show xR _ _ _ _ _ = _ from e2)
        obtain ⟨f, hf⟩ := xR_iff.mp h
        refine ⟨max f g + 1, ?_⟩
        unfold xrun
        rw [e]
        dsimp only
        rw [xrun_le (Nat.le_max_right f g) hg]
        exact xrun_le (Nat.le_max_left f g) hf
      · next x σ2 e2 =>
        obtain ⟨g, hg⟩ := xR_iff.mp (show xR _ _ _ _ _ = _ from e2)
        split at h
        · next pc2 l2 e3 =>
          obtain ⟨f, hf⟩ := xR_iff.mp h
          refine ⟨max f g + 1, ?_⟩
          unfold xrun
          rw [e]
          dsimp only
          rw [xrun_le (Nat.le_max_right f g) hg]
          dsimp only
          rw [e3]
          exact xrun_le (Nat.le_max_left f g) hf
        · cases h
    · next e =>
      refine ⟨1, ?_⟩
      unfold xrun
      rw [e]
      exact h
