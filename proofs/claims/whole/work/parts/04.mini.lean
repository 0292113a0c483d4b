/-! THE SMALL MACHINE: one frame's code over a heap of numbered cells; calls by depth. Cells: kind (an object's class number, or an array's type and length), fields and references F, int rows I, long rows L. -/
abbrev mm_Z : Type := Nat × Nat × (Nat → Nat ⊕ (Nat × Nat))
abbrev mm_H : Type := mm_Z × (Nat → Nat → Value) × (Nat → Nat → Int32) × (Nat → Nat → Int64)
abbrev mm_R : Type := Option (Option Value × mm_H)
/-- what one instruction does: goes on; calls; returns -/
abbrev mm_O : Type := (Nat × List Value × List Value × mm_H) ⊕ ((mm_M × List Value × List Value) ⊕ (Option Value × mm_H))
abbrev mm_Q : Type := Option mm_O
def mm_go (pc : Nat) (ls st : List Value) (H : mm_H) : mm_Q := some (.inl (pc, ls, st, H))
def mm_cal (C : mm_M) (As st : List Value) : mm_Q := some (.inr (.inl (C, As, st)))
abbrev mm_isO (H : mm_H) (r c : Nat) : Prop := H.1.2.2 r = .inl c ∧ r < H.1.1 ∧ 2 ≤ r
abbrev mm_isA (H : mm_H) (r t n : Nat) : Prop := H.1.2.2 r = .inr (t, n) ∧ r < H.1.1 ∧ 2 ≤ r
/-- a local that holds nothing -/
abbrev uu : Value := .float 0
def mm_up2 {α : Type} (f : Nat → Nat → α) (a b : Nat) (v : α) : Nat → Nat → α := fun x y => if x = a ∧ y = b then v else f x y
def mm_pF (H : mm_H) (r k : Nat) (v : Value) : mm_H := (H.1, mm_up2 H.2.1 r k v, H.2.2)
def mm_pI (H : mm_H) (r k : Nat) (v : Int32) : mm_H := (H.1, H.2.1, mm_up2 H.2.2.1 r k v, H.2.2.2)
def mm_pL (H : mm_H) (r k : Nat) (v : Int64) : mm_H := (H.1, H.2.1, H.2.2.1, mm_up2 H.2.2.2 r k v)
/-- a new object of class c -/
def mm_nO (H : mm_H) (c : Nat) : mm_H := ((H.1.1 + 1, H.1.2.1 + mm_nf c, va_up H.1.2.2 H.1.1 (.inl c)), va_up H.2.1 H.1.1 (fun j => defaultValue (mm_ty c j)), H.2.2)
/-- a new row of type t (0 int, 1 long, 2 boolean, 3 Sweep, 4 int[], 5 long[], 6 the script) -/
def mm_nA (H : mm_H) (t n : Nat) : mm_H := ((H.1.1 + 1, H.1.2.1 + n, va_up H.1.2.2 H.1.1 (.inr (t, n))), va_up H.2.1 H.1.1 (fun _ => .null), va_up H.2.2.1 H.1.1 (fun _ => 0), va_up H.2.2.2 H.1.1 (fun _ => 0))
/-- a new row of N rows of K places, the inner ones of type t -/
def mm_nM (H : mm_H) (t N K : Nat) : mm_H :=
  ((H.1.1 + 1 + N, H.1.2.1 + N + N * K, fun r => if r = H.1.1 then .inr (t + 4, N) else if H.1.1 < r ∧ r ≤ H.1.1 + N then .inr (t, K) else H.1.2.2 r),
   (fun r => if r = H.1.1 then (fun j => if j < N then .ref (H.1.1 + 1 + j) else .null) else H.2.1 r),
   (fun r => if H.1.1 < r ∧ r ≤ H.1.1 + N then (fun _ => 0) else H.2.2.1 r),
   (fun r => if H.1.1 < r ∧ r ≤ H.1.1 + N then (fun _ => 0) else H.2.2.2 r))
/-- a one-word store at i is allowed: no two-word local of this method begins at i - 1 -/
def mm_ok1 (M : mm_M) (i n : Nat) : Bool := decide (i < n) && M.2.2.2.2.2.2.2.all (fun j => !(j + 1 == i))
/-- a two-word store at i is allowed -/
def mm_ok2 (M : mm_M) (i n : Nat) : Bool := decide (i + 1 < n) && M.2.2.2.2.2.2.2.all (fun j => !(j + 1 == i)) && M.2.2.2.2.2.2.2.contains i
/-- the arguments' locals: a long takes two, and must be listed -/
def mm_sl (lg : List Nat) : Nat → List Value → Option (List Value)
  | _, [] => some []
  | i, .long x :: vs => if lg.contains i then (mm_sl lg (i + 2) vs).map (fun l => .long x :: uu :: l) else none
  | i, .int x :: vs => (mm_sl lg (i + 1) vs).map (fun l => .int x :: l)
  | i, .ref r :: vs => (mm_sl lg (i + 1) vs).map (fun l => .ref r :: l)
  | i, .null :: vs => (mm_sl lg (i + 1) vs).map (fun l => .null :: l)
  | _, _ :: _ => none
def mm_in (M : mm_M) (vs : List Value) : Option (List Value) := match mm_sl M.2.2.2.2.2.2.2 0 vs with
  | some l => if l.length ≤ M.2.2.2.1 then some (l ++ List.replicate (M.2.2.2.1 - l.length) uu) else none
  | none => none
def mm_cat (l : List Value) : Nat := (l.map fun v => v.category).sum
theorem mm_isO_def (H : mm_H) (r c : Nat) : mm_isO H r c = (H.1.2.2 r = .inl c ∧ r < H.1.1 ∧ 2 ≤ r) := rfl
def mm_ldI (ls st : List Value) (H : mm_H) (pc i : Nat) : mm_Q := match ls[i]? with
  | some (.int x) => mm_go pc ls (.int x :: st) H
  | _ => none
def mm_ldL (ls st : List Value) (H : mm_H) (pc i : Nat) : mm_Q := match ls[i]? with
  | some (.long x) => mm_go pc ls (.long x :: st) H
  | _ => none
def mm_ldA (ls st : List Value) (H : mm_H) (pc i : Nat) : mm_Q := match ls[i]? with
  | some (.ref x) => mm_go pc ls (.ref x :: st) H
  | some .null => mm_go pc ls (.null :: st) H
  | _ => none
def mm_stI (M : mm_M) (ls st : List Value) (H : mm_H) (pc i : Nat) : mm_Q := match st with
  | .int x :: st => if mm_ok1 M i ls.length then mm_go pc (ls.set i (.int x)) st H else none
  | _ => none
def mm_stA (M : mm_M) (ls st : List Value) (H : mm_H) (pc i : Nat) : mm_Q := match st with
  | .ref x :: st => if mm_ok1 M i ls.length then mm_go pc (ls.set i (.ref x)) st H else none
  | .null :: st => if mm_ok1 M i ls.length then mm_go pc (ls.set i .null) st H else none
  | _ => none
def mm_stL (M : mm_M) (ls st : List Value) (H : mm_H) (pc i : Nat) : mm_Q := match st with
  | .long x :: st => if mm_ok2 M i ls.length then mm_go pc ((ls.set i (.long x)).set (i + 1) uu) st H else none
  | _ => none
def mm_iinc (M : mm_M) (ls st : List Value) (H : mm_H) (pc i : Nat) (n : Int) : mm_Q := match ls[i]? with
  | some (.int x) => if mm_ok1 M i ls.length then mm_go pc (ls.set i (.int (x + Int32.ofInt n))) st H else none
  | _ => none
def mm_bI (f : Int32 → Int32 → Int32) (ls st : List Value) (H : mm_H) (pc : Nat) : mm_Q := match st with
  | .int y :: .int x :: st => mm_go (pc + 1) ls (.int (f x y) :: st) H
  | _ => none
def mm_dI (f : Int32 → Int32 → Int32) (ls st : List Value) (H : mm_H) (pc : Nat) : mm_Q := match st with
  | .int y :: .int x :: st => if y = 0 then none else mm_go (pc + 1) ls (.int (f x y) :: st) H
  | _ => none
def mm_bL (f : Int64 → Int64 → Int64) (ls st : List Value) (H : mm_H) (pc : Nat) : mm_Q := match st with
  | .long y :: .long x :: st => mm_go (pc + 1) ls (.long (f x y) :: st) H
  | _ => none
def mm_sL (f : Int64 → Int32 → Int64) (ls st : List Value) (H : mm_H) (pc : Nat) : mm_Q := match st with
  | .int y :: .long x :: st => mm_go (pc + 1) ls (.long (f x y) :: st) H
  | _ => none
def mm_jmp (pc : Nat) (off : Int) (ls st : List Value) (H : mm_H) : mm_Q := if 0 ≤ (pc : Int) + off then mm_go ((pc : Int) + off).toNat ls st H else none
def mm_j1 (P : Int32 → Prop) [∀ x, Decidable (P x)] (off : Int) (ls st : List Value) (H : mm_H) (pc : Nat) : mm_Q := match st with
  | .int x :: st => if P x then mm_jmp pc off ls st H else mm_go (pc + 3) ls st H
  | _ => none
def mm_j2 (P : Int32 → Int32 → Prop) [∀ x y, Decidable (P x y)] (off : Int) (ls st : List Value) (H : mm_H) (pc : Nat) : mm_Q := match st with
  | .int y :: .int x :: st => if P x y then mm_jmp pc off ls st H else mm_go (pc + 3) ls st H
  | _ => none
/-- an index inside -/
def mm_ix (i : Int32) (n : Nat) : Bool := !(decide (i < 0)) && decide (i.toNatClampNeg < n)
def mm_get (M : mm_M) (idx : Nat) (ls st : List Value) (H : mm_H) (pc : Nat) : mm_Q := match st with
  | .ref r :: st => match mm_find (mm_fls M.1) idx with
    | some (c, k) => if mm_isO H r c then mm_go (pc + 3) ls (H.2.1 r k :: st) H else none
    | none => none
  | _ => none
def mm_put (M : mm_M) (idx : Nat) (ls st : List Value) (H : mm_H) (pc : Nat) : mm_Q := match st with
  | v :: .ref r :: st => match mm_find (mm_fls M.1) idx with
    | some (c, k) => if mm_isO H r c ∧ fits (mm_ty c k) v = true ∧ ((mm_T c k).2.2.2 = false ∨ (M.2.2.2.2.2.2.1 = 2 ∧ M.1 = c)) then mm_go (pc + 3) ls st (mm_pF H r k v) else none
    | none => none
  | _ => none
def mm_iald (ls st : List Value) (H : mm_H) (pc : Nat) : mm_Q := match st with
  | .int i :: .ref r :: st => match H.1.2.2 r with
    | .inr (0, n) => if (mm_ix i n = true ∧ r < H.1.1 ∧ 2 ≤ r) then mm_go (pc + 1) ls (.int (H.2.2.1 r i.toNatClampNeg) :: st) H else none
    | .inr (6, n) => if (mm_ix i n = true ∧ r = 1) then mm_go (pc + 1) ls (.int (H.2.2.1 r i.toNatClampNeg) :: st) H else none
    | _ => none
  | _ => none
def mm_zald (ls st : List Value) (H : mm_H) (pc : Nat) : mm_Q := match st with
  | .int i :: .ref r :: st => match H.1.2.2 r with
    | .inr (2, n) => if (mm_ix i n = true ∧ r < H.1.1 ∧ 2 ≤ r) then mm_go (pc + 1) ls (.int (H.2.2.1 r i.toNatClampNeg) :: st) H else none
    | _ => none
  | _ => none
def mm_lald (ls st : List Value) (H : mm_H) (pc : Nat) : mm_Q := match st with
  | .int i :: .ref r :: st => match H.1.2.2 r with
    | .inr (1, n) => if (mm_ix i n = true ∧ r < H.1.1 ∧ 2 ≤ r) then mm_go (pc + 1) ls (.long (H.2.2.2 r i.toNatClampNeg) :: st) H else none
    | _ => none
  | _ => none
def mm_aald (ls st : List Value) (H : mm_H) (pc : Nat) : mm_Q := match st with
  | .int i :: .ref r :: st => match H.1.2.2 r with
    | .inr (t, n) => if (mm_ix i n = true ∧ r < H.1.1 ∧ 2 ≤ r) ∧ 3 ≤ t ∧ t ≤ 5 then (match H.2.1 r i.toNatClampNeg with
      | .ref q => mm_go (pc + 1) ls (.ref q :: st) H
      | .null => mm_go (pc + 1) ls (.null :: st) H
      | _ => none) else none
    | _ => none
  | _ => none
def mm_iast (ls st : List Value) (H : mm_H) (pc : Nat) : mm_Q := match st with
  | .int x :: .int i :: .ref r :: st => match H.1.2.2 r with
    | .inr (0, n) => if (mm_ix i n = true ∧ r < H.1.1 ∧ 2 ≤ r) then mm_go (pc + 1) ls st (mm_pI H r i.toNatClampNeg x) else none
    | _ => none
  | _ => none
def mm_zast (ls st : List Value) (H : mm_H) (pc : Nat) : mm_Q := match st with
  | .int x :: .int i :: .ref r :: st => match H.1.2.2 r with
    | .inr (2, n) => if (mm_ix i n = true ∧ r < H.1.1 ∧ 2 ≤ r) ∧ (x = 0 ∨ x = 1) then mm_go (pc + 1) ls st (mm_pI H r i.toNatClampNeg x) else none
    | _ => none
  | _ => none
def mm_last (ls st : List Value) (H : mm_H) (pc : Nat) : mm_Q := match st with
  | .long x :: .int i :: .ref r :: st => match H.1.2.2 r with
    | .inr (1, n) => if (mm_ix i n = true ∧ r < H.1.1 ∧ 2 ≤ r) then mm_go (pc + 1) ls st (mm_pL H r i.toNatClampNeg x) else none
    | _ => none
  | _ => none
/-- only into the row of Sweeps, only a Sweep -/
def mm_aast (ls st : List Value) (H : mm_H) (pc : Nat) : mm_Q := match st with
  | .ref q :: .int i :: .ref r :: st => match H.1.2.2 r with
    | .inr (3, n) => if (mm_ix i n = true ∧ r < H.1.1 ∧ 2 ≤ r) ∧ mm_isO H q 7 then mm_go (pc + 1) ls st (mm_pF H r i.toNatClampNeg (.ref q)) else none
    | _ => none
  | _ => none
def mm_alen (ls st : List Value) (H : mm_H) (pc : Nat) : mm_Q := match st with
  | .ref r :: st => match H.1.2.2 r with
    | .inr (t, n) => if ((t < 6 ∧ r < H.1.1 ∧ 2 ≤ r) ∨ (t = 6 ∧ r = 1)) then mm_go (pc + 1) ls (.int (Int32.ofNat n) :: st) H else none
    | _ => none
  | _ => none
/-- System.arraycopy between rows of ints -/
def mm_copy (ls st : List Value) (H : mm_H) (pc : Nat) : mm_Q := match st with
  | .int n :: .int dp :: .ref r :: .int sp :: .ref q :: st => match H.1.2.2 q, H.1.2.2 r with
    | .inr (0, n0), .inr (0, n1) => if ((0 ≤ sp ∧ 0 ≤ dp ∧ 0 ≤ n) ∧ sp.toNatClampNeg + n.toNatClampNeg ≤ n0 ∧ dp.toNatClampNeg + n.toNatClampNeg ≤ n1) ∧ (r < H.1.1 ∧ 2 ≤ r ∧ q < H.1.1 ∧ 2 ≤ q) ∧ mm_cat st ≤ 8 then mm_go (pc + 3) ls st (H.1, H.2.1, va_up H.2.2.1 r (va_cpy (H.2.2.1 q) (H.2.2.1 r) sp.toNatClampNeg dp.toNatClampNeg n.toNatClampNeg), H.2.2.2) else none
    | _, _ => none
  | _ => none
/-- the first n of the stack, turned about, and the rest -/
def mm_pop : Nat → List Value → List Value → Option (List Value × List Value)
  | 0, acc, st => some (acc, st)
  | n + 1, acc, v :: st => mm_pop n (v :: acc) st
  | _ + 1, _, [] => none
def mm_cv (M : mm_M) (idx : Nat) (ls st : List Value) (H : mm_H) (pc : Nat) : mm_Q := match mm_find (mm_lks M.1) idx with
  | some (0, C) => if C.2.2.2.2.2.2.1 = 0 ∨ C.2.2.2.2.2.2.1 = 3 then (match mm_pop C.2.2.2.2.2.1 [] st with
    | some (As, .ref r :: st) => if mm_isO H r C.1 ∧ mm_cat st ≤ 8 then mm_cal C (.ref r :: As) st else none
    | _ => none) else none
  | _ => none
def mm_cs (M : mm_M) (idx : Nat) (ls st : List Value) (H : mm_H) (pc : Nat) : mm_Q := if M.1 = 2 ∧ idx = 64 then mm_copy ls st H pc else match mm_find (mm_lks M.1) idx with
  | some (_, C) => if C.2.2.2.2.2.2.1 = 1 then (match mm_pop C.2.2.2.2.2.1 [] st with
    | some (As, st) => if mm_cat st ≤ 8 then mm_cal C As st else none
    | _ => none) else none
  | _ => none
/-- Object's own constructor is called by the constructors: by 1 in RoomsCaught and the reference, by 3 in the others -/
def mm_oi (c idx : Nat) : Bool := (decide (c = 10 ∨ c = 11) && decide (idx = 1)) || (decide (c < 10) && decide (idx = 3))
def mm_ci (M : mm_M) (idx : Nat) (ls st : List Value) (H : mm_H) (pc : Nat) : mm_Q := if mm_oi M.1 idx = true then (match st with
    | .ref r :: st => if mm_cat st ≤ 8 then mm_go (pc + 3) ls st H else none
    | _ => none) else match mm_find (mm_lks M.1) idx with
  | some (_, C) => if C.2.2.2.2.2.2.1 = 2 then (match mm_pop C.2.2.2.2.2.1 [] st with
    | some (As, .ref r :: st) => if mm_isO H r C.1 ∧ mm_cat st ≤ 8 then mm_cal C (.ref r :: As) st else none
    | _ => none) else none
  | _ => none
def mm_new (M : mm_M) (idx : Nat) (ls st : List Value) (H : mm_H) (pc : Nat) : mm_Q := match mm_find (mm_nws M.1) idx with
  | some c => mm_go (pc + 3) ls (.ref H.1.1 :: st) (mm_nO H c)
  | none => none
def mm_newa (t : Nat) (ls st : List Value) (H : mm_H) (pc : Nat) : mm_Q := match st with
  | .int n :: st => if 0 ≤ n ∧ n.toNatClampNeg ≤ 4096 then mm_go (pc + 2) ls (.ref H.1.1 :: st) (mm_nA H t n.toNatClampNeg) else none
  | _ => none
def mm_anew (M : mm_M) (idx : Nat) (ls st : List Value) (H : mm_H) (pc : Nat) : mm_Q := match st with
  | .int n :: st => if (0 ≤ n ∧ n.toNatClampNeg ≤ 4096) ∧ M.1 = 1 ∧ idx = 9 then mm_go (pc + 3) ls (.ref H.1.1 :: st) (mm_nA H 3 n.toNatClampNeg) else none
  | _ => none
def mm_mnew (M : mm_M) (idx dim : Nat) (ls st : List Value) (H : mm_H) (pc : Nat) : mm_Q := match st with
  | .int k :: .int n :: st => if ((0 ≤ n ∧ n.toNatClampNeg ≤ 4096) ∧ (0 ≤ k ∧ k.toNatClampNeg ≤ 4096)) ∧ dim = 2 then
      (if M.1 = 2 ∧ idx = 24 then mm_go (pc + 4) ls (.ref H.1.1 :: st) (mm_nM H 0 n.toNatClampNeg k.toNatClampNeg) else if M.1 = 0 ∧ idx = 9 then mm_go (pc + 4) ls (.ref H.1.1 :: st) (mm_nM H 1 n.toNatClampNeg k.toNatClampNeg) else none) else none
  | _ => none
def mm_tsw (d lo hi : Int) (offs : Array Int) (ls st : List Value) (H : mm_H) (pc : Nat) : mm_Q := match st with
  | .int x :: st => if x.toInt < lo ∨ hi < x.toInt then mm_jmp pc d ls st H else (match offs[(x.toInt - lo).toNat]? with
    | some off => mm_jmp pc off ls st H
    | none => none)
  | _ => none
def mm_lsw (d : Int) (ps : Array (Int × Int)) (ls st : List Value) (H : mm_H) (pc : Nat) : mm_Q := match st with
  | .int x :: st => if (ps.toList.zip (ps.toList.drop 1)).all (fun (a, next) => a.1 < next.1) = true then mm_jmp pc (Op.lookupswitch.offset ps.toList d x.toInt) ls st H else none
  | _ => none
def mm_iret (M : mm_M) (st : List Value) (H : mm_H) : mm_Q := match M.2.2.2.2.1, st with
  | some .int, [.int v] => some (.inr (.inr (some (.int v), H)))
  | some .boolean, [.int v] => if v = 0 ∨ v = 1 then some (.inr (.inr (some (.int v), H))) else none
  | _, _ => none
def mm_lret (M : mm_M) (st : List Value) (H : mm_H) : mm_Q := match M.2.2.2.2.1, st with
  | some .long, [.long v] => some (.inr (.inr (some (.long v), H)))
  | _, _ => none
def mm_aret (M : mm_M) (st : List Value) (H : mm_H) : mm_Q := match M.2.2.2.2.1, st with
  | some (.object _), [.ref v] => some (.inr (.inr (some (.ref v), H)))
  | some (.object _), [.null] => some (.inr (.inr (some .null, H)))
  | _, _ => none
def mm_vret (M : mm_M) (st : List Value) (H : mm_H) : mm_Q := match M.2.2.2.2.1, st with
  | none, [] => some (.inr (.inr (none, H)))
  | _, _ => none
def mm_len : Instr → Nat
  | .aload _ | .astore _ | .bipush _ | .iload _ | .istore _ | .lload _ | .lstore _ | .newarray _ | .ldc _ => 2
  | .sipush _ | .iinc _ _ | .goto _ | .if_icmp _ _ | .ifCond _ _ | .ifnull _ | .ifnonnull _ | .getfield _ | .putfield _ | .invokevirtual _ | .invokespecial _ | .invokestatic _ | .new _ | .anewarray _ | .ldc_w _ | .ldc2_w _ => 3
  | .multianewarray _ _ => 4
  | .tableswitch _ _ _ _ | .lookupswitch _ _ => 0
  | _ => 1
/-- one instruction -/
def mm_st (M : mm_M) (pc : Nat) (ls st : List Value) (H : mm_H) : Instr → mm_Q
  | .iconst n => mm_go (pc + 1) ls (.int (Int32.ofInt n) :: st) H
  | .bipush n => mm_go (pc + 2) ls (.int (Int8.ofInt n).toInt32 :: st) H
  | .sipush n => mm_go (pc + 3) ls (.int (Int16.ofInt n).toInt32 :: st) H
  | .lconst n => mm_go (pc + 1) ls (.long (Int64.ofNat n.val) :: st) H
  | .aconst_null => mm_go (pc + 1) ls (.null :: st) H
  | .ldc i => match mm_find (mm_cts M.1) i with
    | some v => mm_go (pc + 2) ls (.int v :: st) H
    | none => none
  | .ldc_w i => match mm_find (mm_cts M.1) i with
    | some v => mm_go (pc + 3) ls (.int v :: st) H
    | none => none
  | .ldc2_w i => match mm_find (mm_cls M.1) i with
    | some v => mm_go (pc + 3) ls (.long v :: st) H
    | none => none
  | .iload_n k => mm_ldI ls st H (pc + 1) k.val
  | .iload k => mm_ldI ls st H (pc + 2) k
  | .lload_n k => mm_ldL ls st H (pc + 1) k.val
  | .lload k => mm_ldL ls st H (pc + 2) k
  | .aload_n k => mm_ldA ls st H (pc + 1) k.val
  | .aload k => mm_ldA ls st H (pc + 2) k
  | .istore_n k => mm_stI M ls st H (pc + 1) k.val
  | .istore k => mm_stI M ls st H (pc + 2) k
  | .astore_n k => mm_stA M ls st H (pc + 1) k.val
  | .astore k => mm_stA M ls st H (pc + 2) k
  | .lstore_n k => mm_stL M ls st H (pc + 1) k.val
  | .lstore k => mm_stL M ls st H (pc + 2) k
  | .iinc i n => mm_iinc M ls st H (pc + 3) i n
  | .iadd => mm_bI (fun x y => x + y) ls st H pc
  | .isub => mm_bI (fun x y => x - y) ls st H pc
  | .imul => mm_bI (fun x y => x * y) ls st H pc
  | .iand => mm_bI (fun x y => x &&& y) ls st H pc
  | .ior => mm_bI (fun x y => x ||| y) ls st H pc
  | .ishl => mm_bI (fun x y => x <<< (y &&& 31)) ls st H pc
  | .ishr => mm_bI (fun x y => x >>> (y &&& 31)) ls st H pc
  | .iushr => mm_bI (fun x y => (x.toUInt32 >>> (y.toUInt32 &&& Int32.toUInt32 31)).toInt32) ls st H pc
  | .idiv => mm_dI (fun x y => x / y) ls st H pc
  | .irem => mm_dI (fun x y => x - x / y * y) ls st H pc
  | .ineg => match st with
    | .int x :: st => mm_go (pc + 1) ls (.int (-x) :: st) H
    | _ => none
  | .ladd => mm_bL (fun x y => x + y) ls st H pc
  | .lsub => mm_bL (fun x y => x - y) ls st H pc
  | .lmul => mm_bL (fun x y => x * y) ls st H pc
  | .land => mm_bL (fun x y => x &&& y) ls st H pc
  | .lor => mm_bL (fun x y => x ||| y) ls st H pc
  | .lxor => mm_bL (fun x y => x ^^^ y) ls st H pc
  | .lshl => mm_sL (fun x y => x <<< (y.toInt64 &&& 63)) ls st H pc
  | .lshr => mm_sL (fun x y => x >>> (y.toInt64 &&& 63)) ls st H pc
  | .lushr => mm_sL (fun x y => (x.toUInt64 >>> (y.toInt64.toUInt64 &&& Int64.toUInt64 63)).toInt64) ls st H pc
  | .lcmp => match st with
    | .long y :: .long x :: st => mm_go (pc + 1) ls (.int (lg_cmp x y) :: st) H
    | _ => none
  | .i2l => match st with
    | .int x :: st => mm_go (pc + 1) ls (.long x.toInt64 :: st) H
    | _ => none
  | .l2i => match st with
    | .long x :: st => mm_go (pc + 1) ls (.int x.toInt32 :: st) H
    | _ => none
  | .dup => match st with
    | .int x :: st => mm_go (pc + 1) ls (.int x :: .int x :: st) H
    | .ref x :: st => mm_go (pc + 1) ls (.ref x :: .ref x :: st) H
    | _ => none
  | .dup2 => match st with
    | .int x :: .ref y :: st => mm_go (pc + 1) ls (.int x :: .ref y :: .int x :: .ref y :: st) H
    | _ => none
  | .pop => match st with
    | .int _ :: st => mm_go (pc + 1) ls st H
    | _ => none
  | .goto off => mm_jmp pc off ls st H
  | .ifCond .eq off => mm_j1 (fun x => x = 0) off ls st H pc
  | .ifCond .ne off => mm_j1 (fun x => ¬ x = 0) off ls st H pc
  | .ifCond .lt off => mm_j1 (fun x => x < 0) off ls st H pc
  | .ifCond .ge off => mm_j1 (fun x => 0 ≤ x) off ls st H pc
  | .ifCond .gt off => mm_j1 (fun x => 0 < x) off ls st H pc
  | .ifCond .le off => mm_j1 (fun x => x ≤ 0) off ls st H pc
  | .if_icmp .eq off => mm_j2 (fun x y => x = y) off ls st H pc
  | .if_icmp .ne off => mm_j2 (fun x y => ¬ x = y) off ls st H pc
  | .if_icmp .lt off => mm_j2 (fun x y => x < y) off ls st H pc
  | .if_icmp .ge off => mm_j2 (fun x y => y ≤ x) off ls st H pc
  | .if_icmp .gt off => mm_j2 (fun x y => y < x) off ls st H pc
  | .if_icmp .le off => mm_j2 (fun x y => x ≤ y) off ls st H pc
  | .ifnull off => match st with
    | .null :: st => mm_jmp pc off ls st H
    | .ref _ :: st => mm_go (pc + 3) ls st H
    | _ => none
  | .ifnonnull off => match st with
    | .ref _ :: st => mm_jmp pc off ls st H
    | .null :: st => mm_go (pc + 3) ls st H
    | _ => none
  | .getfield i => mm_get M i ls st H pc
  | .putfield i => mm_put M i ls st H pc
  | .iaload => mm_iald ls st H pc
  | .baload => mm_zald ls st H pc
  | .laload => mm_lald ls st H pc
  | .aaload => mm_aald ls st H pc
  | .iastore => mm_iast ls st H pc
  | .bastore => mm_zast ls st H pc
  | .lastore => mm_last ls st H pc
  | .aastore => mm_aast ls st H pc
  | .arraylength => mm_alen ls st H pc
  | .invokevirtual i => mm_cv M i ls st H pc
  | .invokestatic i => mm_cs M i ls st H pc
  | .invokespecial i => mm_ci M i ls st H pc
  | .new i => mm_new M i ls st H pc
  | .newarray .int => mm_newa 0 ls st H pc
  | .newarray .long => mm_newa 1 ls st H pc
  | .newarray .boolean => mm_newa 2 ls st H pc
  | .anewarray i => mm_anew M i ls st H pc
  | .multianewarray i d => mm_mnew M i d ls st H pc
  | .tableswitch d lo hi offs => mm_tsw d lo hi offs ls st H pc
  | .lookupswitch d ps => mm_lsw d ps ls st H pc
  | .ireturn => mm_iret M st H
  | .lreturn => mm_lret M st H
  | .areturn => mm_aret M st H
  | .return_ => mm_vret M st H
  | _ => none
/-- wordKind, that reads texts: 0 for hit, 1 for empty, 2 for mark, -1 else; of the bytes from tokenBegin to tokenEnd -/
def mm_wd (f : Nat → Int32) (b n : Nat) : Int32 :=
  if n = 3 ∧ f b = 104 ∧ f (b + 1) = 105 ∧ f (b + 2) = 116 then 0
  else if n = 5 ∧ f b = 101 ∧ f (b + 1) = 109 ∧ f (b + 2) = 112 ∧ f (b + 3) = 116 ∧ f (b + 4) = 121 then 1
  else if n = 4 ∧ f b = 109 ∧ f (b + 1) = 97 ∧ f (b + 2) = 114 ∧ f (b + 3) = 107 then 2
  else -1
def mm_wk (vs : List Value) (H : mm_H) : mm_R := match vs with
  | [.ref r] => match H.2.1 r 0, H.2.1 r 2, H.2.1 r 3 with
    | .ref q, .int b, .int e => match H.1.2.2 q with
      | .inr (0, n) => if (0 ≤ b ∧ b ≤ e ∧ e.toNatClampNeg ≤ n) ∧ (q < H.1.1 ∧ 2 ≤ q) ∧ (H.1.2.2 r = .inl 8 ∧ r < H.1.1 ∧ 2 ≤ r) then some (some (.int (mm_wd (H.2.2.1 q) b.toNatClampNeg (e.toNatClampNeg - b.toNatClampNeg))), H) else none
      | _ => none
    | _, _, _ => none
  | _ => none
def mm_S (M : mm_M) (pc : Nat) (ls st : List Value) (H : mm_H) : mm_Q := match decode M.2.2.1 pc with
  | .ok (ins, len) => if mm_len ins = 0 ∨ len = mm_len ins then mm_st M pc ls st H ins else none
  | .error _ => none
/-- n instructions at most, calls d deep at most -/
def mm_run : Nat → Nat → mm_M → Nat → List Value → List Value → mm_H → mm_R
  | 0, _, _, _, _, _, _ => none
  | n + 1, d, M, pc, ls, st, H => match mm_S M pc ls st H with
    | none => none
    | some (.inl (pc, ls, st, H)) => mm_run n d M pc ls st H
    | some (.inr (.inr r)) => some r
    | some (.inr (.inl (C, As, st))) => match (if C.2.2.2.2.2.2.1 = 3 then mm_wk As H else match d, mm_in C As with
        | d + 1, some l => mm_run n d C 0 l [] H
        | _, _ => none) with
      | some (v, H) => mm_run n d M (pc + 3) ls (v.toList ++ st) H
      | none => none
