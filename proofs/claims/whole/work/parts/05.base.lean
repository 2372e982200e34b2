/-! THE ABSTRACT MACHINE (wip/gen/base.py): a frame's run over an abstract heap, as the least predicate closed under the steps; a method's run is a depth's. -/
abbrev zr_C : Type := (Nat × (Nat → Value)) ⊕ (Nat × Nat × (Nat → Value))
abbrev zr_H : Type := Nat → Option zr_C
abbrev zr_L : Type := List (Option Value)
abbrev zr_O : Type := Option Value ⊕ Nat
abbrev zr_K : Type := zr_O → zr_H → Prop
abbrev zr_F : Type := Nat → List Value → zr_H → zr_K → Prop
abbrev zr_P : Type := Nat → zr_L → List Value → zr_H → Nat → Nat → Prop
def zr_mb (i : Nat) : ByteArray := (zr_mm i).2.1
def zr_ml (i : Nat) : Nat := (zr_mm i).2.2.1
def zr_mr (i : Nat) : Option FieldType := (zr_mm i).2.2.2.1
def zr_mo (i : Nat) : Nat := (zr_mm i).2.2.2.2.1
def zr_na (i : Nat) : Nat := (zr_mm i).2.2.2.2.2.1
def zr_mc (i : Nat) : Nat := (zr_mm i).2.2.2.2.2.2.1.1
def zr_ms (i : Nat) : Nat := (zr_mm i).2.2.2.2.2.2.1.2
def zr_hh (i : Nat) : List (Nat × Nat × Nat × Nat) := (zr_mm i).2.2.2.2.2.2.2.1
def zr_ps (i : Nat) : List Nat := (zr_mm i).2.2.2.2.2.2.2.2
def zr_kd (i : Nat) : Nat := (zr_ps i).getD 0 9
def zr_fr (o x : Nat) : Option (Nat × Nat) := (zr_frT.find? fun e => e.1 == o && e.2.1 == x).map fun e => (e.2.2.1, e.2.2.2.1)
def zr_ir (o x : Nat) : Option (Nat × Nat) := (zr_irT.find? fun e => e.1 == o && e.2.1 == x).map fun e => (e.2.2.1, e.2.2.2.1)
def zr_nr (o x : Nat) : Option Nat := (zr_nrT.find? fun e => e.1 == o && e.2.1 == x).map fun e => e.2.2.1
def zr_cl (o x : Nat) : Option Int64 := (zr_clT.find? fun e => e.1 == o && e.2.1 == x).map fun e => e.2.2.1
def zr_sr (o x : Nat) : Option Nat := (zr_srT.find? fun e => e.1 == o && e.2.1 == x).map fun e => e.2.2.1
def zr_xr (o x y z k : Nat) : Option Nat := (zr_xrT.find? fun e => e.1 == o && e.2.1 == x && e.2.2.1 == y && e.2.2.2.1 == z && e.2.2.2.2.2.1 == k).map fun e => e.2.2.2.2.1
def zr_ck (o x : Nat) : Option Nat := (zr_ckT.find? fun e => e.1 == o && e.2.1 == x).map fun e => e.2.2.1
def zr_ft (ci k : Nat) : FieldType := if ci = 0 then tyX0 k else if ci = 1 then tyX1 k else if ci = 2 then tyX2 k else if ci = 4 then tyX4 k else if ci = 5 then tyX5 k else if ci = 6 then tyX6 k else tyX7 k
def zr_ff (ci k : Nat) : Bool := if ci = 0 then (TX0 k).2.2.2 else if ci = 1 then (TX1 k).2.2.2 else if ci = 2 then (TX2 k).2.2.2 else if ci = 4 then (TX4 k).2.2.2 else if ci = 5 then (TX5 k).2.2.2 else if ci = 6 then (TX6 k).2.2.2 else (TX7 k).2.2.2
def zr_fn (ci : Nat) : Nat := if ci = 0 then 3 else if ci = 1 then 10 else if ci = 2 then 6 else if ci = 4 then 3 else if ci = 5 then 14 else if ci = 6 then 7 else 24
/-- the kinds of arrays: 0 int, 1 long, 2 byte, 3 boolean, 4 double, 5 of games; 20 int, 22 byte: not written -/
def zr_at (t : Nat) : FieldType := if t = 0 then .int else if t = 20 then .int else if t = 1 then .long else if t = 2 then .byte else if t = 22 then .byte else if t = 3 then .boolean else if t = 4 then .double else .object "RingStones$Game"
def zr_nt : ArrayType → Nat | .int => 0 | .long => 1 | .byte => 2 | .boolean => 3 | .double => 4 | _ => 9
def zr_isO (c : Option zr_C) (ci : Nat) : Bool := match c with | some (.inl (k, _)) => k == ci | _ => false
def zr_fld (c : Option zr_C) (k : Nat) : Value := match c with | some (.inl (_, V)) => V k | _ => .null
def zr_isA (c : Option zr_C) (t : Nat) : Bool := match c with | some (.inr (k, _, _)) => k == t | _ => false
def zr_len (c : Option zr_C) : Nat := match c with | some (.inr (_, n, _)) => n | _ => 0
def zr_elt (c : Option zr_C) (i : Nat) : Value := match c with | some (.inr (_, _, f)) => f i | _ => .null
def zr_fup (f : Nat → Value) (k : Nat) (v : Value) : Nat → Value := fun j => if j = k then v else f j
def zr_up (h : zr_H) (q : Nat) (c : zr_C) : zr_H := fun j => if j = q then some c else h j
def zr_putO (h : zr_H) (q k : Nat) (v : Value) : zr_H := match h q with | some (.inl (ci, V)) => zr_up h q (.inl (ci, zr_fup V k v)) | _ => h
def zr_putA (h : zr_H) (q i : Nat) (v : Value) : zr_H := match h q with | some (.inr (t, n, f)) => zr_up h q (.inr (t, n, zr_fup f i v)) | _ => h
def zr_dfl (ci : Nat) : zr_C := .inl (ci, fun k => defaultValue (zr_ft ci k))
def zr_kill (o : Option Value) : Option Value := match o with | some (.long _) => none | some (.double _) => none | o => o
def zr_s1 : zr_L → Nat → Value → zr_L
  | [], _, _ => []
  | _ :: l, 0, v => some v :: l
  | o :: l, n + 1, v => (if n = 0 then zr_kill o else o) :: zr_s1 l n v
def zr_s2 : zr_L → Nat → Value → zr_L
  | [], _, _ => []
  | _ :: [], 0, _ => [none]
  | _ :: _ :: l, 0, v => some v :: none :: l
  | o :: l, n + 1, v => (if n = 0 then zr_kill o else o) :: zr_s2 l n v
def zr_l0 : List Value → zr_L
  | [] => []
  | v :: r => if v.category = 2 then some v :: none :: zr_l0 r else some v :: zr_l0 r
def zr_lx (n : Nat) (as : List Value) : zr_L := zr_l0 as ++ List.replicate (n - (zr_l0 as).length) none
def zr_cat (st : List Value) : Nat := (st.map fun v => v.category).sum
def zr_okF (ty : FieldType) (v : Value) : Prop := narrow ty v = v ∧ fits ty v = true
def zr_okR (r : Option FieldType) (x : Int32) : Prop := ∃ ty, r = some ty ∧ narrow ty (.int x) = .int x
/-- which handler takes an exception of the class number E, thrown by the call at pc -/
def zr_hd (o : Nat) (hh : List (Nat × Nat × Nat × Nat)) (pc E : Nat) : Option Nat := match hh with
  | [] => none
  | (a, b, t, ct) :: r => if a ≤ pc ∧ pc < b then (if zr_ck o ct = some E then some t else zr_hd o r pc E) else zr_hd o r pc E
def zr_kt (mn : Nat) (Q : zr_K) (P : zr_P) (pc : Nat) (l : zr_L) (r : List Value) (kc ks mno : Nat) : zr_K := fun o h' => match o with
  | .inl v => P (pc + 3) l (v.toList ++ r) h' (kc - zr_mc mno) (ks - zr_ms mno)
  | .inr E => match zr_hd (zr_mo mn) (zr_hh mn) pc E with
    | some t => ∀ q : Nat, P t l [.ref q] h' (kc - zr_mc mno) (ks - zr_ms mno)
    | none => Q (.inr E) h'
def zr_kn (Q : zr_K) (P : zr_P) (pc : Nat) (l : zr_L) (r : List Value) (kc ks mno : Nat) : zr_K := fun o h' => match o with
  | .inl v => P (pc + 3) l (v.toList ++ r) h' (kc - zr_mc mno) (ks - zr_ms mno)
  | .inr _ => False
/-- a string's cells: the object and its bytes -/
def zr_chr (tx : String) (j : Nat) : Value := .int ((tx.toList.getD j ' ').toNat).toInt32
def zr_str (h : zr_H) (q : Nat) (tx : String) : Prop := ∃ (a : Nat) (V : Nat → Value) (f : Nat → Value), h q = some (.inl (8, V)) ∧ V 0 = .ref a ∧ V 1 = .int 0 ∧ h a = some (.inr (22, tx.length, f)) ∧ ∀ j, j < tx.length → f j = zr_chr tx j
/-- what an instruction does to the operand stack alone -/
def zr_sop (i : Instr) (n : Nat) (st : List Value) : Option (List Value) :=
  match i, n, st with
  | .iconst k, 1, st => some (.int (Int32.ofInt k) :: st)
  | .bipush k, 2, st => some (.int (Int8.ofInt k).toInt32 :: st)
  | .sipush k, 3, st => some (.int (Int16.ofInt k).toInt32 :: st)
  | .lconst k, 1, st => some (.long (Int64.ofNat (k : Nat)) :: st)
  | .iadd, 1, .int y :: .int x :: r => some (.int (x + y) :: r)
  | .isub, 1, .int y :: .int x :: r => some (.int (x - y) :: r)
  | .imul, 1, .int y :: .int x :: r => some (.int (x * y) :: r)
  | .iand, 1, .int y :: .int x :: r => some (.int (x &&& y) :: r)
  | .ior, 1, .int y :: .int x :: r => some (.int (x ||| y) :: r)
  | .ishl, 1, .int y :: .int x :: r => some (.int (x <<< (y &&& 31)) :: r)
  | .ishr, 1, .int y :: .int x :: r => some (.int (x >>> (y &&& 31)) :: r)
  | .iushr, 1, .int y :: .int x :: r => some (.int (x.toUInt32 >>> (y.toUInt32 &&& Int32.toUInt32 31)).toInt32 :: r)
  | .ladd, 1, .long y :: .long x :: r => some (.long (x + y) :: r)
  | .lsub, 1, .long y :: .long x :: r => some (.long (x - y) :: r)
  | .lmul, 1, .long y :: .long x :: r => some (.long (x * y) :: r)
  | .land, 1, .long y :: .long x :: r => some (.long (x &&& y) :: r)
  | .lor, 1, .long y :: .long x :: r => some (.long (x ||| y) :: r)
  | .lxor, 1, .long y :: .long x :: r => some (.long (x ^^^ y) :: r)
  | .lneg, 1, .long x :: r => some (.long (-x) :: r)
  | .lshl, 1, .int y :: .long x :: r => some (.long (x <<< (y.toInt64 &&& 63)) :: r)
  | .lushr, 1, .int y :: .long x :: r => some (.long (x.toUInt64 >>> (y.toInt64.toUInt64 &&& Int64.toUInt64 63)).toInt64 :: r)
  | .i2l, 1, .int x :: r => some (.long x.toInt64 :: r)
  | .l2i, 1, .long x :: r => some (.int x.toInt32 :: r)
  | .i2b, 1, .int x :: r => some (.int x.toInt8.toInt32 :: r)
  | .i2c, 1, .int x :: r => some (.int (x.toUInt32 % 65536).toInt32 :: r)
  | .lcmp, 1, .long y :: .long x :: r => some (.int (lg_cmp x y) :: r)
  | .i2f, 1, .int x :: r => some (.float (FP.i2f x) :: r)
  | .fcmp op, 1, .float y :: .float x :: r => some (.int (Op.cmpValue (FP.fcmp x y) op) :: r)
  | .dcmp op, 1, .double y :: .double x :: r => some (.int (Op.cmpValue (FP.dcmp x y) op) :: r)
  | .fconst 0, 1, st => some (.float FP.fconst0 :: st)
  | .dup, 1, v :: r => if v.category = 1 then some (v :: v :: r) else none
  | .pop, 1, v :: r => if v.category = 1 then some r else none
  | .dup2, 1, v :: w :: r => if v.category = 2 then some (v :: v :: w :: r) else if v.category = 1 ∧ w.category = 1 then some (v :: w :: v :: w :: r) else none
  | _, _, _ => none
/-- the other instructions -/
def zr_st2 (C : zr_F) (mn : Nat) (Q : zr_K) (P : zr_P) (pc : Nat) (l : zr_L) (st : List Value) (h : zr_H) (kc ks : Nat) (i : Instr) (n : Nat) : Prop :=
  match i, n with
  | .iload_n k, 1 => ∃ x : Int32, l[(k : Nat)]? = some (some (.int x)) ∧ P (pc + 1) l (.int x :: st) h kc ks
  | .iload i, 2 => ∃ x : Int32, l[i]? = some (some (.int x)) ∧ P (pc + 2) l (.int x :: st) h kc ks
  | .lload_n k, 1 => ∃ x : Int64, l[(k : Nat)]? = some (some (.long x)) ∧ P (pc + 1) l (.long x :: st) h kc ks
  | .lload i, 2 => ∃ x : Int64, l[i]? = some (some (.long x)) ∧ P (pc + 2) l (.long x :: st) h kc ks
  | .fload i, 2 => ∃ x : UInt32, l[i]? = some (some (.float x)) ∧ P (pc + 2) l (.float x :: st) h kc ks
  | .aload_n k, 1 => ∃ v : Option Nat, l[(k : Nat)]? = some (some (va_rf v)) ∧ P (pc + 1) l (va_rf v :: st) h kc ks
  | .aload i, 2 => ∃ v : Option Nat, l[i]? = some (some (va_rf v)) ∧ P (pc + 2) l (va_rf v :: st) h kc ks
  | .astore_n k, 1 => ∃ (v : Option Nat) (r : List Value), st = va_rf v :: r ∧ (k : Nat) < l.length ∧ P (pc + 1) (zr_s1 l (k : Nat) (va_rf v)) r h kc ks
  | .astore i, 2 => ∃ (v : Option Nat) (r : List Value), st = va_rf v :: r ∧ i < l.length ∧ P (pc + 2) (zr_s1 l i (va_rf v)) r h kc ks
  | .istore_n k, 1 => ∃ (x : Int32) (r : List Value), st = .int x :: r ∧ (k : Nat) < l.length ∧ P (pc + 1) (zr_s1 l (k : Nat) (.int x)) r h kc ks
  | .istore i, 2 => ∃ (x : Int32) (r : List Value), st = .int x :: r ∧ i < l.length ∧ P (pc + 2) (zr_s1 l i (.int x)) r h kc ks
  | .lstore_n k, 1 => ∃ (x : Int64) (r : List Value), st = .long x :: r ∧ (k : Nat) + 1 < l.length ∧ P (pc + 1) (zr_s2 l (k : Nat) (.long x)) r h kc ks
  | .lstore i, 2 => ∃ (x : Int64) (r : List Value), st = .long x :: r ∧ i + 1 < l.length ∧ P (pc + 2) (zr_s2 l i (.long x)) r h kc ks
  | .fstore i, 2 => ∃ (x : UInt32) (r : List Value), st = .float x :: r ∧ i < l.length ∧ P (pc + 2) (zr_s1 l i (.float x)) r h kc ks
  | .iinc i d, 3 => ∃ x : Int32, l[i]? = some (some (.int x)) ∧ P (pc + 3) (zr_s1 l i (.int (x + Int32.ofInt d))) st h kc ks
  | .ldc2_w x, 3 => ∃ v, zr_cl (zr_mo mn) x = some v ∧ P (pc + 3) l (.long v :: st) h kc ks
  | .ldc x, 2 => ∃ k, zr_sr (zr_mo mn) x = some k ∧ ∀ q : Nat, zr_str h q (zr_txt.getD k "") → P (pc + 2) l (.ref q :: st) h kc ks
  | .ifCond .eq off, 3 => ∃ (x : Int32) (r : List Value) (t : Nat), st = .int x :: r ∧ (pc : Int) + off = (t : Int) ∧ (x = 0 → P t l r h kc ks) ∧ (¬ x = 0 → P (pc + 3) l r h kc ks)
  | .ifCond .ne off, 3 => ∃ (x : Int32) (r : List Value) (t : Nat), st = .int x :: r ∧ (pc : Int) + off = (t : Int) ∧ (¬ x = 0 → P t l r h kc ks) ∧ (x = 0 → P (pc + 3) l r h kc ks)
  | .ifCond .lt off, 3 => ∃ (x : Int32) (r : List Value) (t : Nat), st = .int x :: r ∧ (pc : Int) + off = (t : Int) ∧ (x < 0 → P t l r h kc ks) ∧ (¬ x < 0 → P (pc + 3) l r h kc ks)
  | .ifCond .ge off, 3 => ∃ (x : Int32) (r : List Value) (t : Nat), st = .int x :: r ∧ (pc : Int) + off = (t : Int) ∧ (0 ≤ x → P t l r h kc ks) ∧ (¬ 0 ≤ x → P (pc + 3) l r h kc ks)
  | .ifCond .gt off, 3 => ∃ (x : Int32) (r : List Value) (t : Nat), st = .int x :: r ∧ (pc : Int) + off = (t : Int) ∧ (0 < x → P t l r h kc ks) ∧ (¬ 0 < x → P (pc + 3) l r h kc ks)
  | .ifCond .le off, 3 => ∃ (x : Int32) (r : List Value) (t : Nat), st = .int x :: r ∧ (pc : Int) + off = (t : Int) ∧ (x ≤ 0 → P t l r h kc ks) ∧ (¬ x ≤ 0 → P (pc + 3) l r h kc ks)
  | .if_icmp .eq off, 3 => ∃ (x y : Int32) (r : List Value) (t : Nat), st = .int y :: .int x :: r ∧ (pc : Int) + off = (t : Int) ∧ (x = y → P t l r h kc ks) ∧ (¬ x = y → P (pc + 3) l r h kc ks)
  | .if_icmp .ne off, 3 => ∃ (x y : Int32) (r : List Value) (t : Nat), st = .int y :: .int x :: r ∧ (pc : Int) + off = (t : Int) ∧ (¬ x = y → P t l r h kc ks) ∧ (x = y → P (pc + 3) l r h kc ks)
  | .if_icmp .lt off, 3 => ∃ (x y : Int32) (r : List Value) (t : Nat), st = .int y :: .int x :: r ∧ (pc : Int) + off = (t : Int) ∧ (x < y → P t l r h kc ks) ∧ (¬ x < y → P (pc + 3) l r h kc ks)
  | .if_icmp .ge off, 3 => ∃ (x y : Int32) (r : List Value) (t : Nat), st = .int y :: .int x :: r ∧ (pc : Int) + off = (t : Int) ∧ (y ≤ x → P t l r h kc ks) ∧ (¬ y ≤ x → P (pc + 3) l r h kc ks)
  | .if_icmp .gt off, 3 => ∃ (x y : Int32) (r : List Value) (t : Nat), st = .int y :: .int x :: r ∧ (pc : Int) + off = (t : Int) ∧ (y < x → P t l r h kc ks) ∧ (¬ y < x → P (pc + 3) l r h kc ks)
  | .if_icmp .le off, 3 => ∃ (x y : Int32) (r : List Value) (t : Nat), st = .int y :: .int x :: r ∧ (pc : Int) + off = (t : Int) ∧ (x ≤ y → P t l r h kc ks) ∧ (¬ x ≤ y → P (pc + 3) l r h kc ks)
  | .goto off, 3 => ∃ t : Nat, (pc : Int) + off = (t : Int) ∧ P t l st h kc ks
  | .ifnull off, 3 => ∃ (r : List Value) (t : Nat), (pc : Int) + off = (t : Int) ∧ ((st = .null :: r ∧ P t l r h kc ks) ∨ (∃ q, st = .ref q :: r ∧ P (pc + 3) l r h kc ks))
  | .ifnonnull off, 3 => ∃ (r : List Value) (t : Nat), (pc : Int) + off = (t : Int) ∧ ((st = .null :: r ∧ P (pc + 3) l r h kc ks) ∨ (∃ q, st = .ref q :: r ∧ P t l r h kc ks))
  | .tableswitch d lo hi offs, n => ∃ (x : Int32) (r : List Value) (t : Nat), st = .int x :: r ∧ (pc : Int) + (if x.toInt < lo ∨ hi < x.toInt then d else (offs[(x.toInt - lo).toNat]?).getD 0) = (t : Int) ∧ (¬ (x.toInt < lo ∨ hi < x.toInt) → (offs[(x.toInt - lo).toNat]?).isSome = true) ∧ P t l r h kc ks
  | .lookupswitch d qs, n => ∃ (x : Int32) (r : List Value) (t : Nat), st = .int x :: r ∧ (qs.toList.zip (qs.toList.drop 1)).all (fun (a, next) => a.1 < next.1) = true ∧ (pc : Int) + Op.lookupswitch.offset qs.toList d x.toInt = (t : Int) ∧ P t l r h kc ks
  | .idiv, 1 => ∃ (x y : Int32) (r : List Value), st = .int y :: .int x :: r ∧ ¬ y = 0 ∧ P (pc + 1) l (.int (x / y) :: r) h kc ks
  | .irem, 1 => ∃ (x y : Int32) (r : List Value), st = .int y :: .int x :: r ∧ ¬ y = 0 ∧ P (pc + 1) l (.int (x - x / y * y) :: r) h kc ks
  | .fdiv, 1 => ∃ (x y : UInt32) (r : List Value), st = .float y :: .float x :: r ∧ vf_n32 (FP.fdiv x y) ∧ P (pc + 1) l (.float (FP.fdiv x y) :: r) h kc ks
  | .f2d, 1 => ∃ (x : UInt32) (r : List Value), st = .float x :: r ∧ vf_n64 (FP.f2d x) ∧ P (pc + 1) l (.double (FP.f2d x) :: r) h kc ks
  | .getfield x, 3 => ∃ (q : Nat) (r : List Value) (ci k : Nat), st = .ref q :: r ∧ zr_fr (zr_mo mn) x = some (ci, k) ∧ zr_isO (h q) ci = true ∧ P (pc + 3) l (zr_fld (h q) k :: r) h kc ks
  | .putfield x, 3 => ∃ (q : Nat) (r : List Value) (ci k : Nat) (v : Value), st = v :: .ref q :: r ∧ zr_fr (zr_mo mn) x = some (ci, k) ∧ ci < 8 ∧ zr_isO (h q) ci = true ∧ zr_okF (zr_ft ci k) v ∧ (zr_ff ci k = true → zr_kd mn = 2 ∧ zr_mo mn = ci) ∧ P (pc + 3) l r (zr_putO h q k v) kc ks
  | .getstatic x, 3 => (zr_mo mn = 8 ∧ x = 38 ∧ P (pc + 3) l (.int 1 :: st) h kc ks) ∨ (zr_mo mn = 8 ∧ x = 1053 ∧ ∀ v : Option Nat, P (pc + 3) l (va_rf v :: st) h kc ks)
  | .arraylength, 1 => ∃ (q : Nat) (r : List Value) (t : Nat), st = .ref q :: r ∧ zr_isA (h q) t = true ∧ P (pc + 1) l (.int (nI (zr_len (h q))) :: r) h kc ks
  | .iaload, 1 => ∃ (q : Nat) (i : Int32) (r : List Value) (t : Nat), st = .int i :: .ref q :: r ∧ (t = 0 ∨ t = 20) ∧ zr_isA (h q) t = true ∧ vp_in i (zr_len (h q)) ∧ P (pc + 1) l (zr_elt (h q) i.toNatClampNeg :: r) h kc ks
  | .laload, 1 => ∃ (q : Nat) (i : Int32) (r : List Value) (t : Nat), st = .int i :: .ref q :: r ∧ (t = 1) ∧ zr_isA (h q) t = true ∧ vp_in i (zr_len (h q)) ∧ P (pc + 1) l (zr_elt (h q) i.toNatClampNeg :: r) h kc ks
  | .baload, 1 => ∃ (q : Nat) (i : Int32) (r : List Value) (t : Nat), st = .int i :: .ref q :: r ∧ (t = 2 ∨ t = 3 ∨ t = 22) ∧ zr_isA (h q) t = true ∧ vp_in i (zr_len (h q)) ∧ P (pc + 1) l (zr_elt (h q) i.toNatClampNeg :: r) h kc ks
  | .daload, 1 => ∃ (q : Nat) (i : Int32) (r : List Value) (t : Nat), st = .int i :: .ref q :: r ∧ (t = 4) ∧ zr_isA (h q) t = true ∧ vp_in i (zr_len (h q)) ∧ P (pc + 1) l (zr_elt (h q) i.toNatClampNeg :: r) h kc ks
  | .aaload, 1 => ∃ (q : Nat) (i : Int32) (r : List Value) (t : Nat), st = .int i :: .ref q :: r ∧ (t = 5) ∧ zr_isA (h q) t = true ∧ vp_in i (zr_len (h q)) ∧ P (pc + 1) l (zr_elt (h q) i.toNatClampNeg :: r) h kc ks
  | .iastore, 1 => ∃ (q : Nat) (i : Int32) (r : List Value) (x : Int32), st = .int x :: .int i :: .ref q :: r ∧ zr_isA (h q) 0 = true ∧ vp_in i (zr_len (h q)) ∧ P (pc + 1) l r (zr_putA h q i.toNatClampNeg (.int x)) kc ks
  | .lastore, 1 => ∃ (q : Nat) (i : Int32) (r : List Value) (x : Int64), st = .long x :: .int i :: .ref q :: r ∧ zr_isA (h q) 1 = true ∧ vp_in i (zr_len (h q)) ∧ P (pc + 1) l r (zr_putA h q i.toNatClampNeg (.long x)) kc ks
  | .dastore, 1 => ∃ (q : Nat) (i : Int32) (r : List Value) (x : UInt64), st = .double x :: .int i :: .ref q :: r ∧ zr_isA (h q) 4 = true ∧ vp_in i (zr_len (h q)) ∧ P (pc + 1) l r (zr_putA h q i.toNatClampNeg (.double x)) kc ks
  | .bastore, 1 => ∃ (q : Nat) (i : Int32) (r : List Value) (x : Int32) (t : Nat), st = .int x :: .int i :: .ref q :: r ∧ (t = 2 ∨ t = 3) ∧ zr_isA (h q) t = true ∧ vp_in i (zr_len (h q)) ∧ P (pc + 1) l r (zr_putA h q i.toNatClampNeg (narrow (zr_at t) (.int x))) kc ks
  | .aastore, 1 => ∃ (q : Nat) (i : Int32) (r : List Value) (x : Nat), st = .ref x :: .int i :: .ref q :: r ∧ zr_isA (h q) 5 = true ∧ zr_isO (h x) 1 = true ∧ vp_in i (zr_len (h q)) ∧ P (pc + 1) l r (zr_putA h q i.toNatClampNeg (.ref x)) kc ks
  | .new x, 3 => (∃ ci, zr_nr (zr_mo mn) x = some ci ∧ 1 ≤ kc ∧ zr_fn ci ≤ ks ∧ ∀ q : Nat, h q = none → P (pc + 3) l (.ref q :: st) (zr_up h q (zr_dfl ci)) (kc - 1) (ks - zr_fn ci)) ∨ (∃ (y z : Nat) (E : Nat), decode (zr_mb mn) (pc + 3) = .ok (.dup, 1) ∧ decode (zr_mb mn) (pc + 4) = .ok (.ldc y, 2) ∧ decode (zr_mb mn) (pc + 6) = .ok (.invokespecial z, 3) ∧ decode (zr_mb mn) (pc + 9) = .ok (.athrow, 1) ∧ zr_xr (zr_mo mn) x y z 0 = some E ∧ zr_hh mn = [] ∧ 1 ≤ kc ∧ 6 ≤ ks ∧ zr_cat st ≤ 8 ∧ Q (.inr E) h) ∨ (∃ (y z : Nat) (E : Nat), decode (zr_mb mn) (pc + 3) = .ok (.dup, 1) ∧ decode (zr_mb mn) (pc + 4) = .ok (.ldc_w y, 3) ∧ decode (zr_mb mn) (pc + 7) = .ok (.invokespecial z, 3) ∧ decode (zr_mb mn) (pc + 10) = .ok (.athrow, 1) ∧ zr_xr (zr_mo mn) x y z 1 = some E ∧ zr_hh mn = [] ∧ 1 ≤ kc ∧ 6 ≤ ks ∧ zr_cat st ≤ 8 ∧ Q (.inr E) h)
  | .newarray a, 2 => ∃ (m : Int32) (r : List Value), st = .int m :: r ∧ zr_nt a < 5 ∧ ¬ m < 0 ∧ m.toNatClampNeg * 8 ≤ 536870912 ∧ 1 ≤ kc ∧ m.toNatClampNeg ≤ ks ∧ ∀ q : Nat, h q = none → P (pc + 2) l (.ref q :: r) (zr_up h q (.inr (zr_nt a, m.toNatClampNeg, fun _ => defaultValue (zr_at (zr_nt a))))) (kc - 1) (ks - m.toNatClampNeg)
  | .anewarray x, 3 => ∃ (m : Int32) (r : List Value), st = .int m :: r ∧ zr_nr (zr_mo mn) x = some 1 ∧ ¬ m < 0 ∧ m.toNatClampNeg * 8 ≤ 536870912 ∧ 1 ≤ kc ∧ m.toNatClampNeg ≤ ks ∧ ∀ q : Nat, h q = none → P (pc + 3) l (.ref q :: r) (zr_up h q (.inr (5, m.toNatClampNeg, fun _ => .null))) (kc - 1) (ks - m.toNatClampNeg)
  | .invokevirtual x, 3 => ∃ (mno : Nat) (As : List Value) (q : Nat) (r : List Value), zr_ir (zr_mo mn) x = some (0, mno) ∧ st = As.reverse ++ .ref q :: r ∧ As.length = zr_na mno ∧ zr_isO (h q) (zr_mo mno) = true ∧ zr_cat r ≤ 8 ∧ zr_mc mno ≤ kc ∧ zr_ms mno ≤ ks ∧ (zr_l0 (.ref q :: As)).length ≤ zr_ml mno ∧ C mno (.ref q :: As) h (zr_kt mn Q P pc l r kc ks mno)
  | .invokestatic x, 3 => (∃ (mno : Nat) (As r : List Value), zr_ir (zr_mo mn) x = some (1, mno) ∧ st = As.reverse ++ r ∧ As.length = zr_na mno ∧ zr_cat r ≤ 8 ∧ zr_mc mno ≤ kc ∧ zr_ms mno ≤ ks ∧ (zr_l0 (As)).length ≤ zr_ml mno ∧ C mno As h (zr_kt mn Q P pc l r kc ks mno)) ∨ (∃ (mno : Nat) (As r : List Value), zr_ir (zr_mo mn) x = some (5, mno) ∧ st = As.reverse ++ r ∧ As.length = zr_na mno ∧ zr_cat r ≤ 8 ∧ zr_mc mno ≤ kc ∧ zr_ms mno ≤ ks ∧ (zr_l0 (As)).length ≤ zr_ml mno ∧ C mno As h (zr_kn Q P pc l r kc ks mno)) ∨ (∃ (x1 y1 : Int32) (r : List Value), zr_ir (zr_mo mn) x = some (4, 0) ∧ st = .int y1 :: .int x1 :: r ∧ zr_cat r ≤ 8 ∧ P (pc + 3) l (.int (if y1 < x1 then y1 else x1) :: r) h kc ks)
  | .invokespecial x, 3 => (∃ (q : Nat) (r : List Value), zr_ir (zr_mo mn) x = some (3, 0) ∧ st = .ref q :: r ∧ zr_cat r ≤ 8 ∧ P (pc + 3) l r h kc ks) ∨ (∃ (mno : Nat) (As : List Value) (q : Nat) (r : List Value), zr_ir (zr_mo mn) x = some (2, mno) ∧ st = As.reverse ++ .ref q :: r ∧ As.length = zr_na mno ∧ zr_cat r ≤ 8 ∧ zr_mc mno ≤ kc ∧ zr_ms mno ≤ ks ∧ (zr_l0 (.ref q :: As)).length ≤ zr_ml mno ∧ C mno (.ref q :: As) h (zr_kn Q P pc l r kc ks mno))
  | .ireturn, 1 => ∃ x : Int32, st = [.int x] ∧ zr_okR (zr_mr mn) x ∧ Q (.inl (some (.int x))) h
  | .lreturn, 1 => ∃ x : Int64, st = [.long x] ∧ zr_mr mn = some .long ∧ Q (.inl (some (.long x))) h
  | .freturn, 1 => ∃ x : UInt32, st = [.float x] ∧ zr_mr mn = some .float ∧ Q (.inl (some (.float x))) h
  | .return_, 1 => st = [] ∧ zr_mr mn = none ∧ Q (.inl none) h
  | _, _ => False
def zr_stp (C : zr_F) (mn : Nat) (Q : zr_K) (P : zr_P) (pc : Nat) (l : zr_L) (st : List Value) (h : zr_H) (kc ks : Nat) : Prop :=
  ∃ (i : Instr) (n : Nat), decode (zr_mb mn) pc = .ok (i, n) ∧ ((∃ st', zr_sop i n st = some st' ∧ P (pc + n) l st' h kc ks) ∨ zr_st2 C mn Q P pc l st h kc ks i n)
/-- the run of a frame: the least predicate closed under the steps -/
def zr_R (C : zr_F) (mn : Nat) (Q : zr_K) : zr_P := fun pc l st h kc ks => ∀ P : zr_P, (∀ pc l st h kc ks, zr_stp C mn Q P pc l st h kc ks → P pc l st h kc ks) → P pc l st h kc ks
/-- the run of a method -/
def zr_E : Nat → zr_F
  | 0 => fun _ _ _ _ => False
  | d + 1 => fun mn args h Q => zr_R (zr_E d) mn Q 0 (zr_lx (zr_ml mn) args) [] h (zr_mc mn) (zr_ms mn)
theorem zr_imp {a b c : Prop} (f : a → b) : (c → a) → (c → b) := fun g x => f (g x)
theorem zr_all {α : Sort _} {p q : α → Prop} (f : ∀ x, p x → q x) : (∀ x, p x) → (∀ x, q x) := fun g x => f x (g x)
theorem zr_exi {α : Sort _} {p q : α → Prop} (f : ∀ x, p x → q x) : (∃ x, p x) → (∃ x, q x) := fun ⟨x, g⟩ => ⟨x, f x g⟩
theorem zr_and {a b c d : Prop} (f : a → c) (g : b → d) : a ∧ b → c ∧ d := fun ⟨x, y⟩ => ⟨f x, g y⟩
theorem zr_orr {a b c d : Prop} (f : a → c) (g : b → d) : a ∨ b → c ∨ d := fun x => x.elim (fun y => Or.inl (f y)) (fun y => Or.inr (g y))
def zr_mon (C C' : zr_F) : Prop := ∀ mn as h K K', (∀ o h', K o h' → K' o h') → C mn as h K → C' mn as h K'
theorem zr_kt_mono {mn : Nat} {Q Q' : zr_K} {P P' : zr_P} (hQ : ∀ o h, Q o h → Q' o h) (hP : ∀ pc l st h kc ks, P pc l st h kc ks → P' pc l st h kc ks) (pc : Nat) (l : zr_L) (r : List Value) (kc ks mno : Nat) :
    ∀ o h', zr_kt mn Q P pc l r kc ks mno o h' → zr_kt mn Q' P' pc l r kc ks mno o h' := by
  intro o h'
  unfold zr_kt
  cases o with
  | inl v => exact hP _ _ _ _ _ _
  | inr E =>
    dsimp only
    cases zr_hd (zr_mo mn) (zr_hh mn) pc E with
    | none => exact hQ _ _
    | some t => exact fun g q => hP _ _ _ _ _ _ (g q)
theorem zr_kn_mono {Q Q' : zr_K} {P P' : zr_P} (hP : ∀ pc l st h kc ks, P pc l st h kc ks → P' pc l st h kc ks) (pc : Nat) (l : zr_L) (r : List Value) (kc ks mno : Nat) :
    ∀ o h', zr_kn Q P pc l r kc ks mno o h' → zr_kn Q' P' pc l r kc ks mno o h' := by
  intro o h'
  unfold zr_kn
  cases o with
  | inl v => exact hP _ _ _ _ _ _
  | inr E => exact id
set_option maxHeartbeats 4000000 in
theorem zr_st2_mono {C C' : zr_F} {mn : Nat} {Q Q' : zr_K} {P P' : zr_P} (hC : zr_mon C C') (hQ : ∀ o h, Q o h → Q' o h) (hP : ∀ pc l st h kc ks, P pc l st h kc ks → P' pc l st h kc ks) (pc : Nat) (l : zr_L) (st : List Value) (h : zr_H) (kc ks : Nat) (i : Instr) (n : Nat) :
    zr_st2 C mn Q P pc l st h kc ks i n → zr_st2 C' mn Q' P' pc l st h kc ks i n := by
  unfold zr_st2
  split <;> (repeat' first | exact id | exact hP _ _ _ _ _ _ | exact hQ _ _ | exact hC _ _ _ _ _ (zr_kt_mono hQ hP _ _ _ _ _ _) | exact hC _ _ _ _ _ (zr_kn_mono hP _ _ _ _ _ _) | refine zr_exi fun _ => ?_ | refine zr_and ?_ ?_ | refine zr_orr ?_ ?_ | refine zr_imp ?_ | refine zr_all fun _ => ?_)
theorem zr_stp_mono {C C' : zr_F} {mn : Nat} {Q Q' : zr_K} {P P' : zr_P} (hC : zr_mon C C') (hQ : ∀ o h, Q o h → Q' o h) (hP : ∀ pc l st h kc ks, P pc l st h kc ks → P' pc l st h kc ks) (pc : Nat) (l : zr_L) (st : List Value) (h : zr_H) (kc ks : Nat) :
    zr_stp C mn Q P pc l st h kc ks → zr_stp C' mn Q' P' pc l st h kc ks := by
  rintro ⟨i, n, hd, hs⟩
  refine ⟨i, n, hd, ?_⟩
  rcases hs with ⟨st', e, hp⟩ | hs
  · exact Or.inl ⟨st', e, hP _ _ _ _ _ _ hp⟩
  · exact Or.inr (zr_st2_mono hC hQ hP _ _ _ _ _ _ _ _ hs)
theorem zr_mon_id_of {C : zr_F} (h : zr_mon C C) : zr_mon C C := h
theorem zr_R_mono {C C' : zr_F} (hC : zr_mon C C') {mn : Nat} {Q Q' : zr_K} (hQ : ∀ o h, Q o h → Q' o h) (pc : Nat) (l : zr_L) (st : List Value) (h : zr_H) (kc ks : Nat) :
    zr_R C mn Q pc l st h kc ks → zr_R C' mn Q' pc l st h kc ks := fun g P hP => g P fun pc l st h kc ks hs => hP _ _ _ _ _ _ (zr_stp_mono hC hQ (fun _ _ _ _ _ _ x => x) _ _ _ _ _ _ hs)
theorem zr_E_mon : ∀ d, zr_mon (zr_E d) (zr_E d)
  | 0 => fun _ _ _ _ _ _ x => x
  | d + 1 => fun _ _ _ _ _ hK x => zr_R_mono (zr_E_mon d) hK _ _ _ _ _ _ x
theorem zr_fold {C : zr_F} (hC : zr_mon C C) {mn : Nat} {Q : zr_K} {pc : Nat} {l : zr_L} {st : List Value} {h : zr_H} {kc ks : Nat} (g : zr_stp C mn Q (zr_R C mn Q) pc l st h kc ks) : zr_R C mn Q pc l st h kc ks :=
  fun P hP => hP _ _ _ _ _ _ (zr_stp_mono hC (fun _ _ x => x) (fun _ _ _ _ _ _ x => x P hP) _ _ _ _ _ _ g)
theorem zr_unfold {C : zr_F} (hC : zr_mon C C) {mn : Nat} {Q : zr_K} {pc : Nat} {l : zr_L} {st : List Value} {h : zr_H} {kc ks : Nat} (g : zr_R C mn Q pc l st h kc ks) : zr_stp C mn Q (zr_R C mn Q) pc l st h kc ks :=
  g _ fun _ _ _ _ _ _ hs => zr_stp_mono hC (fun _ _ x => x) (fun _ _ _ _ _ _ x => zr_fold hC x) _ _ _ _ _ _ hs

