/-! THE PURE MACHINE: what the instructions do, over whole numbers; objects by their numbers -/
abbrev pm_V : Type := Int ⊕ (Int ⊕ (Int ⊕ Unit))
abbrev Vi (n : Int) : pm_V := .inl n
abbrev Vl (n : Int) : pm_V := .inr (.inl n)
abbrev Vr (n : Int) : pm_V := .inr (.inr (.inl n))
abbrev Vx : pm_V := .inr (.inr (.inr ()))
/-- an object: its kind (a class, or 20 int[], 21 byte[], 22 boolean[], 23 long[], 24 Rule[], 25 Claim[]), how many fields or elements, the references that it holds -/
abbrev pm_SH : Type := Nat × Nat × List Int
/-- the objects, and their numbers -/
abbrev pm_H : Type := List pm_SH × (Nat → Nat → Int)
abbrev pm_R : Type := Option (Nat × List pm_V × List pm_V)
def w32 (x : Int) : Int := (x + 2147483648) % 4294967296 - 2147483648
def w64 (x : Int) : Int := (x + 9223372036854775808) % 18446744073709551616 - 9223372036854775808
def w8 (x : Int) : Int := (x + 128) % 256 - 128
def i_and (x y : Int) : Int := (Int32.ofInt x &&& Int32.ofInt y).toInt
def i_or (x y : Int) : Int := (Int32.ofInt x ||| Int32.ofInt y).toInt
def i_xor (x y : Int) : Int := (Int32.ofInt x ^^^ Int32.ofInt y).toInt
def i_shl (x y : Int) : Int := (Int32.ofInt x <<< (Int32.ofInt y &&& 31)).toInt
def i_shr (x y : Int) : Int := (Int32.ofInt x >>> (Int32.ofInt y &&& 31)).toInt
def i_ushr (x y : Int) : Int := ((Int32.ofInt x).toUInt32 >>> ((Int32.ofInt y).toUInt32 &&& Int32.toUInt32 31)).toInt32.toInt
def l_and (x y : Int) : Int := (Int64.ofInt x &&& Int64.ofInt y).toInt
def l_or (x y : Int) : Int := (Int64.ofInt x ||| Int64.ofInt y).toInt
def l_shl (x y : Int) : Int := (Int64.ofInt x <<< ((Int32.ofInt y).toInt64 &&& 63)).toInt
def l_ushr (x y : Int) : Int := ((Int64.ofInt x).toUInt64 >>> ((Int32.ofInt y).toInt64.toUInt64 &&& Int64.toUInt64 63)).toInt64.toInt
def i_div (x y : Int) : Int := w32 (x.tdiv y)
def i_rem (x y : Int) : Int := w32 (x - i_div x y * y)
def l_div (x y : Int) : Int := w64 (x.tdiv y)
def l_rem (x y : Int) : Int := w64 (x - l_div x y * y)
def l_cmp (x y : Int) : Int := if y < x then 1 else if x = y then 0 else -1
def pm_nth {α : Type} : List α → Nat → Option α
  | [], _ => none
  | a :: _, 0 => some a
  | _ :: t, n + 1 => pm_nth t n
def pI {α : Type} (S : List pm_V) (k : Int → List pm_V → Option α) : Option α := match S with
  | .inl x :: S => k x S
  | _ => none
def pL {α : Type} (S : List pm_V) (k : Int → List pm_V → Option α) : Option α := match S with
  | .inr (.inl x) :: S => k x S
  | _ => none
def pR {α : Type} (S : List pm_V) (k : Int → List pm_V → Option α) : Option α := match S with
  | .inr (.inr (.inl x)) :: S => k x S
  | _ => none
/-- a value's words: a long has two -/
def pm_cat (v : pm_V) : Nat := match v with
  | .inr (.inl _) => 2
  | _ => 1
def pm_dl (v : pm_V) : pm_V := match v with
  | .inr (.inl _) => Vx
  | v => v
/-- a local is set: a long that stood just before it goes -/
def setL : List pm_V → Nat → pm_V → List pm_V
  | [], _, _ => []
  | _ :: t, 0, v => v :: t
  | u :: t, 1, v => pm_dl u :: setL t 0 v
  | u :: t, k + 2, v => u :: setL t (k + 1) v
def setX : List pm_V → Nat → List pm_V
  | [], _ => []
  | _ :: t, 0 => Vx :: t
  | u :: t, k + 1 => u :: setX t k
def pm_r32 (n : Int) : Bool := decide (-2147483648 ≤ n) && decide (n ≤ 2147483647)
def pm_r64 (n : Int) : Bool := decide (-9223372036854775808 ≤ n) && decide (n ≤ 9223372036854775807)
/-- a reference that is surely one: an object, or one that was there before (-2 the script, -3 .. -5 rows, -6 a text, -7 its bytes; -1 is null, -8 may be) -/
def pm_rok (n : Int) : Bool := decide (-7 ≤ n) && !decide (n = -1)
def pm_psh (pc : Nat) (L S : List pm_V) (b : Bool) (v : pm_V) : pm_R := bif b then some (pc, L, v :: S) else none
def pm_to (pc : Nat) (off : Int) : Nat := ((pc : Int) + off).toNat
def pm_ldi (L : List pm_V) (k : Nat) (pc : Nat) (S : List pm_V) : pm_R := match pm_nth L k with
  | some (.inl x) => some (pc, L, Vi x :: S)
  | _ => none
def pm_ldl (L : List pm_V) (k : Nat) (pc : Nat) (S : List pm_V) : pm_R := match pm_nth L k with
  | some (.inr (.inl x)) => some (pc, L, Vl x :: S)
  | _ => none
def pm_ldr (L : List pm_V) (k : Nat) (pc : Nat) (S : List pm_V) : pm_R := match pm_nth L k with
  | some (.inr (.inr (.inl x))) => bif pm_rok x then some (pc, L, Vr x :: S) else none
  | _ => none
def pm_sti (L : List pm_V) (k : Nat) (pc : Nat) (S : List pm_V) : pm_R := pI S fun x S => bif Nat.blt k L.length then some (pc, setL L k (Vi x), S) else none
def pm_stl (L : List pm_V) (k : Nat) (pc : Nat) (S : List pm_V) : pm_R := pL S fun x S => bif Nat.blt (k + 1) L.length then some (pc, setX (setL L k (Vl x)) (k + 1), S) else none
def pm_str (L : List pm_V) (k : Nat) (pc : Nat) (S : List pm_V) : pm_R := pR S fun x S => bif pm_rok x && Nat.blt k L.length then some (pc, setL L k (Vr x), S) else none
def pm_iin (L : List pm_V) (k : Nat) (c : Int) (pc : Nat) (S : List pm_V) : pm_R := match pm_nth L k with
  | some (.inl x) => bif pm_r32 c && Nat.blt k L.length then some (pc, setL L k (Vi (w32 (x + c))), S) else none
  | _ => none
/-- an int operation on two -/
def pm_ii (f : Int → Int → Int) (pc : Nat) (L S : List pm_V) : pm_R := pI S fun y S => pI S fun x S => some (pc, L, Vi (f x y) :: S)
def pm_ll (f : Int → Int → Int) (pc : Nat) (L S : List pm_V) : pm_R := pL S fun y S => pL S fun x S => some (pc, L, Vl (f x y) :: S)
def pm_li (f : Int → Int → Int) (pc : Nat) (L S : List pm_V) : pm_R := pI S fun y S => pL S fun x S => some (pc, L, Vl (f x y) :: S)
/-- a branch -/
def pm_br (P : Prop) [Decidable P] (pc : Nat) (off : Int) (L S : List pm_V) : pm_R := bif decide (0 ≤ (pc : Int) + off) then some (if P then pm_to pc off else pc + 3, L, S) else none
def pm_if (c : Jvm.ClassFile.Cond) (pc : Nat) (off : Int) (L S : List pm_V) : pm_R := pI S fun x S => match c with
  | .eq => pm_br (x = 0) pc off L S
  | .ne => pm_br (x ≠ 0) pc off L S
  | .lt => pm_br (x < 0) pc off L S
  | .ge => pm_br (0 ≤ x) pc off L S
  | .gt => pm_br (0 < x) pc off L S
  | .le => pm_br (x ≤ 0) pc off L S
def pm_ic (c : Jvm.ClassFile.Cond) (pc : Nat) (off : Int) (L S : List pm_V) : pm_R := pI S fun y S => pI S fun x S => match c with
  | .eq => pm_br (x = y) pc off L S
  | .ne => pm_br (x ≠ y) pc off L S
  | .lt => pm_br (x < y) pc off L S
  | .ge => pm_br (y ≤ x) pc off L S
  | .gt => pm_br (y < x) pc off L S
  | .le => pm_br (x ≤ y) pc off L S
def pm_gt (pc : Nat) (off : Int) (L S : List pm_V) : pm_R := bif decide (0 ≤ (pc : Int) + off) then some (pm_to pc off, L, S) else none
def pm_tsw (dflt lo hi : Int) (offs : List Int) (pc : Nat) (L S : List pm_V) : pm_R := pI S fun x S =>
  if x < lo ∨ hi < x then pm_gt pc dflt L S else match pm_nth offs (x - lo).toNat with
    | some off => pm_gt pc off L S
    | none => none
def pm_lku (ps : List (Int × Int)) (d : Int) (x : Int) : Int := match ps with
  | [] => d
  | (k, o) :: t => if x = k then o else pm_lku t d x
def pm_srt (ps : List (Int × Int)) : Bool := match ps with
  | a :: b :: t => decide (a.1 < b.1) && pm_srt (b :: t)
  | _ => true
def pm_lok (dflt : Int) (ps : List (Int × Int)) (pc : Nat) (L S : List pm_V) : pm_R := bif pm_srt ps then pI S fun x S => pm_gt pc (pm_lku ps dflt x) L S else none
/-- instructions that touch neither heap nor tables -/
def stpS (i : Instr) (pc : Nat) (L S : List pm_V) : pm_R := match i with
  | .iconst k => pm_psh (pc + 1) L S (pm_r32 k) (Vi k)
  | .lconst k => pm_psh (pc + 1) L S true (Vl (k : Nat))
  | .bipush k => pm_psh (pc + 2) L S (decide (-128 ≤ k) && decide (k ≤ 127)) (Vi k)
  | .sipush k => pm_psh (pc + 3) L S (decide (-32768 ≤ k) && decide (k ≤ 32767)) (Vi k)
  | .iload_n k => pm_ldi L k (pc + 1) S
  | .iload k => pm_ldi L k (pc + 2) S
  | .lload_n k => pm_ldl L k (pc + 1) S
  | .lload k => pm_ldl L k (pc + 2) S
  | .aload_n k => pm_ldr L k (pc + 1) S
  | .aload k => pm_ldr L k (pc + 2) S
  | .istore_n k => pm_sti L k (pc + 1) S
  | .istore k => pm_sti L k (pc + 2) S
  | .lstore_n k => pm_stl L k (pc + 1) S
  | .lstore k => pm_stl L k (pc + 2) S
  | .astore_n k => pm_str L k (pc + 1) S
  | .astore k => pm_str L k (pc + 2) S
  | .iinc k c => pm_iin L k c (pc + 3) S
  | .iadd => pm_ii (fun x y => w32 (x + y)) (pc + 1) L S
  | .isub => pm_ii (fun x y => w32 (x - y)) (pc + 1) L S
  | .imul => pm_ii (fun x y => w32 (x * y)) (pc + 1) L S
  | .iand => pm_ii i_and (pc + 1) L S
  | .ior => pm_ii i_or (pc + 1) L S
  | .ixor => pm_ii i_xor (pc + 1) L S
  | .ishl => pm_ii i_shl (pc + 1) L S
  | .ishr => pm_ii i_shr (pc + 1) L S
  | .iushr => pm_ii i_ushr (pc + 1) L S
  | .idiv => pI S fun y S => pI S fun x S => if y = 0 then none else some (pc + 1, L, Vi (i_div x y) :: S)
  | .irem => pI S fun y S => pI S fun x S => if y = 0 then none else some (pc + 1, L, Vi (i_rem x y) :: S)
  | .ladd => pm_ll (fun x y => w64 (x + y)) (pc + 1) L S
  | .lsub => pm_ll (fun x y => w64 (x - y)) (pc + 1) L S
  | .lmul => pm_ll (fun x y => w64 (x * y)) (pc + 1) L S
  | .land => pm_ll l_and (pc + 1) L S
  | .lor => pm_ll l_or (pc + 1) L S
  | .lshl => pm_li l_shl (pc + 1) L S
  | .lushr => pm_li l_ushr (pc + 1) L S
  | .ldiv => pL S fun y S => pL S fun x S => if y = 0 then none else some (pc + 1, L, Vl (l_div x y) :: S)
  | .lrem => pL S fun y S => pL S fun x S => if y = 0 then none else some (pc + 1, L, Vl (l_rem x y) :: S)
  | .lcmp => pL S fun y S => pL S fun x S => some (pc + 1, L, Vi (l_cmp x y) :: S)
  | .i2l => pI S fun x S => some (pc + 1, L, Vl x :: S)
  | .l2i => pL S fun x S => some (pc + 1, L, Vi (w32 x) :: S)
  | .i2b => pI S fun x S => some (pc + 1, L, Vi (w8 x) :: S)
  | .i2c => pI S fun x S => some (pc + 1, L, Vi (x % 65536) :: S)
  | .dup => match S with
    | v :: S => bif Nat.beq (pm_cat v) 1 then some (pc + 1, L, v :: v :: S) else none
    | _ => none
  | .pop => match S with
    | v :: S => bif Nat.beq (pm_cat v) 1 then some (pc + 1, L, S) else none
    | _ => none
  | .dup2 => match S with
    | v :: u :: S => bif Nat.beq (pm_cat v) 1 && Nat.beq (pm_cat u) 1 then some (pc + 1, L, v :: u :: v :: u :: S) else none
    | _ => none
  | .ifCond c off => pm_if c pc off L S
  | .if_icmp c off => pm_ic c pc off L S
  | .goto off => pm_gt pc off L S
  | .tableswitch d lo hi offs => pm_tsw d lo hi offs.toList pc L S
  | .lookupswitch d ps => pm_lok d ps.toList pc L S
  | _ => none
/-- the field's sort: 0 an int, 1 a long, 2 a reference, 3 a boolean -/
def pm_ft (ci k : Nat) : Nat := match pm_nth pm_fts ci with
  | some l => match pm_nth l k with
    | some t => t
    | none => 9
  | none => 9
def pm_nf (ci : Nat) : Nat := match pm_nth pm_fts ci with
  | some l => l.length
  | none => 0
/-- the rows that were there before -/
def pm_ro (X : List Int) (o : Int) : Option (List Int) := if o = -2 then some X else if o = -3 then some pm_most else if o = -4 then some pm_shift else if o = -5 then some pm_mask else none
def updC (c : Nat → Nat → Int) (o i : Nat) (v : Int) : Nat → Nat → Int := fun o' i' => bif Nat.beq o' o && Nat.beq i' i then v else c o' i'
def pm_set {α : Type} : List α → Nat → α → List α
  | [], _, _ => []
  | _ :: t, 0, v => v :: t
  | u :: t, k + 1, v => u :: pm_set t k v
abbrev pm_RH : Type := Option (List pm_V × pm_H)
/-- an object's shape -/
def pm_ob {α : Type} (h : pm_H) (o : Int) (k : Nat → Nat → List Int → Option α) : Option α := if o < 0 then none else match pm_nth h.1 o.toNat with
  | some (kd, n, rs) => k kd n rs
  | none => none
def pm_get (h : pm_H) (a b : Nat) (S : List pm_V) : pm_RH := pR S fun o S =>
  bif Nat.beq a 99 then (if o = -6 then (match b with
    | 0 => some (Vr (-7) :: S, h)
    | _ => some (Vi 0 :: S, h)) else none)
  else pm_ob h o fun kd n rs => bif Nat.beq kd a && Nat.blt b n then (match pm_ft a b with
    | 0 => some (Vi (h.2 o.toNat b) :: S, h)
    | 3 => some (Vi (h.2 o.toNat b) :: S, h)
    | 1 => some (Vl (h.2 o.toNat b) :: S, h)
    | 2 => (match pm_nth rs b with
      | some r => some (Vr r :: S, h)
      | none => none)
    | _ => none) else none
def pm_put (h : pm_H) (a b : Nat) (S : List pm_V) : pm_RH := match S with
  | v :: S => pR S fun o S => pm_ob h o fun kd n rs => bif Nat.beq kd a && Nat.blt b n then (match pm_ft a b, v with
    | 0, .inl x => some (S, (h.1, updC h.2 o.toNat b x))
    | 3, .inl x => if x = 0 ∨ x = 1 then some (S, (h.1, updC h.2 o.toNat b x)) else none
    | 1, .inr (.inl x) => some (S, (h.1, updC h.2 o.toNat b x))
    | 2, .inr (.inr (.inl r)) => if r < 0 then none else some (S, (pm_set h.1 o.toNat (kd, n, pm_set rs b r), h.2))
    | _, _ => none) else none
  | _ => none
def pm_ild (X : List Int) (h : pm_H) (S : List pm_V) : pm_RH := pI S fun i S => pR S fun o S =>
  if i < 0 then none else if o < 0 then (match pm_ro X o with
    | some l => match pm_nth l i.toNat with
      | some x => some (Vi x :: S, h)
      | none => none
    | none => none)
  else pm_ob h o fun kd n _ => bif Nat.beq kd 20 && Nat.blt i.toNat n then some (Vi (h.2 o.toNat i.toNat) :: S, h) else none
def pm_bld (h : pm_H) (S : List pm_V) : pm_RH := pI S fun i S => pR S fun o S =>
  if i < 0 then none else if o < 0 then (if o = -7 then (match pm_nth pm_own i.toNat with
      | some x => some (Vi x :: S, h)
      | none => none) else none)
  else pm_ob h o fun kd n _ => bif (Nat.beq kd 21 || Nat.beq kd 22) && Nat.blt i.toNat n then some (Vi (h.2 o.toNat i.toNat) :: S, h) else none
def pm_lld (h : pm_H) (S : List pm_V) : pm_RH := pI S fun i S => pR S fun o S =>
  if i < 0 then none else pm_ob h o fun kd n _ => bif Nat.beq kd 23 && Nat.blt i.toNat n then some (Vl (h.2 o.toNat i.toNat) :: S, h) else none
def pm_ald (h : pm_H) (S : List pm_V) : pm_RH := pI S fun i S => pR S fun o S =>
  if i < 0 then none else pm_ob h o fun kd n rs => bif (Nat.beq kd 24 || Nat.beq kd 25) && Nat.blt i.toNat n then (match pm_nth rs i.toNat with
    | some r => some (Vr r :: S, h)
    | none => none) else none
def pm_ist (h : pm_H) (S : List pm_V) : pm_RH := pI S fun x S => pI S fun i S => pR S fun o S =>
  if i < 0 then none else pm_ob h o fun kd n _ => bif Nat.beq kd 20 && Nat.blt i.toNat n then some (S, (h.1, updC h.2 o.toNat i.toNat x)) else none
def pm_bst (h : pm_H) (S : List pm_V) : pm_RH := pI S fun x S => pI S fun i S => pR S fun o S =>
  if i < 0 then none else pm_ob h o fun kd n _ => bif Nat.blt i.toNat n then (match kd with
    | 21 => if -128 ≤ x ∧ x ≤ 127 then some (S, (h.1, updC h.2 o.toNat i.toNat x)) else none
    | 22 => if x = 0 ∨ x = 1 then some (S, (h.1, updC h.2 o.toNat i.toNat x)) else none
    | _ => none) else none
def pm_lst (h : pm_H) (S : List pm_V) : pm_RH := pL S fun x S => pI S fun i S => pR S fun o S =>
  if i < 0 then none else pm_ob h o fun kd n _ => bif Nat.beq kd 23 && Nat.blt i.toNat n then some (S, (h.1, updC h.2 o.toNat i.toNat x)) else none
def pm_ast (h : pm_H) (S : List pm_V) : pm_RH := pR S fun r S => pI S fun i S => pR S fun o S =>
  if i < 0 then none else pm_ob h o fun kd n rs => pm_ob h r fun kr _ _ => bif Nat.blt i.toNat n && ((Nat.beq kd 24 && Nat.beq kr 7) || (Nat.beq kd 25 && Nat.beq kr 2)) then some (S, (pm_set h.1 o.toNat (kd, n, pm_set rs i.toNat r), h.2)) else none
def pm_len (X : List Int) (h : pm_H) (S : List pm_V) : pm_RH := pR S fun o S =>
  if o = -7 then some (Vi 124 :: S, h) else if o < 0 then (match pm_ro X o with
    | some l => some (Vi l.length :: S, h)
    | none => none)
  else pm_ob h o fun kd n _ => bif Nat.ble 20 kd then some (Vi n :: S, h) else none
def pm_new (h : pm_H) (a : Nat) (S : List pm_V) : pm_RH := bif Nat.blt a 12 then some (Vr h.1.length :: S, (h.1 ++ [(a, pm_nf a, List.replicate (pm_nf a) (-1))], h.2)) else none
def pm_nwa (h : pm_H) (a : Nat) (S : List pm_V) : pm_RH := pI S fun n S => if n < 0 ∨ 100000 < n then none else some (Vr h.1.length :: S, (h.1 ++ [(a, n.toNat, [])], h.2))
def pm_nwr (h : pm_H) (a : Nat) (S : List pm_V) : pm_RH := pI S fun n S => if n < 0 ∨ 100000 < n then none else some (Vr h.1.length :: S, (h.1 ++ [(a, n.toNat, List.replicate n.toNat (-1))], h.2))
def pm_gst (h : pm_H) (a : Nat) (S : List pm_V) : pm_RH := match a with
  | 1 => some (Vr (-3) :: S, h)
  | 2 => some (Vr (-4) :: S, h)
  | 3 => some (Vr (-5) :: S, h)
  | 4 => some (Vi 1 :: S, h)
  | 5 => some (Vr (-8) :: S, h)
  | _ => none
def pm_ldc (h : pm_H) (a : Nat) (v : Int) (S : List pm_V) : pm_RH := match a with
  | 98 => some (Vr (-6) :: S, h)
  | 0 => bif pm_r32 v then some (Vi v :: S, h) else none
  | _ => none
/-- instructions that touch heap or tables; Object's constructor among them -/
def stpH (X : List Int) (E : pm_EN) (S : List pm_V) (h : pm_H) : Option (Nat × List pm_V × pm_H) :=
  let r (n : Nat) (x : pm_RH) : Option (Nat × List pm_V × pm_H) := match x with
    | some (S, h) => some (n, S, h)
    | none => none
  match E.1 with
  | .getfield _ => r 3 (pm_get h E.2.2.1 E.2.2.2.1 S)
  | .putfield _ => r 3 (pm_put h E.2.2.1 E.2.2.2.1 S)
  | .iaload => r 1 (pm_ild X h S)
  | .baload => r 1 (pm_bld h S)
  | .laload => r 1 (pm_lld h S)
  | .aaload => r 1 (pm_ald h S)
  | .iastore => r 1 (pm_ist h S)
  | .bastore => r 1 (pm_bst h S)
  | .lastore => r 1 (pm_lst h S)
  | .aastore => r 1 (pm_ast h S)
  | .arraylength => r 1 (pm_len X h S)
  | .new _ => r 3 (pm_new h E.2.2.1 S)
  | .newarray _ => r 2 (pm_nwa h E.2.2.1 S)
  | .anewarray _ => r 3 (pm_nwr h E.2.2.1 S)
  | .getstatic _ => r 3 (pm_gst h E.2.2.1 S)
  | .ldc _ => r 2 (pm_ldc h E.2.2.1 E.2.2.2.2.1 S)
  | .ldc_w _ => r 3 (pm_ldc h E.2.2.1 E.2.2.2.2.1 S)
  | .ldc2_w _ => r 3 (bif pm_r64 E.2.2.2.2.1 then some (Vl E.2.2.2.2.1 :: S, h) else none)
  | .invokespecial _ => r 3 (bif Nat.beq E.2.2.1 1000 then pR S fun o S => bif pm_rok o && Nat.ble (S.map pm_cat).sum 8 then some (S, h) else none else none)
  | _ => none
/-- the answer that a return gives, if this is one -/
def stpQ (rk : Nat) (i : Instr) (S : List pm_V) : Option (Option pm_V) := match i, rk, S with
  | .ireturn, 1, [.inl x] => some (some (Vi x))
  | .ireturn, 3, [.inl x] => if x = 0 ∨ x = 1 then some (some (Vi x)) else none
  | .ireturn, 4, [.inl x] => if -128 ≤ x ∧ x ≤ 127 then some (some (Vi x)) else none
  | .ireturn, 5, [.inl x] => if 0 ≤ x ∧ x ≤ 65535 then some (some (Vi x)) else none
  | .lreturn, 2, [.inr (.inl x)] => some (some (Vl x))
  | .return_, 0, [] => some none
  | _, _, _ => none
def pm_spread : List pm_V → List pm_V
  | [] => []
  | .inr (.inl x) :: t => Vl x :: Vx :: pm_spread t
  | v :: t => v :: pm_spread t
/-- a method's numbers: kind (0 static, 1 virtual, 2 a constructor), parameters, locals, class, sort of the answer (0 none, 1 int, 2 long, 3 boolean, 4 byte, 5 char) -/
abbrev pm_MK : Type := Nat × Nat × Nat × Nat × Nat
def pm_mk (m : Nat) : pm_MK := match pm_nth pm_mks m with
  | some x => x
  | none => (9, 0, 0, 0, 0)
def pm_pad (L : List pm_V) (n : Nat) : List pm_V := match n with
  | 0 => L
  | n + 1 => match L with
    | [] => Vx :: pm_pad [] n
    | v :: t => v :: pm_pad t n
def pm_recv (h : pm_H) (cl : Nat) (as : List pm_V) : Bool := match as with
  | .inr (.inr (.inl o)) :: _ => if o < 0 then decide (o = -6) && Nat.beq cl 12 else (match pm_nth h.1 o.toNat with
    | some (kd, _, _) => Nat.beq kd cl
    | none => false)
  | _ => false
/-- the method that is called, its arguments, and what is left -/
def stpC (E : pm_EN) (S : List pm_V) (h : pm_H) : Option (Nat × List pm_V × List pm_V) :=
  let go (b : Nat) (k : Nat) : Option (Nat × List pm_V × List pm_V) := match pm_mk E.2.2.1 with
    | (kd, n, ml, cl, _) =>
      let n' := n + k
      let as := (S.take n').reverse
      bif Nat.beq kd b && Nat.ble n' S.length && Nat.ble (pm_spread as).length ml && Nat.ble ((S.drop n').map pm_cat).sum 8 && (Nat.beq k 0 || pm_recv h cl as) then some (E.2.2.1, as, S.drop n') else none
  match E.1 with
  | .invokestatic _ => go 0 0
  | .invokevirtual _ => go 1 1
  | .invokespecial _ => go 2 1
  | _ => none
def pm_find : List (Nat × pm_EN) → Nat → Option pm_EN
  | [], _ => none
  | (k, e) :: t, pc => bif Nat.beq k pc then some e else pm_find t pc
def pm_code (m pc : Nat) : Option pm_EN := match pm_nth pm_ct (m / 16) with
  | some l => match pm_nth l (m % 16) with
    | some l => match pm_nth l (pc / 32) with
      | some l => pm_find l pc
      | none => none
    | none => none
  | none => none
/-- the whole machine: f bounds the steps, d the calls that stand open -/
def exec (X : List Int) : Nat → Nat → Nat → Nat → List pm_V → List pm_V → pm_H → Option (Option pm_V × pm_H)
  | 0, _, _, _, _, _, _ => none
  | f + 1, d, m, pc, L, S, h => match pm_code m pc with
    | none => none
    | some E => match stpS E.1 pc L S with
      | some (pc', L', S') => exec X f d m pc' L' S' h
      | none => match stpH X E S h with
        | some (n, S', h') => exec X f d m (pc + n) L S' h'
        | none => match stpQ (pm_mk m).2.2.2.2 E.1 S with
          | some r => some (r, h)
          | none => match stpC E S h with
            | none => none
            | some (m', as, S') => match d with
              | 0 => none
              | d' + 1 => match exec X f d' m' 0 (pm_pad (pm_spread as) (pm_mk m').2.2.1) [] h with
                | none => none
                | some (r, h') => exec X f (d' + 1) m (pc + 3) L (r.toList ++ S') h'
/-- the length that an instruction has -/
def pm_lenok (i : Instr) (n : Nat) : Bool := match i with
  | .tableswitch .. => true
  | .lookupswitch .. => true
  | .bipush _ => Nat.beq n 2
  | .iload _ => Nat.beq n 2
  | .lload _ => Nat.beq n 2
  | .aload _ => Nat.beq n 2
  | .istore _ => Nat.beq n 2
  | .lstore _ => Nat.beq n 2
  | .astore _ => Nat.beq n 2
  | .newarray _ => Nat.beq n 2
  | .ldc _ => Nat.beq n 2
  | .sipush _ => Nat.beq n 3
  | .iinc _ _ => Nat.beq n 3
  | .ifCond _ _ => Nat.beq n 3
  | .if_icmp _ _ => Nat.beq n 3
  | .goto _ => Nat.beq n 3
  | .getfield _ => Nat.beq n 3
  | .putfield _ => Nat.beq n 3
  | .getstatic _ => Nat.beq n 3
  | .new _ => Nat.beq n 3
  | .anewarray _ => Nat.beq n 3
  | .ldc_w _ => Nat.beq n 3
  | .ldc2_w _ => Nat.beq n 3
  | .invokestatic _ => Nat.beq n 3
  | .invokespecial _ => Nat.beq n 3
  | .invokevirtual _ => Nat.beq n 3
  | _ => Nat.beq n 1
