/-! WHAT IS SAID: the house over whole numbers. A scene is a table: 0 rooms of persons, 1 who lives, 2 where things are (100 and who carries it), 3 moods, 4 known since (8 p + o), 5 the minute, 6 traces (6 k + w), 7 how many, 8 deeds (6 k + w), 9 how many. -/
abbrev SC : Type := Nat → Nat → Int
/-- a told story: numbers (0 counts, 1 2 3 names of rooms, persons, things, 4 doors (8 r + o), 5 6 where persons and things are at first, 7 .. 10 claims, 11 .. 14 rules: kind, who, of, thing), and of each rule its sum (2 r) and its test (2 r + 1), worked off from the left -/
abbrev STY : Type := SC × (Nat → List (Nat × Nat))
abbrev nR (S : STY) : Nat := (S.1 0 0).toNat
abbrev nW (S : STY) : Nat := (S.1 0 2).toNat
abbrev nT (S : STY) : Nat := (S.1 0 3).toNat
abbrev nL (S : STY) : Nat := (S.1 0 4).toNat
abbrev nC (S : STY) : Nat := (S.1 0 5).toNat
def hld (v : Int) : Int := if 1000000 < v then 1000000 else if v < -1000000 then -1000000 else v
def jnd (op : Nat) (x y : Int) : Int := match op with
  | 15 => hld (x + y)
  | 16 => hld (x - y)
  | 17 => hld (x * y)
  | 18 => if y = 0 then 0 else x.fdiv y
  | 19 => if y = 0 then 0 else x.fmod y
  | 20 => if x < y then x else y
  | 21 => if y < x then x else y
  | 22 => if x < y then 1 else 0
  | 23 => if y < x then 1 else 0
  | 24 => if x = y then 1 else 0
  | 25 => x * y
  | _ => if 0 < x + y then 1 else 0
abbrev AloneS (n : Nat) (c : SC) (p : Nat) (but : Int) : Prop := ∀ q, q < n → q ≠ p → (q : Int) ≠ but → c 1 q ≠ 0 → c 0 q ≠ c 0 p
def leafS (n : Nat) (c : SC) (op v : Nat) : Int := match op with
  | 0 => v
  | 1 => c 5 0
  | 2 => c 3 v
  | 3 => 1
  | 4 => if c 0 (v / 8) = ((v % 8 : Nat) : Int) then 1 else 0
  | 5 => if c 2 (v % 8) = 100 + ((v / 8 : Nat) : Int) then 1 else 0
  | 6 => if c 1 (v / 8) ≠ 0 ∧ c 1 (v % 8) ≠ 0 ∧ c 0 (v / 8) = c 0 (v % 8) then 1 else 0
  | 7 => if AloneS n c (v / 8) (-1) then 1 else 0
  | 8 => if c 1 (v / 8) ≠ 0 then 0 else 1
  | _ => if c 4 v = -1 then 0 else 1
def stR (n : Nat) (c : SC) (q : Nat × Nat) (s : List Int) : Option (List Int) :=
  if q.1 ≤ 9 then some (leafS n c q.1 q.2 :: s)
  else if q.1 = 27 then (match s with
    | x :: s => some ((1 - x) :: s)
    | _ => none)
  else (match s with
    | y :: x :: s => some (jnd q.1 x y :: s)
    | _ => none)
def runR (n : Nat) (c : SC) : List (Nat × Nat) → List Int → Option (List Int)
  | [], s => some s
  | q :: l, s => match stR n c q s with
    | some s' => runR n c l s'
    | none => none
def wth (n : Nat) (c : SC) (l : List (Nat × Nat)) : Int := match runR n c l [] with
  | some (x :: _) => x
  | _ => 0
/-- whether the room is reached by so many doors or fewer -/
def wkS (S : STY) (to : Nat) : Nat → Nat → Bool
  | 0, r => decide (r = to)
  | k + 1, r => decide (r = to) || (List.range (nR S)).any (fun o => decide (S.1 4 (8 * r + o) ≠ 0) && wkS S to k o)
/-- the least number below n for which it holds, or n -/
def lst (f : Nat → Bool) : Nat → Nat
  | 0 => 0
  | n + 1 => if lst f n < n then lst f n else if f n = true then n else n + 1
theorem dst_ex : ∃ f : STY → Nat → Nat → Nat, ∀ S to r, f S to r = lst (fun k => wkS S to k r) 9 := ⟨fun S to r => lst (fun k => wkS S to k r) 9, fun _ _ _ => rfl⟩
/-- how many doors lead there; 9 if there is no way (sealed) -/
noncomputable def dstS : STY → Nat → Nat → Nat := dst_ex.choose
theorem dst_eq {S : STY} {to r : Nat} : dstS S to r = lst (fun k => wkS S to k r) 9 := dst_ex.choose_spec S to r
noncomputable def bstS (S : STY) (fr to : Nat) : Nat → Int
  | 0 => -1
  | o + 1 => if S.1 4 (8 * fr + o) ≠ 0 ∧ dstS S to o < 9 ∧ (bstS S fr to o = -1 ∨ dstS S to o < dstS S to (bstS S fr to o).toNat) then (o : Int) else bstS S fr to o
noncomputable def stpW (S : STY) (fr to : Nat) : Int := if fr = to then -1 else bstS S fr to (nR S)
/-- a trace more -/
def leavS (c : SC) (kind what : Int) (p : Nat) : SC :=
  updC (updC (updC (updC (updC (updC (updC c 6 (6 * (c 7 0).toNat) (c 5 0)) 6 (6 * (c 7 0).toNat + 1) kind) 6 (6 * (c 7 0).toNat + 2) what) 6 (6 * (c 7 0).toNat + 3) p) 6 (6 * (c 7 0).toNat + 4) (c 0 p)) 6 (6 * (c 7 0).toNat + 5) (-1)) 7 0 (c 7 0 + 1)
abbrev WipS (c : SC) (p : Nat) (i : Nat) : Prop := c 6 (6 * i + 4) = c 0 p ∧ c 6 (6 * i + 5) = -1
def wipS (c : SC) (p : Nat) : SC := fun t j => if t = 6 ∧ j % 6 = 5 ∧ j / 6 < (c 7 0).toNat ∧ WipS c p (j / 6) then c 5 0 else c t j
/-- a deed more: who, whom, with what, by which rule -/
def deedS (c : SC) (p o what r : Nat) : SC :=
  updC (updC (updC (updC (updC (updC (updC c 8 (6 * (c 9 0).toNat) p) 8 (6 * (c 9 0).toNat + 1) o) 8 (6 * (c 9 0).toNat + 2) what) 8 (6 * (c 9 0).toNat + 3) (c 5 0)) 8 (6 * (c 9 0).toNat + 4) (c 0 p)) 8 (6 * (c 9 0).toNat + 5) r) 9 0 (c 9 0 + 1)
/-- what a dead one carried lies there -/
def dropS (n : Nat) (c : SC) (o : Nat) : SC := fun t i => if t = 2 ∧ i < n ∧ c 2 i = 100 + (o : Int) then c 0 o else c t i
abbrev KilS (n : Nat) (c : SC) (p o what : Nat) : Prop := c 1 o ≠ 0 ∧ c 0 o = c 0 p ∧ AloneS n c p o ∧ c 2 what = 100 + (p : Int)
noncomputable def doesS (S : STY) (c : SC) (r : Nat) : Option SC :=
  let p := (S.1 12 r).toNat
  let o := (S.1 13 r).toNat
  if S.1 11 r = 0 then (if stpW S (c 0 p).toNat o = -1 then none else some (updC c 0 p (stpW S (c 0 p).toNat o)))
  else if S.1 11 r = 1 then (if c 2 o = c 0 p then some (leavS (updC c 2 o (100 + (p : Int))) 1 o p) else none)
  else if S.1 11 r = 2 then (if c 2 o = 100 + (p : Int) then some (leavS (updC c 2 o (c 0 p)) 2 o p) else none)
  else if S.1 11 r = 3 then (if ∃ i, i < (c 7 0).toNat ∧ WipS c p i then some (wipS c p) else none)
  else (if KilS (nW S) c p o (S.1 14 r).toNat then some (leavS (deedS (dropS (nT S) (updC c 1 o 0) o) p o (S.1 14 r).toNat r) 3 (S.1 14 r) p) else none)
/-- a rule feel -/
def felS (S : STY) (B : SC) (p : Nat) (c : SC) (r : Nat) : SC :=
  if S.1 12 r = (p : Int) ∧ B 2 r = 0 ∧ S.1 11 r = 4 ∧ wth (nW S) c (S.2 (2 * r + 1)) = 1 then updC c 3 p (hld (c 3 p + wth (nW S) c (S.2 (2 * r)))) else c
def felsS (S : STY) (B : SC) (p : Nat) (c : SC) : Nat → SC
  | 0 => c
  | r + 1 => felS S B p (felsS S B p c r) r
/-- the first other rule that is done -/
noncomputable def actS (S : STY) (B : SC) (p : Nat) (c : SC) : Nat → Option (Nat × SC)
  | 0 => none
  | r + 1 => match actS S B p c r with
    | some x => some x
    | none => if S.1 12 r = (p : Int) ∧ B 2 r = 0 ∧ S.1 11 r ≠ 4 ∧ wth (nW S) c (S.2 (2 * r + 1)) = 1 then (match doesS S c r with
        | some c' => some (r, c')
        | none => none) else none
noncomputable def trnS (S : STY) (B : SC) (p : Nat) (c : SC) : Int × SC := match actS S B p (felsS S B p c (nL S)) (nL S) with
  | some (r, c') => ((r : Int), c')
  | none => (-1, felsS S B p c (nL S))
noncomputable def psnS (S : STY) (B : SC) (c : SC) : Nat → SC
  | 0 => c
  | p + 1 => if psnS S B c p 1 p ≠ 0 then (trnS S B p (psnS S B c p)).2 else psnS S B c p
noncomputable def dnS (S : STY) (B : SC) (c : SC) (p : Nat) : Int := if psnS S B c p 1 p ≠ 0 then (trnS S B p (psnS S B c p)).1 else -1
def seeS (c : SC) (p o : Nat) : Int := if p = o ∨ c 1 p = 0 ∨ c 0 p ≠ c 0 o then 0 else if c 1 o ≠ 0 then 1 else 2
def lrnS (n : Nat) (c : SC) : SC := fun t i => if t = 4 ∧ i / 8 < n ∧ i % 8 < n ∧ seeS c (i / 8) (i % 8) = 2 ∧ c 4 i = -1 then c 5 0 else c t i
noncomputable def minS (S : STY) (B : SC) (c : SC) (m : Nat) : SC := lrnS (nW S) (psnS S B (updC c 5 0 m) (nW S))
def iniS (B : SC) : SC := fun t i => match t with
  | 0 => B 0 i
  | 1 => 1
  | 2 => B 1 i
  | 4 => -1
  | _ => 0
noncomputable def aftS (S : STY) (B : SC) : Nat → SC
  | 0 => iniS B
  | m + 1 => minS S B (aftS S B m) m
/-- which rule a person does in a minute -/
noncomputable def hdnS (S : STY) (B : SC) (m p : Nat) : Int := dnS S B (updC (aftS S B m) 5 0 m) p
/-! what a finder knows: H tells the scene at the end of each minute -/
abbrev AskS (H : Nat → SC) (n : Nat) (set p : Nat) : Prop := set.testBit p = true ∧ H (n - 1) 1 p ≠ 0
def spfS (W : Nat) (H : Nat → SC) (n set v : Nat) : Nat → Nat
  | 0 => 0
  | m + 1 => if ∃ p, p < W ∧ AskS H n set p ∧ seeS (H m) p v = 1 then m + 1 else spfS W H n set v m
def sptS (W : Nat) (H : Nat → SC) (n set v : Nat) : Nat := if lst (fun m => decide (∃ p, p < W ∧ AskS H n set p ∧ seeS (H m) p v = 2)) n < n then lst (fun m => decide (∃ p, p < W ∧ AskS H n set p ∧ seeS (H m) p v = 2)) n else n - 1
abbrev ClrS (W : Nat) (H : Nat → SC) (n set v p m : Nat) : Prop := ∃ q, q < W ∧ q ≠ p ∧ AskS H n set q ∧ (seeS (H m) q p = 2 ∨ seeS (H m) q p = 1 ∧ H m 0 p ≠ H (n - 1) 0 v)
abbrev CanS (W : Nat) (H : Nat → SC) (n set v p : Nat) : Prop := p ≠ v ∧ ¬ ∀ m, m < sptS W H n set v + 1 → spfS W H n set v n ≤ m → ClrS W H n set v p m
def cldS (W : Nat) (H : Nat → SC) (n set v : Nat) : Nat → Nat
  | 0 => 0
  | p + 1 => if CanS W H n set v p then cldS W H n set v p + 2 ^ p else cldS W H n set v p
def bitS (x : Nat) : Nat → Nat
  | 0 => 0
  | k + 1 => bitS x k + if x.testBit k = true then 1 else 0
/-- how many bits a set of eight has -/
abbrev bcS (x : Nat) : Nat := bitS x 8
def lsS (W : Nat) (H : Nat → SC) (n v : Nat) : Nat → Int
  | 0 => -1
  | set + 1 => if (∀ p, p < W → set.testBit p = true → H (n - 1) 1 p ≠ 0) ∧ (lsS W H n v set = -1 ∨ bcS set < bcS (lsS W H n v set).toNat) ∧ bcS (cldS W H n set v W) = 1 then (set : Int) else lsS W H n v set
/-- the least set to ask, or -1 -/
def lstS (W : Nat) (H : Nat → SC) (n v : Nat) : Int := lsS W H n v (2 ^ W)
abbrev FairS (W : Nat) (H : Nat → SC) (n v : Nat) : Prop := bcS (cldS W H n (2 ^ W - 1) v W) = 1
