/-! a walk of the bytecode as a function, over a heap whose cells are numbered from 1 on (0: the script) -/
abbrev xE : Type := (Nat × vp_A) ⊕ (Nat × List Value)
abbrev xLv : Type := List (Nat × Value)
abbrev xS : Type := Nat × xLv × List Value × List xE × Nat × Nat
abbrev xO : Type := List (Nat × Bool) × List Prop
abbrev xR : Type := List xE × Option Value × Nat × Nat
abbrev xCT : Type := Nat → List Value → List xE → xO → Option (xR × xO)
def xnth {α : Type} : List α → Nat → Option α
  | [], _ => none
  | a :: _, 0 => some a
  | _ :: l, n + 1 => xnth l n
theorem xnth_eq {α : Type} : ∀ (l : List α) (n : Nat), xnth l n = l[n]?
  | [], _ => rfl
  | _ :: _, 0 => rfl
  | _ :: l, n + 1 => by
    rw [List.getElem?_cons_succ]
    exact xnth_eq l n
def xfind : List xEnt → Nat → Option (Instr × Nat × Nat × Nat)
  | [], _ => none
  | q :: l, pc => bif Nat.beq q.1 pc then some q.2 else xfind l pc
def xfet (t : List (List xEnt)) (pc : Nat) : Option (Instr × Nat × Nat × Nat) :=
  match xnth t (pc / 16) with
  | some b => xfind b pc
  | none => none
def xget : xLv → Nat → Option Value
  | [], _ => none
  | q :: l, i => bif Nat.beq q.1 i then some q.2 else xget l i
def xset {α β : Type} : List α → Nat → α → (List α → Option β) → Option β
  | [], _, _, _ => none
  | _ :: l, 0, a, k => k (a :: l)
  | b :: l, i + 1, a, k => xset l i a (fun l' => k (b :: l'))
def xapp {α β : Type} : List α → α → (List α → Option β) → Option β
  | [], a, k => k [a]
  | b :: l, a, k => xapp l a (fun l' => k (b :: l'))
/-- a fork: by its own test, or as the row of answers has it (the test is then noted) -/
def xif {β : Type} (P : Prop) [Decidable P] (O : xO) (k : Bool → xO → Option β) : Option β :=
  match O with
  | ([], cs) => k (decide P) ([], cs)
  | ((0, v) :: r, cs) => bif v then k true (r, P :: cs) else k false (r, (¬ P) :: cs)
  | ((n + 1, v) :: r, cs) => k (decide P) ((n, v) :: r, cs)
def xi1 {β : Type} (st : List Value) (k : Int32 → List Value → Option β) : Option β := match st with
  | .int x :: r => k x r
  | _ => none
def xi2 {β : Type} (st : List Value) (k : Int32 → Int32 → List Value → Option β) : Option β := match st with
  | .int y :: .int x :: r => k x y r
  | _ => none
def xl1 {β : Type} (st : List Value) (k : Int64 → List Value → Option β) : Option β := match st with
  | .long x :: r => k x r
  | _ => none
def xl2 {β : Type} (st : List Value) (k : Int64 → Int64 → List Value → Option β) : Option β := match st with
  | .long y :: .long x :: r => k x y r
  | _ => none
def xil {β : Type} (st : List Value) (k : Int64 → Int32 → List Value → Option β) : Option β := match st with
  | .int y :: .long x :: r => k x y r
  | _ => none
def xin (i : Int32) (n : Nat) : Bool := !(decide (i < 0)) && !(Nat.ble n i.toNatClampNeg)
def xjmp (pc : Nat) (off : Int) : Option Nat := match (pc : Int) + off with
  | .ofNat t => some t
  | .negSucc _ => none
def xst1 (lv : xLv) (i : Nat) (v : Value) : xLv := (i, v) :: lv.filter (fun q => !(q.1 == i) && !(q.1 + 1 == i && q.2.category == 2))
def xst2 (lv : xLv) (i : Nat) (v : Value) : xLv := (i, v) :: lv.filter (fun q => !(q.1 == i) && (!(q.1 == i + 1) && !(q.1 + 1 == i && q.2.category == 2)))
def xcat : List Value → Nat
  | [] => 0
  | v :: r => v.category + xcat r
/-- a number that is only known to lie between two others -/
def xiv (iv : List (Int × Int)) (k : Nat) : Int × Int := match xnth iv k with
  | some q => q
  | none => (-2147483648, 2147483647)
/-- the script's number k -/
def xsv (iv : List (Int × Int)) (k : Nat) : Value := bif decide ((xiv iv k).1 = (xiv iv k).2) then .int (Int32.ofInt (xiv iv k).1) else .float (UInt32.ofNat k)
/-- what a test against v says of it, if that is known -/
def xdc (c : ClassFile.Cond) (q : Int × Int) (v : Int) : Option Bool := match c with
  | .eq => bif decide (q.2 < v) || decide (v < q.1) then some false else bif decide (q.1 = v) && decide (q.2 = v) then some true else none
  | .ne => bif decide (q.2 < v) || decide (v < q.1) then some true else bif decide (q.1 = v) && decide (q.2 = v) then some false else none
  | .lt => bif decide (q.2 < v) then some true else bif decide (v ≤ q.1) then some false else none
  | .ge => bif decide (q.2 < v) then some false else bif decide (v ≤ q.1) then some true else none
  | .gt => bif decide (v < q.1) then some true else bif decide (q.2 ≤ v) then some false else none
  | .le => bif decide (v < q.1) then some false else bif decide (q.2 ≤ v) then some true else none
/-- a symbolic number that is known -/
def xfl (iv : List (Int × Int)) (k : Nat) : Option Int := bif decide ((xiv iv k).1 = (xiv iv k).2) then some (xiv iv k).1 else none
/-- are two numbers the same, as far as the flags tell -/
def xeqv (iv : List (Int × Int)) (u v : Value) : Option Bool := match u, v with
  | .float j, .float k => bif Nat.beq j.toNat 1 && Nat.beq k.toNat 2 then (match xfl iv 36 with
      | some z => some (decide (z = 0))
      | none => none) else bif Nat.beq k.toNat 3 && (Nat.ble 20 j.toNat && Nat.ble j.toNat 24) then (match xfl iv (j.toNat + 10) with
      | some z => some (decide (z = 1))
      | none => none) else none
  | .int c, .float k => bif Nat.beq k.toNat 3 && (decide (c = 0) || decide (c = 1)) then (match xfl iv 38 with
      | some z => some (decide (z = c.toInt))
      | none => none) else none
  | .float k, .int c => bif Nat.beq k.toNat 2 && (decide (c = 0) || decide (c = -1)) then (match xfl iv 37 with
      | some z => some (decide (z = c.toInt))
      | none => none) else bif decide (c = 0) && (Nat.ble 40 k.toNat && Nat.ble k.toNat 44) then (match xfl iv (k.toNat - 10) with
      | some z => some (decide (z = 1))
      | none => none) else bif decide (c = 0) && Nat.beq k.toNat 45 then (match xfl iv 38 with
      | some z => some (decide (z = 0))
      | none => none) else bif decide (c = 0) && Nat.beq k.toNat 46 then (match xfl iv 38 with
      | some z => some (decide (z = 1))
      | none => none) else none
  | _, _ => none
def xcp (iv : List (Int × Int)) (u v : Value) : Option Int := match u, v with
  | .float j, .float k => bif Nat.beq j.toNat 1 && Nat.beq k.toNat 2 then xfl iv 36 else none
  | _, _ => none
/-- a test by the flags -/
def xbr (iv : List (Int × Int)) (c : ClassFile.Cond) (u v : Value) : Option Bool := match c with
  | .eq => xeqv iv u v
  | .ne => (match xeqv iv u v with
    | some q => some (!q)
    | none => none)
  | .lt => (match xcp iv u v with
    | some z => some (decide (z < 0))
    | none => none)
  | .ge => (match xcp iv u v with
    | some z => some (decide (0 ≤ z))
    | none => none)
  | .gt => (match xcp iv u v with
    | some z => some (decide (0 < z))
    | none => none)
  | .le => (match xcp iv u v with
    | some z => some (decide (z ≤ 0))
    | none => none)
def xsw (c : ClassFile.Cond) : ClassFile.Cond := match c with
  | .eq => .eq
  | .ne => .ne
  | .lt => .gt
  | .ge => .le
  | .gt => .lt
  | .le => .ge
def xcm (q : Int × Int) (v : Int) : Option Int32 := bif decide (q.2 < v) then some (-1) else bif decide (v < q.1) then some 1 else none
def xdv (ty : FieldType) : Value := match ty with
  | .long => .long 0
  | .object _ => .null
  | .array _ => .null
  | _ => .int 0
def xfit (ty : FieldType) (v : Value) : Bool := match ty, v with
  | .int, .int _ => true
  | .long, .long _ => true
  | .int, .float _ => true
  | .long, .double _ => true
  | .boolean, .int x => decide (x = 0) || decide (x = 1)
  | .object _, .null => true
  | .object _, .ref _ => true
  | .array _, .null => true
  | .array _, .ref _ => true
  | _, _ => false
def xTy : Nat → Nat → FieldType := fun ci => match ci with
  | 0 => tyX0
  | 1 => tyX1
  | 2 => tyX2
  | 3 => tyX3
  | 4 => tyX4
  | 5 => tyX5
  | 6 => tyX6
  | 7 => tyX7
  | 8 => tyX8
  | _ => tyX9
def xDf (ci N : Nat) : List Value := (List.range N).map (fun j => xdv (xTy ci j))
def xpop : Nat → List Value → List Value → Option (List Value × List Value)
  | 0, acc, st => some (acc, st)
  | n + 1, acc, v :: st => xpop n (v :: acc) st
  | _ + 1, _, [] => none
def xnew (t N : Nat) : Option vp_A := match t with
  | 0 => some (N, .inl (fun _ => 0))
  | 1 => some (N, .inr (.inl (fun _ => 0)))
  | 2 => some (N, .inl (fun _ => 0))
  | 3 => some (N, .inr (.inr (.inr (.inr (fun _ => none)))))
  | 4 => some (N, .inr (.inr (.inr (.inr (fun _ => none)))))
  | _ => none
def xEt (t : Nat) : FieldType := match t with
  | 0 => .int
  | 1 => .long
  | 2 => .boolean
  | 3 => .object "PulledSignals$Cell"
  | _ => .object "PulledSignals$Shelf"
def xcond (c : ClassFile.Cond) (x : Int32) (O : xO) {β : Type} (k : Bool → xO → Option β) : Option β := match c with
  | .eq => xif (x = 0) O k
  | .ne => xif (x = 0) O (fun b O => k (!b) O)
  | .lt => xif (x < 0) O k
  | .ge => xif (0 ≤ x) O k
  | .gt => xif (0 < x) O k
  | .le => xif (x ≤ 0) O k
def xicmp (c : ClassFile.Cond) (x y : Int32) (O : xO) {β : Type} (k : Bool → xO → Option β) : Option β := match c with
  | .eq => xif (x = y) O k
  | .ne => xif (x = y) O (fun b O => k (!b) O)
  | .lt => xif (x < y) O k
  | .ge => xif (y ≤ x) O k
  | .gt => xif (y < x) O k
  | .le => xif (x ≤ y) O k
def xgo (pc len : Nat) (off : Int) (lv : xLv) (st : List Value) (h : List xE) (sl fr : Nat) (b : Bool) (O : xO) : Option (xS × xO) :=
  match xjmp pc off with
  | some t => bif b then some ((t, lv, st, h, sl, fr), O) else some ((pc + len, lv, st, h, sl, fr), O)
  | none => none
/-- a call: its arguments, where it goes, what comes of it -/
def xcall (Ms : List xM) (C : xCT) (pc : Nat) (lv : xLv) (st : List Value) (h : List xE) (sl fr : Nat) (O : xO) (a b : Nat) : Option (xS × xO) :=
  match b with
  | 9 => (match st with
    | .ref _ :: r => bif Nat.ble (xcat r) 8 then some ((pc + 3, lv, r, h, sl, Nat.max fr 1), O) else none
    | _ => none)
  | 8 => (match st with
    | .int y :: .int x :: r => bif Nat.ble (xcat r) 8 then some ((pc + 3, lv, .int (if y < x then y else x) :: r, h, sl, Nat.max fr 1), O) else none
    | _ => none)
  | 7 => (match st with
    | .int y :: .int x :: r => bif Nat.ble (xcat r) 8 then some ((pc + 3, lv, .int (if x < y then y else x) :: r, h, sl, Nat.max fr 1), O) else none
    | _ => none)
  | _ => match xnth Ms a with
    | none => none
    | some M' => match xpop (bif Nat.beq (xMk M') 1 then xMp M' else xMp M' + 1) [] st with
      | none => none
      | some (as, r) => bif Nat.beq (b / 2) (xMk M') && Nat.ble (xcat r) 8 && (match xMk M' with
          | 1 => true
          | _ => (match as with
            | .ref (q + 1) :: _ => (match xnth h q with
              | some (.inr (ci, _)) => Nat.beq ci (xMo M')
              | _ => false)
            | _ => false)) then (match C a as h O with
            | none => none
            | some ((h', ret, sl', d'), O') => some ((pc + 3, lv, ret.toList ++ r, h', sl + sl', Nat.max fr (d' + 1)), O')) else none
/-- what an instruction does -/
abbrev xH : Type := Nat → List (Int × Int) → List xM → xCT → xM → Nat → Nat → Nat → Nat → xLv → List Value → List xE → Nat → Nat → xO → Option (xS × xO)
def xs_iconst (n : Int) : xH := fun _ _ _ _ _ len _ _ pc lv st h sl fr O => some ((pc + len, lv, .int (Int32.ofInt n) :: st, h, sl, fr), O)
def xs_bipush (n : Int) : xH := fun _ _ _ _ _ len _ _ pc lv st h sl fr O => some ((pc + len, lv, .int (Int8.ofInt n).toInt32 :: st, h, sl, fr), O)
def xs_sipush (n : Int) : xH := fun _ _ _ _ _ len _ _ pc lv st h sl fr O => some ((pc + len, lv, .int (Int16.ofInt n).toInt32 :: st, h, sl, fr), O)
def xs_lconst (n : Fin 2) : xH := fun _ _ _ _ _ len _ _ pc lv st h sl fr O => some ((pc + len, lv, .long (Int64.ofNat (n : Nat)) :: st, h, sl, fr), O)
def xs_aconst_null : xH := fun _ _ _ _ _ len _ _ pc lv st h sl fr O => some ((pc + len, lv, .null :: st, h, sl, fr), O)
def xs_ldc : xH := fun _ _ _ _ _ len a _ pc lv st h sl fr O => (match xnth xI32 a with
    | some q => some ((pc + len, lv, .int q.2.2.1 :: st, h, sl, fr), O)
    | none => none)
def xs_ldc_w : xH := fun _ _ _ _ _ len a _ pc lv st h sl fr O => (match xnth xI32 a with
    | some q => some ((pc + len, lv, .int q.2.2.1 :: st, h, sl, fr), O)
    | none => none)
def xs_ldc2_w : xH := fun _ _ _ _ _ len a _ pc lv st h sl fr O => (match xnth xI64 a with
    | some q => some ((pc + len, lv, .long q.2.2.1 :: st, h, sl, fr), O)
    | none => none)
def xs_iload (i : Nat) : xH := fun _ _ _ _ _ len _ _ pc lv st h sl fr O => (match xget lv i with
    | some (.int x) => some ((pc + len, lv, .int x :: st, h, sl, fr), O)
    | some (.float x) => some ((pc + len, lv, .float x :: st, h, sl, fr), O)
    | _ => none)
def xs_iload_n (i : Fin 4) : xH := fun _ _ _ _ _ len _ _ pc lv st h sl fr O => (match xget lv i with
    | some (.int x) => some ((pc + len, lv, .int x :: st, h, sl, fr), O)
    | some (.float x) => some ((pc + len, lv, .float x :: st, h, sl, fr), O)
    | _ => none)
def xs_lload (i : Nat) : xH := fun _ _ _ _ _ len _ _ pc lv st h sl fr O => (match xget lv i with
    | some (.long x) => some ((pc + len, lv, .long x :: st, h, sl, fr), O)
    | some (.double x) => some ((pc + len, lv, .double x :: st, h, sl, fr), O)
    | _ => none)
def xs_lload_n (i : Fin 4) : xH := fun _ _ _ _ _ len _ _ pc lv st h sl fr O => (match xget lv i with
    | some (.long x) => some ((pc + len, lv, .long x :: st, h, sl, fr), O)
    | some (.double x) => some ((pc + len, lv, .double x :: st, h, sl, fr), O)
    | _ => none)
def xs_aload (i : Nat) : xH := fun _ _ _ _ _ len _ _ pc lv st h sl fr O => (match xget lv i with
    | some (.ref x) => some ((pc + len, lv, .ref x :: st, h, sl, fr), O)
    | some .null => some ((pc + len, lv, .null :: st, h, sl, fr), O)
    | _ => none)
def xs_aload_n (i : Fin 4) : xH := fun _ _ _ _ _ len _ _ pc lv st h sl fr O => (match xget lv i with
    | some (.ref x) => some ((pc + len, lv, .ref x :: st, h, sl, fr), O)
    | some .null => some ((pc + len, lv, .null :: st, h, sl, fr), O)
    | _ => none)
def xs_istore (i : Nat) : xH := fun _ _ _ _ M len _ _ pc lv st h sl fr O => bif Nat.blt i (xMn M) then (match st with
    | .int x :: r => some ((pc + len, xst1 lv i (.int x), r, h, sl, fr), O)
    | .float x :: r => some ((pc + len, xst1 lv i (.float x), r, h, sl, fr), O)
    | _ => none) else none
def xs_istore_n (i : Fin 4) : xH := fun _ _ _ _ M len _ _ pc lv st h sl fr O => bif Nat.blt i (xMn M) then (match st with
    | .int x :: r => some ((pc + len, xst1 lv i (.int x), r, h, sl, fr), O)
    | .float x :: r => some ((pc + len, xst1 lv i (.float x), r, h, sl, fr), O)
    | _ => none) else none
def xs_lstore (i : Nat) : xH := fun _ _ _ _ M len _ _ pc lv st h sl fr O => bif Nat.blt (i + 1) (xMn M) then (match st with
    | .long x :: r => some ((pc + len, xst2 lv i (.long x), r, h, sl, fr), O)
    | .double x :: r => some ((pc + len, xst2 lv i (.double x), r, h, sl, fr), O)
    | _ => none) else none
def xs_lstore_n (i : Fin 4) : xH := fun _ _ _ _ M len _ _ pc lv st h sl fr O => bif Nat.blt (i + 1) (xMn M) then (match st with
    | .long x :: r => some ((pc + len, xst2 lv i (.long x), r, h, sl, fr), O)
    | .double x :: r => some ((pc + len, xst2 lv i (.double x), r, h, sl, fr), O)
    | _ => none) else none
def xs_astore (i : Nat) : xH := fun _ _ _ _ M len _ _ pc lv st h sl fr O => bif Nat.blt i (xMn M) then (match st with
    | .ref x :: r => some ((pc + len, xst1 lv i (.ref x), r, h, sl, fr), O)
    | .null :: r => some ((pc + len, xst1 lv i .null, r, h, sl, fr), O)
    | _ => none) else none
def xs_astore_n (i : Fin 4) : xH := fun _ _ _ _ M len _ _ pc lv st h sl fr O => bif Nat.blt i (xMn M) then (match st with
    | .ref x :: r => some ((pc + len, xst1 lv i (.ref x), r, h, sl, fr), O)
    | .null :: r => some ((pc + len, xst1 lv i .null, r, h, sl, fr), O)
    | _ => none) else none
def xs_iinc (i : Nat) (n : Int) : xH := fun _ _ _ _ M len _ _ pc lv st h sl fr O => bif Nat.blt i (xMn M) then (match xget lv i with
    | some (.int x) => some ((pc + len, xst1 lv i (.int (x + Int32.ofInt n)), st, h, sl, fr), O)
    | _ => none) else none
def xs_iadd : xH := fun _ _ _ _ _ len _ _ pc lv st h sl fr O => (match st with
    | .int y :: .int x :: r => some ((pc + len, lv, .int (x + y) :: r, h, sl, fr), O)
    | .float j :: .float k :: r => bif Nat.beq k.toNat 1 && Nat.beq j.toNat 2 then some ((pc + len, lv, .float 20 :: r, h, sl, fr), O) else none
    | _ => none)
def xs_isub : xH := fun _ _ _ _ _ len _ _ pc lv st h sl fr O => (match st with
    | .int y :: .int x :: r => some ((pc + len, lv, .int (x - y) :: r, h, sl, fr), O)
    | .int y :: .float k :: r => bif Nat.beq k.toNat 1 && decide (y = 12) then some ((pc + len, lv, .float 8 :: r, h, sl, fr), O) else none
    | .float j :: .float k :: r => bif Nat.beq k.toNat 1 && Nat.beq j.toNat 2 then some ((pc + len, lv, .float 21 :: r, h, sl, fr), O) else none
    | _ => none)
def xs_imul : xH := fun _ _ _ _ _ len _ _ pc lv st h sl fr O => (match st with
    | .int y :: .int x :: r => some ((pc + len, lv, .int (x * y) :: r, h, sl, fr), O)
    | .float j :: .float k :: r => bif Nat.beq k.toNat 1 && Nat.beq j.toNat 2 then some ((pc + len, lv, .float 22 :: r, h, sl, fr), O) else none
    | _ => none)
def xs_iand : xH := fun _ iv _ _ _ len _ _ pc lv st h sl fr O => (match st with
    | .int y :: .int x :: r => some ((pc + len, lv, .int (x &&& y) :: r, h, sl, fr), O)
    | .int y :: .float k :: r => bif Nat.beq k.toNat 0 && decide (y = 63) then some ((pc + len, lv, xsv iv 6 :: r, h, sl, fr), O) else none
    | _ => none)
def xs_ior : xH := fun _ _ _ _ _ len _ _ pc lv st h sl fr O => xi2 st (fun x y r => some ((pc + len, lv, .int (x ||| y) :: r, h, sl, fr), O))
def xs_ixor : xH := fun _ _ _ _ _ len _ _ pc lv st h sl fr O => xi2 st (fun x y r => some ((pc + len, lv, .int (x ^^^ y) :: r, h, sl, fr), O))
def xs_ishl : xH := fun _ _ _ _ _ len _ _ pc lv st h sl fr O => xi2 st (fun x y r => some ((pc + len, lv, .int (x <<< (y &&& 31)) :: r, h, sl, fr), O))
def xs_ishr : xH := fun _ _ _ _ _ len _ _ pc lv st h sl fr O => xi2 st (fun x y r => some ((pc + len, lv, .int (x >>> (y &&& 31)) :: r, h, sl, fr), O))
def xs_iushr : xH := fun _ _ _ _ _ len _ _ pc lv st h sl fr O => xi2 st (fun x y r => some ((pc + len, lv, .int (x.toUInt32 >>> (y.toUInt32 &&& Int32.toUInt32 31)).toInt32 :: r, h, sl, fr), O))
def xs_idiv : xH := fun _ iv _ _ _ len _ b pc lv st h sl fr O => (match st with
    | .int y :: .int x :: r => xif (y = 0) O (fun b O => bif b then none else some ((pc + len, lv, .int (x / y) :: r, h, sl, fr), O))
    | .float j :: .float k :: r => bif Nat.beq k.toNat 1 && Nat.beq j.toNat 2 then (match xfl iv 37 with
      | some z => bif decide (z = 0) then none else some ((pc + len, lv, .float 23 :: r, h, sl, fr), O)
      | none => none) else none
    | _ => none)
def xs_irem : xH := fun _ iv _ _ _ len _ b pc lv st h sl fr O => (match st with
    | .int y :: .int x :: r => xif (y = 0) O (fun b O => bif b then none else some ((pc + len, lv, .int (x - x / y * y) :: r, h, sl, fr), O))
    | .float j :: .float k :: r => bif Nat.beq k.toNat 1 && Nat.beq j.toNat 2 then (match xfl iv 37 with
      | some z => bif decide (z = 0) then none else bif decide (z = -1) then some ((pc + len, lv, .int 0 :: r, h, sl, fr), O) else some ((pc + len, lv, .float 24 :: r, h, sl, fr), O)
      | none => none) else none
    | _ => none)
def xs_ineg : xH := fun _ iv _ _ _ len _ _ pc lv st h sl fr O => (match st with
    | .int x :: r => some ((pc + len, lv, .int (-x) :: r, h, sl, fr), O)
    | .float k :: r => bif Nat.beq k.toNat 1 then (match xfl iv 37 with
      | some z => bif decide (z = -1) then some ((pc + len, lv, .float 23 :: r, h, sl, fr), O) else none
      | none => none) else none
    | _ => none)
def xs_ladd : xH := fun _ _ _ _ _ len _ _ pc lv st h sl fr O => xl2 st (fun x y r => some ((pc + len, lv, .long (x + y) :: r, h, sl, fr), O))
def xs_lsub : xH := fun _ _ _ _ _ len _ _ pc lv st h sl fr O => xl2 st (fun x y r => some ((pc + len, lv, .long (x - y) :: r, h, sl, fr), O))
def xs_land : xH := fun _ _ _ _ _ len _ _ pc lv st h sl fr O => (match st with
    | .long y :: .long x :: r => some ((pc + len, lv, .long (x &&& y) :: r, h, sl, fr), O)
    | .long y :: .double k :: r => bif Nat.beq k.toNat 4 && decide (y = 4294967295) then some ((pc + len, lv, .double 1001 :: r, h, sl, fr), O) else none
    | _ => none)
def xs_lor : xH := fun _ _ _ _ _ len _ _ pc lv st h sl fr O => (match st with
    | .long y :: .long x :: r => some ((pc + len, lv, .long (x ||| y) :: r, h, sl, fr), O)
    | .double j :: .double k :: r => bif Nat.beq k.toNat 1000 && Nat.beq j.toNat 1001 then some ((pc + len, lv, .double 1002 :: r, h, sl, fr), O) else none
    | _ => none)
def xs_lshl : xH := fun _ _ _ _ _ len _ _ pc lv st h sl fr O => (match st with
    | .int y :: .long x :: r => some ((pc + len, lv, .long (x <<< (y.toInt64 &&& 63)) :: r, h, sl, fr), O)
    | .int y :: .double k :: r => bif Nat.beq k.toNat 3 && decide (y = 32) then some ((pc + len, lv, .double 1000 :: r, h, sl, fr), O) else none
    | _ => none)
def xs_lcmp : xH := fun _ iv _ _ _ len _ _ pc lv st h sl fr O => (match st with
    | .long y :: .long x :: r => some ((pc + len, lv, .int (lg_cmp x y) :: r, h, sl, fr), O)
    | .long y :: .double k :: r => bif Nat.blt k.toNat 1000 then (match xcm (xiv iv k.toNat) y.toInt with
      | some v => some ((pc + len, lv, .int v :: r, h, sl, fr), O)
      | none => none) else none
    | .double k :: .long x :: r => bif Nat.blt k.toNat 1000 then (match xcm (xiv iv k.toNat) x.toInt with
      | some v => some ((pc + len, lv, .int (-v) :: r, h, sl, fr), O)
      | none => bif Nat.beq k.toNat 3 && decide (x = 0) then some ((pc + len, lv, .float 45 :: r, h, sl, fr), O) else bif Nat.beq k.toNat 3 && decide (x = 1) then some ((pc + len, lv, .float 46 :: r, h, sl, fr), O) else none) else none
    | .double j :: .double k :: r => bif Nat.beq j.toNat 3 && (Nat.ble 20 k.toNat && Nat.ble k.toNat 24) then some ((pc + len, lv, .float (UInt32.ofNat (k.toNat + 20)) :: r, h, sl, fr), O) else none
    | _ => none)
def xs_i2l : xH := fun _ _ _ _ _ len _ _ pc lv st h sl fr O => (match st with
    | .int x :: r => some ((pc + len, lv, .long x.toInt64 :: r, h, sl, fr), O)
    | .float k :: r => bif Nat.blt k.toNat 1000 then some ((pc + len, lv, .double k.toUInt64 :: r, h, sl, fr), O) else none
    | _ => none)
def xs_l2i : xH := fun _ _ _ _ _ len _ _ pc lv st h sl fr O => xl1 st (fun x r => some ((pc + len, lv, .int x.toInt32 :: r, h, sl, fr), O))
def xs_i2b : xH := fun _ _ _ _ _ len _ _ pc lv st h sl fr O => xi1 st (fun x r => some ((pc + len, lv, .int x.toInt8.toInt32 :: r, h, sl, fr), O))
def xs_i2s : xH := fun _ _ _ _ _ len _ _ pc lv st h sl fr O => xi1 st (fun x r => some ((pc + len, lv, .int x.toInt16.toInt32 :: r, h, sl, fr), O))
def xs_dup : xH := fun _ _ _ _ _ len _ _ pc lv st h sl fr O => (match st with
    | v :: r => bif Nat.beq v.category 1 then some ((pc + len, lv, v :: v :: r, h, sl, fr), O) else none
    | _ => none)
def xs_dup2 : xH := fun _ _ _ _ _ len _ _ pc lv st h sl fr O => (match st with
    | v :: w :: r => bif Nat.beq v.category 1 && Nat.beq w.category 1 then some ((pc + len, lv, v :: w :: v :: w :: r, h, sl, fr), O) else none
    | _ => none)
def xs_pop : xH := fun _ _ _ _ _ len _ _ pc lv st h sl fr O => (match st with
    | v :: r => bif Nat.beq v.category 1 then some ((pc + len, lv, r, h, sl, fr), O) else none
    | _ => none)
def xs_pop2 : xH := fun _ _ _ _ _ len _ _ pc lv st h sl fr O => (match st with
    | v :: r => bif Nat.beq v.category 2 then some ((pc + len, lv, r, h, sl, fr), O) else none
    | _ => none)
def xs_ifCond (c : ClassFile.Cond) (off : Int) : xH := fun _ iv _ _ _ len _ b pc lv st h sl fr O => (match st with
    | .int x :: r => xcond c x O (fun b O => xgo pc len off lv r h sl fr b O)
    | .float k :: r => (match xdc c (xiv iv k.toNat) 0 with
      | some b => xgo pc len off lv r h sl fr b O
      | none => (match xbr iv c (.float k) (.int 0) with
        | some b => xgo pc len off lv r h sl fr b O
        | none => none))
    | _ => none)
def xs_if_icmp (c : ClassFile.Cond) (off : Int) : xH := fun _ iv _ _ _ len _ b pc lv st h sl fr O => (match st with
    | .int y :: .int x :: r => xicmp c x y O (fun b O => xgo pc len off lv r h sl fr b O)
    | .int y :: .float k :: r => (match xdc c (xiv iv k.toNat) y.toInt with
      | some b => xgo pc len off lv r h sl fr b O
      | none => (match xbr iv c (.float k) (.int y) with
        | some b => xgo pc len off lv r h sl fr b O
        | none => none))
    | .float k :: .int x :: r => (match xdc (xsw c) (xiv iv k.toNat) x.toInt with
      | some b => xgo pc len off lv r h sl fr b O
      | none => (match xbr iv c (.int x) (.float k) with
        | some b => xgo pc len off lv r h sl fr b O
        | none => none))
    | .float j :: .float k :: r => bif decide (j = k) then (match c with
      | .eq => xgo pc len off lv r h sl fr true O
      | .ne => xgo pc len off lv r h sl fr false O
      | _ => none) else (match xbr iv c (.float k) (.float j) with
        | some b => xgo pc len off lv r h sl fr b O
        | none => none)
    | _ => none)
def xs_ifnull (off : Int) : xH := fun _ _ _ _ _ len _ _ pc lv st h sl fr O => (match st with
    | .null :: r => xgo pc len off lv r h sl fr true O
    | .ref _ :: r => xgo pc len off lv r h sl fr false O
    | _ => none)
def xs_ifnonnull (off : Int) : xH := fun _ _ _ _ _ len _ _ pc lv st h sl fr O => (match st with
    | .null :: r => xgo pc len off lv r h sl fr false O
    | .ref _ :: r => xgo pc len off lv r h sl fr true O
    | _ => none)
def xs_goto (off : Int) : xH := fun _ _ _ _ _ len _ _ pc lv st h sl fr O => xgo pc len off lv st h sl fr true O
def xs_tableswitch (dflt : Int) (lo : Int) (hi : Int) (offs : Array Int) : xH := fun _ iv _ _ _ len _ b pc lv st h sl fr O => (match st with
    | .int x :: r => xif (x.toInt < lo) O (fun b O => bif b then xgo pc len dflt lv r h sl fr true O else
      xif (hi < x.toInt) O (fun b O => bif b then xgo pc len dflt lv r h sl fr true O else (match offs.toList[(x.toInt - lo).toNat]? with
        | some off => xgo pc len off lv r h sl fr true O
        | none => none)))
    | .float k :: r => bif decide ((xiv iv k.toNat).2 < lo) || decide (hi < (xiv iv k.toNat).1) then xgo pc len dflt lv r h sl fr true O else none
    | _ => none)
def xs_lookupswitch (dflt : Int) (ps : Array (Int × Int)) : xH := fun _ _ _ _ _ len a _ pc lv st h sl fr O => bif (ps.toList.zip (ps.toList.drop 1)).all (fun (a, next) => a.1 < next.1) then xi1 st (fun x r => xgo pc len (Op.lookupswitch.offset ps.toList dflt x.toInt) lv r h sl fr true O) else none
def xs_getfield : xH := fun _ _ _ _ _ len a b pc lv st h sl fr O => (match st with
    | .ref (q + 1) :: r => (match xnth h q with
      | some (.inr (ci, fs)) => bif Nat.beq ci a then (match xnth fs b with
        | some v => some ((pc + len, lv, v :: r, h, sl, fr), O)
        | none => none) else none
      | _ => none)
    | _ => none)
def xs_putfield : xH := fun _ _ _ _ _ len a b pc lv st h sl fr O => (match st with
    | v :: .ref (q + 1) :: r => (match xnth h q with
      | some (.inr (ci, fs)) => bif Nat.beq ci a && Nat.blt b fs.length && xfit (xTy a b) v then
        xset fs b v (fun fs' => xset h q (.inr (ci, fs')) (fun h' => some ((pc + len, lv, r, h', sl, fr), O))) else none
      | _ => none)
    | _ => none)
def xs_iaload : xH := fun L iv _ _ _ len _ _ pc lv st h sl fr O => (match st with
    | .int i :: .ref 0 :: r => bif xin i (L - 1) then (match xfl iv (i.toNatClampNeg + 2000) with
      | some z => some ((pc + len, lv, .int (Int32.ofInt z) :: r, h, sl, fr), O)
      | none => none) else none
    | .int i :: .ref (q + 1) :: r => (match xnth h q with
      | some (.inl (0, n, .inl f)) => bif xin i n then some ((pc + len, lv, .int (f i.toNatClampNeg) :: r, h, sl, fr), O) else none
      | _ => none)
    | _ => none)
def xs_baload : xH := fun _ _ _ _ _ len _ _ pc lv st h sl fr O => (match st with
    | .int i :: .ref (q + 1) :: r => (match xnth h q with
      | some (.inl (2, n, .inl f)) => bif xin i n then some ((pc + len, lv, .int (f i.toNatClampNeg) :: r, h, sl, fr), O) else none
      | _ => none)
    | _ => none)
def xs_laload : xH := fun _ _ _ _ _ len _ _ pc lv st h sl fr O => (match st with
    | .int i :: .ref (q + 1) :: r => (match xnth h q with
      | some (.inl (1, n, .inr (.inl f))) => bif xin i n then some ((pc + len, lv, .long (f i.toNatClampNeg) :: r, h, sl, fr), O) else none
      | _ => none)
    | _ => none)
def xs_aaload : xH := fun _ _ _ _ _ len _ _ pc lv st h sl fr O => (match st with
    | .int i :: .ref (q + 1) :: r => (match xnth h q with
      | some (.inl (t, n, .inr (.inr (.inr (.inr f))))) => bif xin i n && (Nat.beq t 3 || Nat.beq t 4) then some ((pc + len, lv, va_rf (f i.toNatClampNeg) :: r, h, sl, fr), O) else none
      | _ => none)
    | _ => none)
def xs_iastore : xH := fun _ _ _ _ _ len _ _ pc lv st h sl fr O => (match st with
    | .int x :: .int i :: .ref (q + 1) :: r => (match xnth h q with
      | some (.inl (0, n, .inl f)) => bif xin i n then xset h q (.inl (0, n, .inl (upd f i.toNatClampNeg x))) (fun h' => some ((pc + len, lv, r, h', sl, fr), O)) else none
      | _ => none)
    | .float k :: .int i :: .ref (q + 1) :: r => (match xnth h q with
      | some (.inl (0, n, .inl f)) => bif xin i n && (List.range n).all (fun j => Nat.beq j i.toNatClampNeg || decide (f j = 0)) then
        xset h q (.inl (0, n, .inr (.inr (.inl (fun j => bif Nat.beq j i.toNatClampNeg then k else 7))))) (fun h' => some ((pc + len, lv, r, h', sl, fr), O)) else none
      | _ => none)
    | _ => none)
def xs_bastore : xH := fun _ _ _ _ _ len _ _ pc lv st h sl fr O => (match st with
    | .int x :: .int i :: .ref (q + 1) :: r => (match xnth h q with
      | some (.inl (2, n, .inl f)) => bif xin i n then xset h q (.inl (2, n, .inl (upd f i.toNatClampNeg (vp_nar .boolean x)))) (fun h' => some ((pc + len, lv, r, h', sl, fr), O)) else none
      | _ => none)
    | _ => none)
def xs_lastore : xH := fun _ _ _ _ _ len _ _ pc lv st h sl fr O => (match st with
    | .long x :: .int i :: .ref (q + 1) :: r => (match xnth h q with
      | some (.inl (1, n, .inr (.inl f))) => bif xin i n then xset h q (.inl (1, n, .inr (.inl (vp_updL f i.toNatClampNeg x)))) (fun h' => some ((pc + len, lv, r, h', sl, fr), O)) else none
      | _ => none)
    | .double k :: .int i :: .ref (q + 1) :: r => (match xnth h q with
      | some (.inl (1, n, .inr (.inl f))) => bif xin i n && (Nat.blt k.toNat 2000 && (List.range n).all (fun j => Nat.beq j i.toNatClampNeg || decide (f j = 0))) then
        xset h q (.inl (1, n, .inr (.inr (.inl (fun j => bif Nat.beq j i.toNatClampNeg then k.toUInt32 else 7))))) (fun h' => some ((pc + len, lv, r, h', sl, fr), O)) else none
      | _ => none)
    | _ => none)
def xs_aastore : xH := fun _ _ _ _ _ len _ _ pc lv st h sl fr O => (match st with
    | .ref (v + 1) :: .int i :: .ref (q + 1) :: r => (match xnth h q with
      | some (.inl (t, n, .inr (.inr (.inr (.inr f))))) => (match xnth h v with
        | some (.inr (ci, _)) => bif xin i n && ((Nat.beq t 3 && Nat.beq ci 1) || (Nat.beq t 4 && Nat.beq ci 6)) then
          xset h q (.inl (t, n, .inr (.inr (.inr (.inr (va_up f i.toNatClampNeg (some (v + 1)))))))) (fun h' => some ((pc + len, lv, r, h', sl, fr), O)) else none
        | _ => none)
      | _ => none)
    | _ => none)
def xs_arraylength : xH := fun L _ _ _ _ len _ _ pc lv st h sl fr O => (match st with
    | .ref 0 :: r => bif Nat.beq L 0 then none else some ((pc + len, lv, .int (Int32.ofNat (L - 1)) :: r, h, sl, fr), O)
    | .ref (q + 1) :: r => (match xnth h q with
      | some (.inl (t, n, _)) => bif Nat.blt t 5 then some ((pc + len, lv, .int (Int32.ofNat n) :: r, h, sl, fr), O) else none
      | _ => none)
    | _ => none)
def xs_newarray : xH := fun _ _ _ _ _ len a _ pc lv st h sl fr O => xi1 st (fun x r => bif decide (x < 0) || !(Nat.ble x.toNatClampNeg 60000) || !(Nat.blt a 3) then none else (match xnew a x.toNatClampNeg with
    | some w => xapp h (.inl (a, w)) (fun h' => some ((pc + len, lv, .ref (h.length + 1) :: r, h', sl + x.toNatClampNeg, fr), O))
    | none => none))
def xs_anewarray : xH := fun _ _ _ _ _ len a _ pc lv st h sl fr O => xi1 st (fun x r => bif decide (x < 0) || !(Nat.ble x.toNatClampNeg 60000) || Nat.blt a 3 then none else (match xnew a x.toNatClampNeg with
    | some w => xapp h (.inl (a, w)) (fun h' => some ((pc + len, lv, .ref (h.length + 1) :: r, h', sl + x.toNatClampNeg, fr), O))
    | none => none))
def xs_new : xH := fun _ _ _ _ _ len a _ pc lv st h sl fr O => (match xnth vwCl a with
    | some q => xapp h (.inr (a, xDf a q.2.2)) (fun h' => some ((pc + len, lv, .ref (h.length + 1) :: st, h', sl + q.2.2, fr), O))
    | none => none)
def xs_invokevirtual : xH := fun _ _ Ms C _ _ a b pc lv st h sl fr O => xcall Ms C pc lv st h sl fr O a b
def xs_invokestatic : xH := fun _ _ Ms C _ _ a b pc lv st h sl fr O => xcall Ms C pc lv st h sl fr O a b
def xs_invokespecial : xH := fun _ _ Ms C _ _ a b pc lv st h sl fr O => xcall Ms C pc lv st h sl fr O a b
def xdisp (ins : Instr) : Option xH := match ins with
  | .iconst n => some (xs_iconst n)
  | .bipush n => some (xs_bipush n)
  | .sipush n => some (xs_sipush n)
  | .lconst n => some (xs_lconst n)
  | .aconst_null => some (xs_aconst_null)
  | .ldc _ => some (xs_ldc)
  | .ldc_w _ => some (xs_ldc_w)
  | .ldc2_w _ => some (xs_ldc2_w)
  | .iload i => some (xs_iload i)
  | .iload_n i => some (xs_iload_n i)
  | .lload i => some (xs_lload i)
  | .lload_n i => some (xs_lload_n i)
  | .aload i => some (xs_aload i)
  | .aload_n i => some (xs_aload_n i)
  | .istore i => some (xs_istore i)
  | .istore_n i => some (xs_istore_n i)
  | .lstore i => some (xs_lstore i)
  | .lstore_n i => some (xs_lstore_n i)
  | .astore i => some (xs_astore i)
  | .astore_n i => some (xs_astore_n i)
  | .iinc i n => some (xs_iinc i n)
  | .iadd => some (xs_iadd)
  | .isub => some (xs_isub)
  | .imul => some (xs_imul)
  | .iand => some (xs_iand)
  | .ior => some (xs_ior)
  | .ixor => some (xs_ixor)
  | .ishl => some (xs_ishl)
  | .ishr => some (xs_ishr)
  | .iushr => some (xs_iushr)
  | .idiv => some (xs_idiv)
  | .irem => some (xs_irem)
  | .ineg => some (xs_ineg)
  | .ladd => some (xs_ladd)
  | .lsub => some (xs_lsub)
  | .land => some (xs_land)
  | .lor => some (xs_lor)
  | .lshl => some (xs_lshl)
  | .lcmp => some (xs_lcmp)
  | .i2l => some (xs_i2l)
  | .l2i => some (xs_l2i)
  | .i2b => some (xs_i2b)
  | .i2s => some (xs_i2s)
  | .dup => some (xs_dup)
  | .dup2 => some (xs_dup2)
  | .pop => some (xs_pop)
  | .pop2 => some (xs_pop2)
  | .ifCond c off => some (xs_ifCond c off)
  | .if_icmp c off => some (xs_if_icmp c off)
  | .ifnull off => some (xs_ifnull off)
  | .ifnonnull off => some (xs_ifnonnull off)
  | .goto off => some (xs_goto off)
  | .tableswitch dflt lo hi offs => some (xs_tableswitch dflt lo hi offs)
  | .lookupswitch dflt ps => some (xs_lookupswitch dflt ps)
  | .getfield _ => some (xs_getfield)
  | .putfield _ => some (xs_putfield)
  | .iaload => some (xs_iaload)
  | .baload => some (xs_baload)
  | .laload => some (xs_laload)
  | .aaload => some (xs_aaload)
  | .iastore => some (xs_iastore)
  | .bastore => some (xs_bastore)
  | .lastore => some (xs_lastore)
  | .aastore => some (xs_aastore)
  | .arraylength => some (xs_arraylength)
  | .newarray _ => some (xs_newarray)
  | .anewarray _ => some (xs_anewarray)
  | .new _ => some (xs_new)
  | .invokevirtual _ => some (xs_invokevirtual)
  | .invokestatic _ => some (xs_invokestatic)
  | .invokespecial _ => some (xs_invokespecial)
  | _ => none
def xstep (L : Nat) (iv : List (Int × Int)) (Ms : List xM) (C : xCT) (M : xM) (ins : Instr) (len a b : Nat) (pc : Nat) (lv : xLv) (st : List Value) (h : List xE) (sl fr : Nat) (O : xO) : Option (xS × xO) := match xdisp ins with
  | some f => f L iv Ms C M len a b pc lv st h sl fr O
  | none => none
def xisr (ins : Instr) : Bool := match ins with
  | .ireturn => true
  | .lreturn => true
  | .areturn => true
  | .return_ => true
  | _ => false
def xrun (L : Nat) (iv : List (Int × Int)) (Ms : List xM) (C : xCT) (M : xM) : Nat → xS → xO → Option (xS × xO)
  | 0, S, O => some (S, O)
  | n + 1, (pc, lv, st, h, sl, fr), O => match xfet (xMt M) pc with
    | none => none
    | some (ins, len, a, b) => bif xisr ins then some ((pc, lv, st, h, sl, fr), O) else match xstep L iv Ms C M ins len a b pc lv st h sl fr O with
      | none => none
      | some (S', O') => xrun L iv Ms C M n S' O'
def xend (M : xM) (S : xS) (O : xO) : Option (xR × xO) := match S with
  | (pc, _, st, h, sl, fr) => match xfet (xMt M) pc with
    | some (.ireturn, _) => (match st, xMr M with
      | [.int v], some .int => some ((h, some (.int v), sl, fr), O)
      | [.float v], some .int => some ((h, some (.float v), sl, fr), O)
      | [.int v], some .boolean => bif decide (v = 0) || decide (v = 1) then some ((h, some (.int v), sl, fr), O) else none
      | _, _ => none)
    | some (.lreturn, _) => (match st, xMr M with
      | [.long v], some .long => some ((h, some (.long v), sl, fr), O)
      | [.double v], some .long => some ((h, some (.double v), sl, fr), O)
      | _, _ => none)
    | some (.areturn, _) => (match st, xMr M with
      | [.ref v], some (.object _) => some ((h, some (.ref v), sl, fr), O)
      | [.null], some (.object _) => some ((h, some .null, sl, fr), O)
      | _, _ => none)
    | some (.return_, _) => (match st, xMr M with
      | [], none => some ((h, none, sl, fr), O)
      | _, _ => none)
    | _ => none
def xexe (L : Nat) (iv : List (Int × Int)) (Ms : List xM) (C : xCT) (n : Nat) (M : xM) (as : List Value) (h : List xE) (O : xO) : Option (xR × xO) :=
  bif Nat.ble (xcat as) (xMn M) then (match xrun L iv Ms C M n (0, lv_args 0 as, [], h, 0, 0) O with
    | some (S, O') => xend M S O'
    | none => none) else none
def xC (B : xCT) (iv : List (Int × Int)) (Ms : List xM) (n : Nat) : Nat → xCT
  | 0 => fun _ _ _ _ => none
  | d + 1 => fun a as h O => match B a as h O with
    | some z => some z
    | none => match xnth Ms a with
      | some M => xexe 0 iv Ms (xC B iv Ms n d) n M as h O
      | none => none
