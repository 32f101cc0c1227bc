/-! THE PURE MACHINE: the class's and the reference's bytecode, run over a memory of typed cells (ints, references, longs), by handles. -/
def iN (a : Int) : Int32 := Int32.ofInt a
/-- ints, references, longs by handle and place; what a handle is; handles so far; slots so far -/
abbrev pMem : Type := (Nat → Nat → Int32) × (Nat → Nat → Option Nat) × (Nat → Nat → Int64) × (Nat → Nat × Nat) × Nat × Nat
def gI (M : pMem) : Nat → Nat → Int32 := M.1
def gP (M : pMem) : Nat → Nat → Option Nat := M.2.1
def gJ (M : pMem) : Nat → Nat → Int64 := M.2.2.1
def gS (M : pMem) : Nat → Nat × Nat := M.2.2.2.1
def gN (M : pMem) : Nat := M.2.2.2.2.1
def gL (M : pMem) : Nat := M.2.2.2.2.2
def up2 {α : Type} (f : Nat → Nat → α) (h k : Nat) (x : α) : Nat → Nat → α := fun a b => if a = h ∧ b = k then x else f a b
def upR {α : Type} (f : Nat → Nat → α) (h : Nat) (r : Nat → α) : Nat → Nat → α := fun a => if a = h then r else f a
def sI (M : pMem) (h k : Nat) (x : Int32) : pMem := (up2 M.1 h k x, M.2)
def sP (M : pMem) (h k : Nat) (x : Option Nat) : pMem := (M.1, up2 M.2.1 h k x, M.2.2)
def sJ (M : pMem) (h k : Nat) (x : Int64) : pMem := (M.1, M.2.1, up2 M.2.2.1 h k x, M.2.2.2)
def sR (M : pMem) (h : Nat) (r : Nat → Int32) : pMem := (upR M.1 h r, M.2)
/-- a new cell: of kind t, of n places, counted as w slots -/
def nw (M : pMem) (t n w : Nat) : pMem := (upR M.1 (gN M) (fun _ => 0), upR M.2.1 (gN M) (fun _ => none), upR M.2.2.1 (gN M) (fun _ => 0), fun a => if a = gN M then (t, n) else M.2.2.2.1 a, gN M + 1, gL M + w)
/-- what is thrown takes a cell of its own, that nobody reads -/
def nx (M : pMem) : pMem := (M.1, M.2.1, M.2.2.1, fun a => if a = gN M then (0, 0) else M.2.2.2.1 a, gN M + 1, gL M + 6)
abbrev pLo : Type := List (Option Value)
abbrev pCfg : Type := pLo × List Value × pMem
abbrev pOut : Type := (Option Value) ⊕ Nat
/-- pc, instruction, its length, what it is linked to -/
abbrev pEnt : Type := Nat × Instr × Nat × List Nat
/-- goes on; jumps to a block; calls (who, with what, then); ends -/
abbrev pRes : Type := pCfg ⊕ ((Nat × pCfg) ⊕ ((Nat × List Value × pCfg) ⊕ (pOut × pMem)))
abbrev pNext (c : pCfg) : Option pRes := some (.inl c)
abbrev pJump (b : Nat) (c : pCfg) : Option pRes := some (.inr (.inl (b, c)))
abbrev pCall (y : Nat) (as : List Value) (c : pCfg) : Option pRes := some (.inr (.inr (.inl (y, as, c))))
abbrev pEnd (o : pOut) (M : pMem) : Option pRes := some (.inr (.inr (.inr (o, M))))
def pPush (c : pCfg) (v : Value) : Option pRes := pNext (c.1, v :: c.2.1, c.2.2)
def pLdI (c : pCfg) (k : Nat) : Option pRes := match c.1[k]? with
  | some (some (.int x)) => pPush c (.int x)
  | _ => none
def pLdA (c : pCfg) (k : Nat) : Option pRes := match c.1[k]? with
  | some (some (.ref x)) => pPush c (.ref x)
  | some (some .null) => pPush c .null
  | _ => none
def pStI (c : pCfg) (k : Nat) : Option pRes := match c.2.1 with
  | .int x :: r => if k < c.1.length then pNext (c.1.set k (some (.int x)), r, c.2.2) else none
  | _ => none
def pStA (c : pCfg) (k : Nat) : Option pRes := match c.2.1 with
  | .ref x :: r => if k < c.1.length then pNext (c.1.set k (some (.ref x)), r, c.2.2) else none
  | .null :: r => if k < c.1.length then pNext (c.1.set k (some .null), r, c.2.2) else none
  | _ => none
def pInc (c : pCfg) (k : Nat) (n : Int) : Option pRes := match c.1[k]? with
  | some (some (.int x)) => pNext (c.1.set k (some (.int (x + iN n))), c.2.1, c.2.2)
  | _ => none
def pUn (c : pCfg) (f : Int32 → Int32) : Option pRes := match c.2.1 with
  | .int x :: r => pNext (c.1, .int (f x) :: r, c.2.2)
  | _ => none
def pBin (c : pCfg) (f : Int32 → Int32 → Int32) : Option pRes := match c.2.1 with
  | .int y :: .int x :: r => pNext (c.1, .int (f x y) :: r, c.2.2)
  | _ => none
def pDiv (c : pCfg) (f : Int32 → Int32 → Int32) : Option pRes := match c.2.1 with
  | .int y :: .int x :: r => if y = 0 then none else pNext (c.1, .int (f x y) :: r, c.2.2)
  | _ => none
def pIf (c : pCfg) (b : Nat) (f : Int32 → Bool) : Option pRes := match c.2.1 with
  | .int x :: r => if f x = true then pJump b (c.1, r, c.2.2) else pNext (c.1, r, c.2.2)
  | _ => none
def pCmp (c : pCfg) (b : Nat) (f : Int32 → Int32 → Bool) : Option pRes := match c.2.1 with
  | .int y :: .int x :: r => if f x y = true then pJump b (c.1, r, c.2.2) else pNext (c.1, r, c.2.2)
  | _ => none
def pIn (i : Int32) (n : Nat) : Bool := decide (0 ≤ i.toInt ∧ i.toInt < n)
def pIx (i : Int32) : Nat := i.toNatClampNeg
def pCat1 : Value → Bool
  | .int _ => true
  | .ref _ => true
  | .null => true
  | _ => false
def pRf (o : Option Nat) : Value := match o with
  | none => .null
  | some a => .ref a
/-- where a reference field lies (by the class's place + 1, the field's place) -/
def pTag (M : pMem) (h : Nat) (ts : List Nat) : Bool := ts.contains (gS M h).1
def pGet (c : pCfg) : List Nat → Option pRes
  | k :: rf :: _ :: _ :: _ :: ts => match c.2.1 with
    | .ref h :: r => if pTag c.2.2 h ts = true then (if rf = 1 then pNext (c.1, pRf (gP c.2.2 h k) :: r, c.2.2) else pNext (c.1, .int (gI c.2.2 h k) :: r, c.2.2)) else none
    | _ => none
  | _ => none
def pPut (c : pCfg) : List Nat → Option pRes
  | k :: rf :: _ :: _ :: _ :: ts => match c.2.1 with
    | .int x :: .ref h :: r => if pTag c.2.2 h ts = true ∧ (rf = 0 ∨ rf = 2 ∧ (x = 0 ∨ x = 1)) then pNext (c.1, r, sI c.2.2 h k x) else none
    | .ref q :: .ref h :: r => if pTag c.2.2 h ts = true ∧ rf = 1 then pNext (c.1, r, sP c.2.2 h k (some q)) else none
    | _ => none
  | _ => none
def pALd (c : pCfg) : Option pRes := match c.2.1 with
  | .int i :: .ref h :: r => if ((gS c.2.2 h).1 = 100 ∨ (gS c.2.2 h).1 = 103) ∧ pIn i (gS c.2.2 h).2 = true then pNext (c.1, .int (gI c.2.2 h (pIx i)) :: r, c.2.2) else none
  | _ => none
def pASt (c : pCfg) : Option pRes := match c.2.1 with
  | .int x :: .int i :: .ref h :: r => if (gS c.2.2 h).1 = 100 ∧ pIn i (gS c.2.2 h).2 = true then pNext (c.1, r, sI c.2.2 h (pIx i) x) else none
  | _ => none
def pLLd (c : pCfg) : Option pRes := match c.2.1 with
  | .int i :: .ref h :: r => if (gS c.2.2 h).1 = 101 ∧ pIn i (gS c.2.2 h).2 = true then pNext (c.1, .long (gJ c.2.2 h (pIx i)) :: r, c.2.2) else none
  | _ => none
def pLSt (c : pCfg) : Option pRes := match c.2.1 with
  | .long x :: .int i :: .ref h :: r => if (gS c.2.2 h).1 = 101 ∧ pIn i (gS c.2.2 h).2 = true then pNext (c.1, r, sJ c.2.2 h (pIx i) x) else none
  | _ => none
def pQLd (c : pCfg) : Option pRes := match c.2.1 with
  | .int i :: .ref h :: r => if (gS c.2.2 h).1 = 102 ∧ pIn i (gS c.2.2 h).2 = true then pNext (c.1, pRf (gP c.2.2 h (pIx i)) :: r, c.2.2) else none
  | _ => none
def pQSt (c : pCfg) : Option pRes := match c.2.1 with
  | .ref q :: .int i :: .ref h :: r => if (gS c.2.2 h).1 = 102 ∧ pIn i (gS c.2.2 h).2 = true ∧ (gS c.2.2 q).1 = 7 then pNext (c.1, r, sP c.2.2 h (pIx i) (some q)) else none
  | .null :: .int i :: .ref h :: r => if (gS c.2.2 h).1 = 102 ∧ pIn i (gS c.2.2 h).2 = true then pNext (c.1, r, sP c.2.2 h (pIx i) none) else none
  | _ => none
def pLen (c : pCfg) : Option pRes := match c.2.1 with
  | .ref h :: r => if 100 ≤ (gS c.2.2 h).1 ∧ (gS c.2.2 h).1 ≤ 103 then pNext (c.1, .int (iN (gS c.2.2 h).2) :: r, c.2.2) else none
  | _ => none
def pNewA (c : pCfg) (t : Nat) : Option pRes := match c.2.1 with
  | .int n :: r => if 0 ≤ n.toInt ∧ n.toInt < 1000000 then pNext (c.1, .ref (gN c.2.2) :: r, nw c.2.2 t (pIx n) (pIx n)) else none
  | _ => none
def pNull (c : pCfg) (b : Nat) (isN : Bool) : Option pRes := match c.2.1 with
  | .ref _ :: r => if isN = true then pNext (c.1, r, c.2.2) else pJump b (c.1, r, c.2.2)
  | .null :: r => if isN = true then pJump b (c.1, r, c.2.2) else pNext (c.1, r, c.2.2)
  | _ => none
def pFind (t : Nat) : List Nat → Option Nat
  | a :: z :: r => if a = t then some z else pFind t r
  | _ => none
/-- the words of what stays on the stack below a call's arguments -/
def pRm (r : List Value) : Nat := (r.map fun v => v.category).sum
/-- a call on an object: how many arguments, then (kind, who) -/
def pInvV (c : pCfg) (n : Nat) (zs : List Nat) : Option pRes := match c.2.1.drop n with
  | .ref h :: r => match pFind (gS c.2.2 h).1 zs with
    | some z => if pRm r ≤ 8 ∧ (c.2.1.take n).length = n then pCall z (.ref h :: (c.2.1.take n).reverse) (c.1, r, c.2.2) else none
    | none => none
  | _ => none
def pInvS (c : pCfg) (n z : Nat) : Option pRes := if pRm (c.2.1.drop n) ≤ 8 ∧ (c.2.1.take n).length = n then pCall z (c.2.1.take n).reverse (c.1, c.2.1.drop n, c.2.2) else none
/-- System.arraycopy of ints -/
def pCpy (c : pCfg) : Option pRes := match c.2.1 with
  | .int n :: .int dp :: .ref b :: .int sp :: .ref a :: r => if (gS c.2.2 a).1 = 100 ∧ (gS c.2.2 b).1 = 100 ∧ a ≠ b ∧ 0 ≤ sp.toInt ∧ 0 ≤ dp.toInt ∧ 0 ≤ n.toInt ∧ pIx sp + pIx n ≤ (gS c.2.2 a).2 ∧ pIx dp + pIx n ≤ (gS c.2.2 b).2 ∧ pRm r ≤ 8 then
      pNext (c.1, r, sR c.2.2 b (va_cpy (gI c.2.2 a) (gI c.2.2 b) (pIx sp) (pIx dp) (pIx n))) else none
  | _ => none
def pOff (pc : Nat) (off : Int) : Nat := ((pc : Int) + off).toNat
def pSw (c : pCfg) (f : Int32 → Option Nat) : Option pRes := match c.2.1 with
  | .int x :: r => (f x).bind (fun b => pJump b (c.1, r, c.2.2))
  | _ => none
/-- the constructor of java.lang.Object -/
def pObj (c : pCfg) : Option pRes := match c.2.1 with
  | .ref _ :: r => if pRm r ≤ 8 then pNext (c.1, r, c.2.2) else none
  | _ => none
def pLk : List (Int × Int) → List Nat → Nat → Int → Option Nat
  | [], _, d, _ => some d
  | (a, _) :: r, b :: bs, d, x => if x = a then some b else pLk r bs d x
  | _, _, _, _ => none
/-- one instruction -/
def stE (e : pEnt) (c : pCfg) : Option pRes := match e.2.1 with
  | .iconst n => pPush c (.int (iN n))
  | .bipush n => pPush c (.int (iN n))
  | .sipush n => pPush c (.int (iN n))
  | .lconst n => pPush c (.long (Int64.ofNat (n : Nat)))
  | .aconst_null => pPush c .null
  | .ldc _ => match e.2.2.2 with
    | 0 :: a :: b :: _ => pPush c (.int (iN ((a : Int) - b)))
    | [1, h] => pPush c (.ref h)
    | _ => none
  | .ldc_w _ => match e.2.2.2 with
    | 0 :: a :: b :: _ => pPush c (.int (iN ((a : Int) - b)))
    | [1, h] => pPush c (.ref h)
    | _ => none
  | .iload k => pLdI c k
  | .iload_n k => pLdI c k
  | .aload k => pLdA c k
  | .aload_n k => pLdA c k
  | .istore k => pStI c k
  | .istore_n k => pStI c k
  | .astore k => pStA c k
  | .astore_n k => pStA c k
  | .iinc k n => pInc c k n
  | .iadd => pBin c (fun x y => x + y)
  | .isub => pBin c (fun x y => x - y)
  | .imul => pBin c (fun x y => x * y)
  | .iand => pBin c (fun x y => x &&& y)
  | .ior => pBin c (fun x y => x ||| y)
  | .ixor => pBin c (fun x y => x ^^^ y)
  | .ishl => pBin c (fun x y => x <<< (y &&& 31))
  | .ishr => pBin c (fun x y => x >>> (y &&& 31))
  | .iushr => pBin c (fun x y => (x.toUInt32 >>> (y.toUInt32 &&& Int32.toUInt32 31)).toInt32)
  | .idiv => pDiv c (fun x y => x / y)
  | .irem => pDiv c (fun x y => x - x / y * y)
  | .ineg => pUn c (fun x => -x)
  | .i2l => match c.2.1 with
    | .int x :: r => pNext (c.1, .long x.toInt64 :: r, c.2.2)
    | _ => none
  | .lcmp => match c.2.1 with
    | .long y :: .long x :: r => pNext (c.1, .int (lg_cmp x y) :: r, c.2.2)
    | _ => none
  | .dup => match c.2.1 with
    | v :: r => if pCat1 v = true then pNext (c.1, v :: v :: r, c.2.2) else none
    | _ => none
  | .dup2 => match c.2.1 with
    | v :: w :: r => if pCat1 v = true ∧ pCat1 w = true then pNext (c.1, v :: w :: v :: w :: r, c.2.2) else none
    | _ => none
  | .pop => match c.2.1 with
    | v :: r => if pCat1 v = true then pNext (c.1, r, c.2.2) else none
    | _ => none
  | .ifCond .eq _ => pIf c (e.2.2.2.headD 0) (fun x => decide (x = 0))
  | .ifCond .ne _ => pIf c (e.2.2.2.headD 0) (fun x => decide (¬ x = 0))
  | .ifCond .lt _ => pIf c (e.2.2.2.headD 0) (fun x => decide (x < 0))
  | .ifCond .ge _ => pIf c (e.2.2.2.headD 0) (fun x => decide (0 ≤ x))
  | .ifCond .gt _ => pIf c (e.2.2.2.headD 0) (fun x => decide (0 < x))
  | .ifCond .le _ => pIf c (e.2.2.2.headD 0) (fun x => decide (x ≤ 0))
  | .if_icmp .eq _ => pCmp c (e.2.2.2.headD 0) (fun x y => decide (x = y))
  | .if_icmp .ne _ => pCmp c (e.2.2.2.headD 0) (fun x y => decide (¬ x = y))
  | .if_icmp .lt _ => pCmp c (e.2.2.2.headD 0) (fun x y => decide (x < y))
  | .if_icmp .ge _ => pCmp c (e.2.2.2.headD 0) (fun x y => decide (y ≤ x))
  | .if_icmp .gt _ => pCmp c (e.2.2.2.headD 0) (fun x y => decide (y < x))
  | .if_icmp .le _ => pCmp c (e.2.2.2.headD 0) (fun x y => decide (x ≤ y))
  | .ifnull _ => pNull c (e.2.2.2.headD 0) true
  | .ifnonnull _ => pNull c (e.2.2.2.headD 0) false
  | .goto _ => pJump (e.2.2.2.headD 0) c
  | .nop => pJump (e.2.2.2.headD 0) c
  | .tableswitch _ lo hi _ => pSw c (fun x => if x.toInt < lo ∨ hi < x.toInt then e.2.2.2.head? else e.2.2.2[(x.toInt - lo).toNat + 1]?)
  | .lookupswitch _ ps => pSw c (fun x => pLk ps.toList e.2.2.2.tail (e.2.2.2.headD 0) x.toInt)
  | .getfield _ => pGet c e.2.2.2
  | .putfield _ => pPut c e.2.2.2
  | .iaload => pALd c
  | .iastore => pASt c
  | .laload => pLLd c
  | .lastore => pLSt c
  | .aaload => pQLd c
  | .aastore => pQSt c
  | .arraylength => pLen c
  | .newarray .int => pNewA c 100
  | .newarray .long => pNewA c 101
  | .anewarray _ => pNewA c 102
  | .new _ => match e.2.2.2 with
    | 1 :: t :: n :: _ => pNext (c.1, .ref (gN c.2.2) :: c.2.1, nw c.2.2 t 0 n)
    | 2 :: k :: _ => if pRm c.2.1 ≤ 8 then pEnd (.inr k) (nx c.2.2) else none
    | _ => none
  | .invokespecial _ => match e.2.2.2 with
    | 0 :: _ => pObj c
    | _ :: n :: _ :: _ :: zs => pInvV c n zs
    | _ => none
  | .invokevirtual _ => match e.2.2.2 with
    | _ :: n :: _ :: _ :: zs => pInvV c n zs
    | _ => none
  | .invokestatic _ => match e.2.2.2 with
    | 1 :: _ => if pRm c.2.1 ≤ 16 then pBin c (fun x y => if x < y then y else x) else none
    | 2 :: _ => if pRm c.2.1 ≤ 16 then pBin c (fun x y => if y < x then y else x) else none
    | 3 :: _ => pCpy c
    | _ :: n :: _ :: _ :: z :: _ => pInvS c n z
    | _ => none
  | .ireturn => match c.2.1 with
    | [.int x] => if e.2.2.2 = [0] ∨ e.2.2.2 = [2] ∧ (x = 0 ∨ x = 1) then pEnd (.inl (some (.int x))) c.2.2 else none
    | _ => none
  | .areturn => match c.2.1 with
    | [.ref x] => pEnd (.inl (some (.ref x))) c.2.2
    | [.null] => pEnd (.inl (some .null)) c.2.2
    | _ => none
  | .return_ => match c.2.1 with
    | [] => pEnd (.inl none) c.2.2
    | _ => none
  | _ => none
/-- what is caught: (who is thrown, the block behind the handler's first instruction, the local that this one fills) -/
def pHnd (k : Nat) (hs : List (Nat × Nat × Nat)) : Option (Nat × Nat) := (hs.find? (fun q => q.1 = k)).map (fun q => q.2)
/-- a block, from one of its instructions on -/
def exB (F : Nat → List Value → pMem → Option (pOut × pMem)) (J : Nat → pCfg → Option (pOut × pMem)) (hs : List (Nat × Nat × Nat)) : List pEnt → pCfg → Option (pOut × pMem)
  | [], _ => none
  | e :: es, c => match stE e c with
    | some (.inl c') => exB F J hs es c'
    | some (.inr (.inl (b, c'))) => J b c'
    | some (.inr (.inr (.inl (y, as, c')))) => match F y as c'.2.2 with
      | some (.inl v, M') => exB F J hs es (c'.1, v.toList ++ c'.2.1, M')
      | some (.inr k, M') => if e.2.2.2.headD 0 = 10 ∨ e.2.2.2.headD 0 = 20 then (match hs with
        | [] => some (.inr k, M')
        | _ => match pHnd k hs with
          | some (b, k9) => J b (c'.1.set k9 none, [], M')
          | none => none) else none
      | none => none
    | some (.inr (.inr (.inr r))) => some r
    | none => none
/-- a method's blocks -/
def exM (F : Nat → List Value → pMem → Option (pOut × pMem)) (T : List (List pEnt)) (hs : List (Nat × Nat × Nat)) : Nat → Nat → pCfg → Option (pOut × pMem)
  | 0, _, _ => none
  | n + 1, b, c => exB F (exM F T hs n) hs (T.getD b []) c
/-- a method of the program: locals, handlers, blocks -/
abbrev pMeth : Type := Nat × List (Nat × Nat × Nat) × List (List pEnt)
def pEnt0 (nL : Nat) (as : List Value) (M : pMem) : pCfg := (as.map some ++ List.replicate (nL - as.length) none, [], M)
/-- the program G and what is built in, so many calls deep, so many blocks a method -/
def exP (G : List pMeth) (B : Nat → List Value → pMem → Option (pOut × pMem)) : Nat → Nat → Nat → List Value → pMem → Option (pOut × pMem)
  | 0, _, _, _, _ => none
  | d + 1, n, y, as, M => match G[y]? with
    | some (nL, hs, T) => if as.length ≤ nL ∧ as.all pCat1 = true then exM (exP G B d n) T hs n 0 (pEnt0 nL as M) else none
    | none => B y as M
