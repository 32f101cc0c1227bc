/-! THE LAW'S BEGIN: its memory -/
def st0 (L : Nat) (xs : Nat → Int32) : pMem := (fun h k => if h = 900000 then xs k else 0, fun _ _ => none, fun _ _ => 0, fun h => if h = 900000 then (103, L) else if 900001 ≤ h ∧ h < 900047 then (104, 0) else (0, 0), 0, 0)
def st1 (L : Nat) (xs : Nat → Int32) : pMem := nwo (nw (st0 L xs) 11 0 11) 0 0 6 2 f197
def st2 (L : Nat) (xs : Nat → Int32) : pMem := nwo (st1 L xs) 0 1 9 15 f215
def st3 (L : Nat) (xs : Nat → Int32) : pMem := nwo (st2 L xs) 0 2 9 15 f215
def st4 (L : Nat) (xs : Nat → Int32) : pMem := nwo (st3 L xs) 0 3 9 15 f215
def st5 (L : Nat) (xs : Nat → Int32) : pMem := sP (f241 (nw (st4 L xs) 10 0 18) (gN (st4 L xs)) 2 3) 0 4 (some (gN (st4 L xs)))
def st6 (L : Nat) (xs : Nat → Int32) : pMem := sP (f205 (nw (st5 L xs) 8 0 12) (gN (st5 L xs)) 2) 0 5 (some (gN (st5 L xs)))
def st7 (L : Nat) (xs : Nat → Int32) : pMem := nwo (st6 L xs) 0 6 4 6 f169
def st8 (L : Nat) (xs : Nat → Int32) : pMem := sP (f190 (nw (st7 L xs) 5 0 5) (gN (st7 L xs)) 3) 0 7 (some (gN (st7 L xs)))
def st9 (L : Nat) (xs : Nat → Int32) : pMem := sI (sI (sP (nw (st8 L xs) 3 0 4) 0 8 (some (gN (st8 L xs)))) 0 9 (nN 0)) 0 10 (iN (-1))
