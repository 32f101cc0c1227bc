/-! branches, jumps, switches -/
def pLkOK (pc : Nat) (bl : List Nat) : List (Int × Int) → List Nat → Bool
  | [], [] => true
  | (_, o) :: r, b :: bs => decide ((pc : Int) + o = ((bl.getD b 0 : Nat) : Int)) && pLkOK pc bl r bs
  | _, _ => false
def pTbOK (pc : Nat) (bl : List Nat) : List Int → List Nat → Bool
  | [], [] => true
  | o :: r, b :: bs => decide ((pc : Int) + o = ((bl.getD b 0 : Nat) : Int)) && pTbOK pc bl r bs
  | _, _ => false
/-- a branch's target is its block's first instruction -/
def pBrOK (pc : Nat) (i : Instr) (n : Nat) (an bl : List Nat) : Bool := match i with
  | .ifCond _ off => decide (n = 3 ∧ (pc : Int) + off = ((bl.getD (an.headD 0) 0 : Nat) : Int))
  | .if_icmp _ off => decide (n = 3 ∧ (pc : Int) + off = ((bl.getD (an.headD 0) 0 : Nat) : Int))
  | .ifnull off => decide (n = 3 ∧ (pc : Int) + off = ((bl.getD (an.headD 0) 0 : Nat) : Int))
  | .ifnonnull off => decide (n = 3 ∧ (pc : Int) + off = ((bl.getD (an.headD 0) 0 : Nat) : Int))
  | .goto off => decide (n = 3 ∧ (pc : Int) + off = ((bl.getD (an.headD 0) 0 : Nat) : Int))
  | .tableswitch d _ _ offs => pTbOK pc bl (d :: offs.toList) an
  | .lookupswitch d ps => (ps.toList.zip (ps.toList.drop 1)).all (fun (a, next) => a.1 < next.1) && decide ((pc : Int) + d = ((bl.getD (an.headD 0) 0 : Nat) : Int)) && pLkOK pc bl ps.toList an.tail
  | _ => false
theorem pLk_of {pc : Nat} {bl : List Nat} {d : Int} {b0 : Nat} (hd : (pc : Int) + d = ((bl.getD b0 0 : Nat) : Int)) {x : Int} {b : Nat} : ∀ (ps : List (Int × Int)) (bs : List Nat), pLkOK pc bl ps bs = true → pLk ps bs b0 x = some b → (pc : Int) + Op.lookupswitch.offset ps d x = ((bl.getD b 0 : Nat) : Int) := by
  intro ps
  induction ps with
  | nil =>
    intro bs h1 h2
    cases bs with
    | nil =>
      simp only [pLk] at h2
      cases h2
      exact hd
    | cons b' bs => cases h1
  | cons q r ih =>
    obtain ⟨a, o⟩ := q
    intro bs h1 h2
    cases bs with
    | nil => cases h1
    | cons b' bs =>
      simp only [pLkOK, Bool.and_eq_true, decide_eq_true_eq] at h1
      rw [Op.lookupswitch.offset_cons]
      simp only [pLk] at h2
      split at h2
      · rename_i e
        cases h2
        simp only [e]
        simpa using h1.1
      · rename_i e
        have e2 : ¬ a = x := fun q => e q.symm
        simp only [e, e2, if_false]
        simpa [e, e2] using ih bs h1.2 h2
theorem pTb_of {pc : Nat} {bl : List Nat} : ∀ (os : List Int) (bs : List Nat), pTbOK pc bl os bs = true → ∀ (j b : Nat), bs[j]? = some b → ∃ o, os[j]? = some o ∧ (pc : Int) + o = ((bl.getD b 0 : Nat) : Int) := by
  intro os
  induction os with
  | nil =>
    intro bs h1 j b hb
    cases bs with
    | nil => simp at hb
    | cons b' bs => cases h1
  | cons o r ih =>
    intro bs h1 j b hb
    cases bs with
    | nil => cases h1
    | cons b' bs =>
      simp only [pTbOK, Bool.and_eq_true, decide_eq_true_eq] at h1
      cases j with
      | zero => simp at hb; subst hb; exact ⟨o, rfl, h1.1⟩
      | succ j => simpa using ih bs h1.2 j b (by simpa using hb)
