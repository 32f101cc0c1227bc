/-! clear: the orders of rings, pure -/
def rZ (a : Nat → Int32) (r : Nat) : Nat := (ra a r 0).toInt.toNat
def rQ (a : Nat → Int32) (r k : Nat) : Nat := (ra a r (1 + k)).toInt.toNat
def rE (a : Nat → Int32) (r k : Nat) : Nat := 12 * rQ a r k + rQ a r ((k + 1) % rZ a r)
/-- the people of a ring differ -/
def Rd (a : Nat → Int32) : Prop := ∀ r i k, r < nR a → i < rZ a r → k < rZ a r → rQ a r i = rQ a r k → i = k
def rL (a : Nat → Int32) (c : Nat → Nat) (r : Nat) : Nat := lp (rZ a r) 0 1000000 (fun k m => min m (c (rE a r k)))
def isE (a : Nat → Int32) (r p : Nat) : Bool := lp (rZ a r) 0 false (fun k s => s || decide (p = rE a r k))
def tkE (a : Nat → Int32) (r l : Nat) (c : Nat → Nat) : Nat → Nat := fun p => if isE a r p = true then c p - l else c p
def rMo (a : Nat → Int32) (c : Nat → Nat) (used : Nat) : Nat := lp (nR a) 0 0 (fun r s => s + if used.testBit r = true then 0 else rL a c r * rZ a r)
abbrev tO : Type := Int × (Nat → Nat)
def mO (a : Nat → Int32) : Nat → (Nat → Nat) → Nat → Nat → Nat → (Nat → Nat) → tO → tO
  | 0, _, _, _, sum, o, s => if s.1 < (sum : Int) then ((sum : Int), o) else s
  | j + 1, c, dn, used, sum, o, s => lp (nR a) 0 s (fun r s => if used.testBit r = true then s else mO a j (tkE a r (rL a c r) c) (dn + 1) (used ||| 1 <<< r) (sum + rL a c r * rZ a r) (fun k => if k = dn then r else o k) s)
def cO (a : Nat → Int32) : Nat → (Nat → Nat) → Nat → Nat → Nat → (Nat → Nat) → tO → tO
  | 0, _, _, _, sum, o, s => if s.1 < (sum : Int) then ((sum : Int), o) else s
  | j + 1, c, dn, used, sum, o, s => if ((sum + rMo a c used : Nat) : Int) ≤ s.1 then s else lp (nR a) 0 s (fun r s => if used.testBit r = true then s else cO a j (tkE a r (rL a c r) c) (dn + 1) (used ||| 1 <<< r) (sum + rL a c r * rZ a r) (fun k => if k = dn then r else o k) s)
section OR
variable {a : Nat → Int32} {c c2 : Nat → Nat} {r k i p l used dn sum j n : Nat} {o : Nat → Nat} {s : tO}
theorem lp_min : ∀ (j k m : Nat) (f : Nat → Nat), lp j k m (fun k m => min m (f k)) ≤ m ∧ ∀ i, k ≤ i → i < k + j → lp j k m (fun k m => min m (f k)) ≤ f i := by
  intro j
  induction j with
  | zero => intro k m f; exact ⟨Nat.le_refl _, fun i h1 h2 => by omega⟩
  | succ j ih =>
    intro k m f
    obtain ⟨h1, h2⟩ := ih (k + 1) (min m (f k)) f
    refine ⟨Nat.le_trans h1 (Nat.min_le_left _ _), fun i h3 h4 => ?_⟩
    by_cases e : i = k
    · subst e; exact Nat.le_trans h1 (Nat.min_le_right _ _)
    · exact h2 i (by omega) (by omega)
theorem lp_min_mono : ∀ (j k m m2 : Nat) (f g : Nat → Nat), m ≤ m2 → (∀ i, f i ≤ g i) → lp j k m (fun k m => min m (f k)) ≤ lp j k m2 (fun k m => min m (g k)) := by
  intro j
  induction j with
  | zero => intro k m m2 f g h _; exact h
  | succ j ih =>
    intro k m m2 f g h hf
    have := hf k
    exact ih (k + 1) (min m (f k)) (min m2 (g k)) f g (by omega) hf
theorem rL_le (hk : k < rZ a r) : rL a c r ≤ c (rE a r k) := (lp_min (rZ a r) 0 1000000 (fun k => c (rE a r k))).2 k (by omega) (by omega)
theorem rL_mono (h : ∀ p, c p ≤ c2 p) : rL a c r ≤ rL a c2 r := lp_min_mono _ _ _ _ _ _ (Nat.le_refl _) fun i => h _
theorem tkE_le : tkE a r l c p ≤ c p := by
  unfold tkE
  split <;> omega
theorem lp_any {P : Nat → Prop} [DecidablePred P] : ∀ (j k : Nat) (s : Bool), lp j k s (fun k s => s || decide (P k)) = true ↔ s = true ∨ ∃ i, k ≤ i ∧ i < k + j ∧ P i := by
  intro j
  induction j with
  | zero =>
    intro k s
    exact ⟨fun h => Or.inl h, fun h => by
      rcases h with h | ⟨i, h1, h2, _⟩
      · exact h
      · omega⟩
  | succ j ih =>
    intro k s
    show lp j (k + 1) (s || decide (P k)) _ = true ↔ _
    rw [ih, Bool.or_eq_true, decide_eq_true_iff]
    constructor
    · rintro ((h | h) | ⟨i, h1, h2, h3⟩)
      · exact Or.inl h
      · exact Or.inr ⟨k, by omega, by omega, h⟩
      · exact Or.inr ⟨i, by omega, by omega, h3⟩
    · rintro (h | ⟨i, h1, h2, h3⟩)
      · exact Or.inl (Or.inl h)
      · by_cases e : i = k
        · subst e; exact Or.inl (Or.inr h3)
        · exact Or.inr ⟨i, by omega, by omega, h3⟩
theorem isE_iff : isE a r p = true ↔ ∃ i, i < rZ a r ∧ p = rE a r i := by
  unfold isE
  rw [lp_any]
  constructor
  · rintro (h | ⟨i, _, h2, h3⟩)
    · exact absurd h (by simp)
    · exact ⟨i, by omega, h3⟩
  · rintro ⟨i, h1, h2⟩
    exact Or.inr ⟨i, by omega, by omega, h2⟩
theorem rMo_step (hr : r < nR a) (hu : ¬ used.testBit r = true) (h : ∀ p, c2 p ≤ c p) : rL a c r * rZ a r + rMo a c2 (used ||| 1 <<< r) ≤ rMo a c used := by
  have e1 := lp_one (nR a) 0 r 0
  have h1 : rMo a c2 (used ||| 1 <<< r) + rL a c r * rZ a r ≤ rMo a c used := by
    have e2 := lp_add (f := fun k => if (used ||| 1 <<< r).testBit k = true then 0 else rL a c2 k * rZ a k) (g := fun k => if k = r then rL a c r * rZ a r else 0) (nR a) 0 0 0 0 rfl
    have e3 : ∀ (j k x : Nat), lp j k x (fun k s => s + if k = r then rL a c r * rZ a r else 0) = x + if k ≤ r ∧ r < k + j then rL a c r * rZ a r else 0 := by
      intro j
      induction j with
      | zero => intro k x; show x = _; rw [if_neg (by omega)]; rfl
      | succ j ih =>
        intro k x
        show lp j (k + 1) (x + if k = r then rL a c r * rZ a r else 0) _ = _
        rw [ih]
        by_cases e : k = r
        · rw [if_pos e, if_neg (by omega), if_pos (by omega)]; omega
        · rw [if_neg e]
          by_cases e2 : k + 1 ≤ r ∧ r < k + 1 + j
          · rw [if_pos e2, if_pos (by omega)]; omega
          · rw [if_neg e2, if_neg (by omega)]
    rw [e3, if_pos (by omega)] at e2
    have e4 := lp_le (f := fun k => (if (used ||| 1 <<< r).testBit k = true then 0 else rL a c2 k * rZ a k) + if k = r then rL a c r * rZ a r else 0) (g := fun k => if used.testBit k = true then 0 else rL a c k * rZ a k) (nR a) 0 0 0 (Nat.le_refl _) (fun i _ hi => by
      rw [tb_or]
      by_cases e : i = r
      · subst e
        rw [if_pos rfl]
        simp [hu]
      · rw [if_neg e]
        have e5 : ¬ r = i := fun z => e z.symm
        by_cases c1 : used.testBit i = true
        · simp [c1]
        · simp [c1, e5]
          exact Nat.mul_le_mul_right _ (rL_mono h))
    unfold rMo
    omega
  omega
theorem mO_prune : ∀ (j : Nat) (c : Nat → Nat) (dn used sum : Nat) (o : Nat → Nat) (s : tO), ((sum + rMo a c used : Nat) : Int) ≤ s.1 → mO a j c dn used sum o s = s := by
  intro j
  induction j with
  | zero =>
    intro c dn used sum o s h
    show (if s.1 < (sum : Int) then _ else s) = s
    rw [if_neg (by omega)]
  | succ j ih =>
    intro c dn used sum o s h
    have := lp_inv (f := fun r s => if used.testBit r = true then s else mO a j (tkE a r (rL a c r) c) (dn + 1) (used ||| 1 <<< r) (sum + rL a c r * rZ a r) (fun k => if k = dn then r else o k) s) (P := fun _ s1 => s1 = s) (nR a) 0 s rfl (fun r s1 _ hr h1 => by
      rw [h1]
      show (if used.testBit r = true then s else _) = s
      by_cases cu : used.testBit r = true
      · rw [if_pos cu]
      · rw [if_neg cu]
        have st := rMo_step (c := c) (c2 := tkE a r (rL a c r) c) (show r < nR a by omega) cu (fun p => tkE_le)
        exact ih _ _ _ _ _ _ (by omega))
    exact this
theorem cO_eq : ∀ (j : Nat) (c : Nat → Nat) (dn used sum : Nat) (o : Nat → Nat) (s : tO), cO a j c dn used sum o s = mO a j c dn used sum o s := by
  intro j
  induction j with
  | zero => intro c dn used sum o s; rfl
  | succ j ih =>
    intro c dn used sum o s
    show (if ((sum + rMo a c used : Nat) : Int) ≤ s.1 then s else _) = _
    by_cases h : ((sum + rMo a c used : Nat) : Int) ≤ s.1
    · rw [if_pos h, mO_prune (j + 1) c dn used sum o s h]
    · rw [if_neg h]
      refine lp_congr _ _ _ fun r s1 _ _ => ?_
      rw [ih]
theorem mO_mono : ∀ (j : Nat) (c : Nat → Nat) (dn used sum : Nat) (o : Nat → Nat) (s : tO), s.1 ≤ (mO a j c dn used sum o s).1 := by
  intro j
  induction j with
  | zero =>
    intro c dn used sum o s
    show s.1 ≤ (if s.1 < (sum : Int) then ((sum : Int), o) else s).1
    split
    · dsimp only; omega
    · exact Int.le_refl _
  | succ j ih =>
    intro c dn used sum o s
    exact lp_inv (f := fun r s => if used.testBit r = true then s else mO a j (tkE a r (rL a c r) c) (dn + 1) (used ||| 1 <<< r) (sum + rL a c r * rZ a r) (fun k => if k = dn then r else o k) s) (P := fun _ s1 => s.1 ≤ s1.1) (nR a) 0 s (Int.le_refl _) (fun r s1 _ hr h1 => by
      split
      · exact h1
      · exact Int.le_trans h1 (ih _ _ _ _ _ _))
theorem mO_nn : ∀ (j : Nat) (c : Nat → Nat) (dn used sum : Nat) (o : Nat → Nat) (s : tO), cN (nR a) (fun r => used.testBit r) + j = nR a → 0 ≤ (mO a j c dn used sum o s).1 := by
  intro j
  induction j with
  | zero =>
    intro c dn used sum o s _
    show 0 ≤ (if s.1 < (sum : Int) then ((sum : Int), o) else s).1
    split
    · dsimp only; omega
    · omega
  | succ j ih =>
    intro c dn used sum o s hc
    have ex : ∃ r, r < nR a ∧ ¬ used.testBit r = true := by
      refine Classical.byContradiction fun z => ?_
      have h2 : ∀ r, r < nR a → used.testBit r = true := fun r hr => Classical.byContradiction fun y => z ⟨r, hr, y⟩
      have h3 : cN (nR a) (fun _ => true) ≤ cN (nR a) (fun r => used.testBit r) := by
        refine lp_le (nR a) 0 0 0 (Nat.le_refl _) fun i _ hi => ?_
        rw [if_pos rfl, if_pos (h2 i (by omega))]
        exact Nat.le_refl _
      have h4 : ∀ (j k x : Nat), lp j k x (fun k c => c + if (fun _ : Nat => true) k = true then 1 else 0) = x + j := by
        intro j
        induction j with
        | zero => intro k x; rfl
        | succ j ih2 => intro k x; show lp j (k + 1) (x + 1) _ = _; rw [ih2]; omega
      have h5 : cN (nR a) (fun _ => true) = nR a := by unfold cN; rw [h4]; omega
      omega
    obtain ⟨r, hr, hu⟩ := ex
    have := lp_inv (f := fun r s => if used.testBit r = true then s else mO a j (tkE a r (rL a c r) c) (dn + 1) (used ||| 1 <<< r) (sum + rL a c r * rZ a r) (fun k => if k = dn then r else o k) s) (P := fun k s1 => r < k → 0 ≤ s1.1) (nR a) 0 s (fun h => by omega) (fun i s1 _ hi h1 h2 => by
      by_cases e : i = r
      · subst e
        rw [if_neg hu]
        refine ih _ _ _ _ _ _ ?_
        have := cN_add (n := nR a) (j := i) (P := fun r => used.testBit r) (P2 := fun r => (used ||| 1 <<< i).testBit r) hr hu (fun k => by rw [tb_or]; by_cases e : i = k <;> simp [e, eq_comm])
        omega
      · have h3 := h1 (by omega)
        split
        · exact h3
        · exact Int.le_trans h3 (mO_mono _ _ _ _ _ _ _))
    exact this (by omega)
/-- the sizes and people -/
theorem rg_ok (hw : Wf a) (hr : r < nR a) : 2 ≤ rZ a r ∧ rZ a r ≤ 6 ∧ ra a r 0 = nN (rZ a r) ∧ ∀ k, k < rZ a r → rQ a r k < nP a ∧ ra a r (1 + k) = nN (rQ a r k) := by
  have hp' := hw.p'
  obtain ⟨n, h1, h2, h3, h4⟩ := hw.ring r hr
  have e : rZ a r = n := by unfold rZ; rw [h3, nN_toInt (by omega)]; omega
  rw [e]
  refine ⟨h1, h2, h3, fun k hk => ?_⟩
  obtain ⟨q, h5, h6⟩ := h4 k hk
  have e2 : rQ a r k = q := by unfold rQ; rw [h6, nN_toInt (by omega)]; omega
  rw [e2]
  exact ⟨h5, h6⟩
theorem rE_in (hw : Wf a) (hr : r < nR a) (hk : k < rZ a r) : ∃ x y, x < nP a ∧ y < nP a ∧ rE a r k = 12 * x + y ∧ x = rQ a r k ∧ y = rQ a r ((k + 1) % rZ a r) := by
  obtain ⟨h1, h2, h3, h4⟩ := rg_ok hw hr
  exact ⟨_, _, (h4 k hk).1, (h4 ((k + 1) % rZ a r) (Nat.mod_lt _ (by omega))).1, rfl, rfl, rfl⟩
theorem rE_ne (hw : Wf a) (hd : Rd a) (hr : r < nR a) (hi : i < rZ a r) (hk : k < rZ a r) (h : rE a r i = rE a r k) : i = k := by
  have hp' := hw.p'
  obtain ⟨x, y, h1, h2, h3, h4, h5⟩ := rE_in hw hr hi
  obtain ⟨x2, y2, g1, g2, g3, g4, g5⟩ := rE_in hw hr hk
  have : x = x2 := by omega
  rw [h4, g4] at this
  exact hd r i k hr hi hk this
end OR
