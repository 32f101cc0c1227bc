/-! fewest: which sets; pure -/
def fstO (P : Nat → Bool) : Nat → Nat → Option Nat
  | 0, _ => none
  | j + 1, k => if P k = true then some k else fstO P j (k + 1)
noncomputable def okFw (a : Nat → Int32) (s : Nat) : Bool := decide (sFirst (sLets a (nN s)).1 = none)
noncomputable def fewP (a : Nat → Int32) (c s : Nat) : Bool := decide (bN s = c) && okFw a s
noncomputable def fewJ (a : Nat → Int32) : Nat → Nat → Option Nat
  | 0, _ => none
  | j + 1, c => match fstO (fewP a c) (2 ^ nP a) 0 with
    | some s => some s
    | none => fewJ a j (c + 1)
noncomputable def sFew (a : Nat → Int32) : Option Nat := fewJ a (nP a + 1) 0
def hN (a : Nat → Int32) (f : Nat) : Nat := (fa a f 2).toInt.toNat
def hoF (a : Nat → Int32) (f s : Nat) : Nat := if fa a f 2 = iN (-1) then s else s ||| 1 <<< hN a f
def hoN (a : Nat → Int32) : Nat := lp (nF a) 0 0 (hoF a)
section FW
variable {d t u n p q f g m e K k dd c j : Nat} {a a' ak : Nat → Int32} {s H : Nat} {P P' : Nat → Bool}
theorem fstO_none : ∀ j k, fstO P j k = none → ∀ i, k ≤ i → i < k + j → ¬ P i = true := by
  intro j
  induction j with
  | zero => intro k _ i h1 h2; omega
  | succ j ih =>
    intro k h i h1 h2
    unfold fstO at h
    by_cases c : P k = true
    · rw [if_pos c] at h; exact absurd h (by simp)
    · rw [if_neg c] at h
      by_cases e : i = k
      · rw [e]; exact c
      · exact ih (k + 1) h i (by omega) (by omega)
theorem fstO_some : ∀ j k, fstO P j k = some s → k ≤ s ∧ s < k + j ∧ P s = true := by
  intro j
  induction j with
  | zero => intro k h; exact absurd h (by simp [fstO])
  | succ j ih =>
    intro k h
    unfold fstO at h
    by_cases c : P k = true
    · rw [if_pos c] at h; injection h with h; subst h; exact ⟨Nat.le_refl _, by omega, c⟩
    · rw [if_neg c] at h
      obtain ⟨h1, h2, h3⟩ := ih (k + 1) h
      exact ⟨by omega, by omega, h3⟩
theorem lp_congrI {α : Type} {f g : Nat → α → α} {I : Nat → α → Prop} : ∀ (j k : Nat) (s : α), I k s → (∀ i s, k ≤ i → i < k + j → I i s → f i s = g i s ∧ I (i + 1) (f i s)) → lp j k s f = lp j k s g := by
  intro j
  induction j with
  | zero => intro k s _ _; rfl
  | succ j ih =>
    intro k s h st
    obtain ⟨h1, h2⟩ := st k s (by omega) (by omega) h
    show lp j (k + 1) (f k s) f = lp j (k + 1) (g k s) g
    rw [← h1]
    exact ih (k + 1) (f k s) h2 (fun i s h1 h2 h3 => st i s (by omega) (by omega) h3)
theorem lp_le {f g : Nat → Nat} : ∀ (j k x y : Nat), x ≤ y → (∀ i, k ≤ i → i < k + j → f i ≤ g i) → lp j k x (fun k c => c + f k) ≤ lp j k y (fun k c => c + g k) := by
  intro j
  induction j with
  | zero => intro k x y h _; exact h
  | succ j ih =>
    intro k x y h st
    exact ih (k + 1) (x + f k) (y + g k) (by have := st k (by omega) (by omega); omega) (fun i h1 h2 => st i (by omega) (by omega))
theorem lp_lt {f g : Nat → Nat} : ∀ (j k x y : Nat), x ≤ y → (∀ i, k ≤ i → i < k + j → f i ≤ g i) → (∃ i, k ≤ i ∧ i < k + j ∧ f i < g i) → lp j k x (fun k c => c + f k) < lp j k y (fun k c => c + g k) := by
  intro j
  induction j with
  | zero => intro k x y _ _ ⟨i, h1, h2, _⟩; omega
  | succ j ih =>
    intro k x y h st ⟨i, h1, h2, h3⟩
    have h0 := st k (by omega) (by omega)
    by_cases e : i = k
    · subst e
      have : x + f i + 1 ≤ y + g i := by omega
      have l := lp_le j (i + 1) (x + f i + 1) (y + g i) this (fun i h1 h2 => st i (by omega) (by omega))
      have l2 : lp j (i + 1) (x + f i + 1) (fun k c => c + f k) = lp j (i + 1) (x + f i) (fun k c => c + f k) + 1 := by
        have gen : ∀ j k x, lp j k (x + 1) (fun k c => c + f k) = lp j k x (fun k c => c + f k) + 1 := by
          intro j
          induction j with
          | zero => intro k x; rfl
          | succ j ih => intro k x; show lp j (k + 1) (x + 1 + f k) _ = lp j (k + 1) (x + f k) _ + 1; rw [show x + 1 + f k = x + f k + 1 from by omega]; exact ih (k + 1) (x + f k)
        exact gen _ _ _
      show lp j (i + 1) (x + f i) _ < lp j (i + 1) (y + g i) _
      omega
    · exact ih (k + 1) (x + f k) (y + g k) (by omega) (fun i h1 h2 => st i (by omega) (by omega)) ⟨i, by omega, by omega, h3⟩
theorem bit_v : s >>> k &&& 1 = if s.testBit k = true then 1 else 0 := by
  rw [Nat.and_one_is_mod, Nat.testBit_eq_decide_div_mod_eq, Nat.shiftRight_eq_div_pow]
  by_cases h : s / 2 ^ k % 2 = 1
  · simp [h]
  · have : s / 2 ^ k % 2 = 0 := by omega
    simp [this]
theorem bN_sub (hs : s < 4096) (h : ¬ s &&& H = s) : bN (s &&& H) < bN s := by
  unfold bN
  refine lp_lt 12 0 0 0 (Nat.le_refl _) (fun i _ _ => ?_) ?_
  · rw [bit_v, bit_v, Nat.testBit_and]
    by_cases h1 : s.testBit i = true
    · rw [h1]; split <;> simp
    · simp [h1]
  · refine Classical.byContradiction fun z => h ?_
    apply Nat.eq_of_testBit_eq
    intro i
    rw [Nat.testBit_and]
    by_cases h1 : s.testBit i = true
    · by_cases h2 : H.testBit i = true
      · rw [h1, h2]; rfl
      · exfalso
        refine z ⟨i, by omega, ?_, ?_⟩
        · refine Classical.byContradiction fun hi => ?_
          have : s.testBit i = false := Nat.testBit_lt_two_pow (Nat.lt_of_lt_of_le hs (show 2 ^ 12 ≤ 2 ^ i from Nat.pow_le_pow_right (by omega) (by omega)))
          rw [this] at h1; exact absurd h1 (by simp)
        · rw [bit_v, bit_v, Nat.testBit_and, h1]
          simp [h2]
    · simp [h1]
theorem hN_ok (hw : Wf a) (hf : f < nF a) (h : ¬ fa a f 2 = iN (-1)) : hN a f < nP a ∧ fa a f 2 = nN (hN a f) := by
  have hp' := hw.p'
  rcases hw.fH f hf with h1 | ⟨g, h1, h2⟩
  · exact absurd h1 h
  · have : hN a f = g := by unfold hN; rw [h2, nN_toInt (by omega)]; omega
    rw [this]; exact ⟨h1, h2⟩
theorem hoN_lt (hw : Wf a) : hoN a < 2 ^ nP a := by
  refine lp_inv (f := hoF a) (P := fun _ s => s < 2 ^ nP a) (nF a) 0 0 (Nat.two_pow_pos _) (fun i s h1 h2 h3 => ?_)
  unfold hoF
  split
  · exact h3
  · rename_i h
    have := (hN_ok hw (show i < nF a by omega) h).1
    refine Nat.or_lt_two_pow h3 ?_
    rw [Nat.one_shiftLeft]
    exact Nat.pow_lt_pow_right (by omega) this
theorem hoN_bit (hf : f < nF a) (h : ¬ fa a f 2 = iN (-1)) : (hoN a).testBit (hN a f) = true := by
  have := lp_inv (f := hoF a) (P := fun i s => ∀ f, f < i → ¬ fa a f 2 = iN (-1) → s.testBit (hN a f) = true) (nF a) 0 0 (fun f h => absurd h (by omega)) (fun i s h1 h2 h3 => ?_)
  · exact this f (by omega) h
  · intro f hf h
    unfold hoF
    by_cases e : f = i
    · subst e
      rw [if_neg h, Nat.testBit_or, Nat.one_shiftLeft, Nat.testBit_two_pow]
      simp
    · have := h3 f (by omega) h
      split
      · exact this
      · rw [Nat.testBit_or, this]; rfl
/-- only holders matter -/
theorem sLets_ho (hw : Wf a) (hs : s < 4096) : sLets a (nN (s &&& hoN a)) = sLets a (nN s) := by
  have hp' := hw.p'
  have hl : s &&& hoN a < 4096 := Nat.lt_of_le_of_lt Nat.and_le_left hs
  unfold sLets
  refine lp_congrI (I := fun _ (s : tSt) => ∀ f, fa s.1 f 2 = fa a f 2 ∨ fa s.1 f 2 = iN (-1)) (nF a) 0 (a, nN 0) (fun f => Or.inl rfl) (fun i st h1 h2 h3 => ⟨?_, ?_⟩)
  · unfold sLetF
    by_cases c : fa st.1 i 2 = iN (-1)
    · rw [if_neg (fun z => z.1 c), if_neg (fun z => z.1 c)]
    · have e : fa st.1 i 2 = fa a i 2 := by
        rcases h3 i with h | h
        · exact h
        · exact absurd h c
      have ha : ¬ fa a i 2 = iN (-1) := by rw [← e]; exact c
      obtain ⟨g1, g2⟩ := hN_ok hw (show i < nF a by omega) ha
      have hb := hoN_bit (a := a) (show i < nF a by omega) ha
      have hc : (((nN (s &&& hoN a) >>> (nN (hN a i) &&& 31)) &&& nN 1 = nN 1) = ((nN s >>> (nN (hN a i) &&& 31)) &&& nN 1 = nN 1)) := by
        rw [bit_nN (by omega) (by omega), bit_nN (by omega) (by omega), Nat.testBit_and, hb, Bool.and_true]
      simp only [e, g2, hc]
  · intro f
    unfold sLetF
    split
    · by_cases e : f = i
      · subst e
        exact Or.inr (fS_same (by omega))
      · have : fa (sGone st.1 i) f 2 = fa st.1 f 2 := fS_ne (by omega) (by omega) (Or.inl e)
        show fa (sGone st.1 i) f 2 = _ ∨ fa (sGone st.1 i) f 2 = _
        rw [this]; exact h3 f
    · exact h3 f
theorem okFw_ho (hw : Wf a) (hs : s < 4096) : okFw a (s &&& hoN a) = okFw a s := by
  unfold okFw
  rw [sLets_ho hw hs]
end FW
