/-! the search for a way: pure -/
abbrev tB : Type := Nat × (Nat → Nat) × (Nat → Nat) × Nat
def bfJ (cp : Nat → Int32) (i j : Nat) (s : tB) : tB := if ¬ cp (12 * i + j) = 0 ∧ ¬ s.1.testBit j = true then (s.1 ||| 1 <<< j, fun k => if k = j then i else s.2.1 k, fun k => if k = s.2.2.2 then j else s.2.2.1 k, s.2.2.2 + 1) else s
def bfI (cp : Nat → Int32) (n h : Nat) (s : tB) : tB := lp n 0 s (bfJ cp (s.2.2.1 h))
def bfO (cp : Nat → Int32) (n : Nat) : Nat → Nat → tB → tB
  | 0, _, s => s
  | f + 1, h, s => if h < s.2.2.2 then bfO cp n f (h + 1) (bfI cp n h s) else s
def bf0 (x : Nat) : tB := (1 <<< x, fun _ => 0, fun _ => x, 1)
def bfs (cp : Nat → Int32) (n x : Nat) : tB := bfO cp n n 0 (bf0 x)
def BfW (cp : Nat → Int32) (n : Nat) (x : Nat) (s : tB) : Prop := (s.1 < 2 ^ n) ∧ (s.2.2.2 = bN s.1) ∧ (s.2.2.1 0 = x) ∧ (1 ≤ s.2.2.2) ∧ (∀ k, k < s.2.2.2 → s.2.2.1 k < n ∧ s.1.testBit (s.2.2.1 k) = true) ∧ (∀ j, s.1.testBit j = true → ∃ k, k < s.2.2.2 ∧ s.2.2.1 k = j ∧ (k = 0 ∨ ∃ k', k' < k ∧ s.2.1 j = s.2.2.1 k')) ∧ (∀ j, s.1.testBit j = true → j ≠ x → ¬ cp (12 * s.2.1 j + j) = 0) ∧ (∀ k k', k < s.2.2.2 → k' < s.2.2.2 → s.2.2.1 k = s.2.2.1 k' → k = k')
theorem BfW.mk {cp : Nat → Int32} {n : Nat} {x : Nat} {s : tB} (sn : s.1 < 2 ^ n) (cn : s.2.2.2 = bN s.1) (q0 : s.2.2.1 0 = x) (c1 : 1 ≤ s.2.2.2) (qn : ∀ k, k < s.2.2.2 → s.2.2.1 k < n ∧ s.1.testBit (s.2.2.1 k) = true) (ps : ∀ j, s.1.testBit j = true → ∃ k, k < s.2.2.2 ∧ s.2.2.1 k = j ∧ (k = 0 ∨ ∃ k', k' < k ∧ s.2.1 j = s.2.2.1 k')) (ed : ∀ j, s.1.testBit j = true → j ≠ x → ¬ cp (12 * s.2.1 j + j) = 0) (ij : ∀ k k', k < s.2.2.2 → k' < s.2.2.2 → s.2.2.1 k = s.2.2.1 k' → k = k') : BfW cp n x s := ⟨sn, cn, q0, c1, qn, ps, ed, ij⟩
theorem BfW.sn {cp : Nat → Int32} {n : Nat} {x : Nat} {s : tB} (h : BfW cp n x s) : s.1 < 2 ^ n := And.left h
theorem BfW.cn {cp : Nat → Int32} {n : Nat} {x : Nat} {s : tB} (h : BfW cp n x s) : s.2.2.2 = bN s.1 := And.left (And.right h)
theorem BfW.q0 {cp : Nat → Int32} {n : Nat} {x : Nat} {s : tB} (h : BfW cp n x s) : s.2.2.1 0 = x := And.left (And.right (And.right h))
theorem BfW.c1 {cp : Nat → Int32} {n : Nat} {x : Nat} {s : tB} (h : BfW cp n x s) : 1 ≤ s.2.2.2 := And.left (And.right (And.right (And.right h)))
theorem BfW.qn {cp : Nat → Int32} {n : Nat} {x : Nat} {s : tB} (h : BfW cp n x s) : ∀ k, k < s.2.2.2 → s.2.2.1 k < n ∧ s.1.testBit (s.2.2.1 k) = true := And.left (And.right (And.right (And.right (And.right h))))
theorem BfW.ps {cp : Nat → Int32} {n : Nat} {x : Nat} {s : tB} (h : BfW cp n x s) : ∀ j, s.1.testBit j = true → ∃ k, k < s.2.2.2 ∧ s.2.2.1 k = j ∧ (k = 0 ∨ ∃ k', k' < k ∧ s.2.1 j = s.2.2.1 k') := And.left (And.right (And.right (And.right (And.right (And.right h)))))
theorem BfW.ed {cp : Nat → Int32} {n : Nat} {x : Nat} {s : tB} (h : BfW cp n x s) : ∀ j, s.1.testBit j = true → j ≠ x → ¬ cp (12 * s.2.1 j + j) = 0 := And.left (And.right (And.right (And.right (And.right (And.right (And.right h))))))
theorem BfW.ij {cp : Nat → Int32} {n : Nat} {x : Nat} {s : tB} (h : BfW cp n x s) : ∀ k k', k < s.2.2.2 → k' < s.2.2.2 → s.2.2.1 k = s.2.2.1 k' → k = k' := And.right (And.right (And.right (And.right (And.right (And.right (And.right h))))))
section BF
variable {d t u n p q f g m e K k dd c j y bl x i h : Nat} {cp : Nat → Int32} {s : tB}
theorem tb_or {a j k : Nat} : (a ||| 1 <<< j).testBit k = (a.testBit k || decide (j = k)) := by
  rw [Nat.testBit_or, Nat.one_shiftLeft, Nat.testBit_two_pow]
theorem tb_lt {a n k : Nat} (h : a < 2 ^ n) (hk : a.testBit k = true) : k < n := by
  refine Classical.byContradiction fun hi => ?_
  have : a.testBit k = false := Nat.testBit_lt_two_pow (Nat.lt_of_lt_of_le h (Nat.pow_le_pow_right (by omega) (by omega)))
  rw [this] at hk; exact absurd hk (by simp)
theorem lp_add {f g : Nat → Nat} : ∀ (j k x y z : Nat), x + y = z → lp j k z (fun k c => c + (f k + g k)) = lp j k x (fun k c => c + f k) + lp j k y (fun k c => c + g k) := by
  intro j
  induction j with
  | zero => intro k x y z h; exact h.symm
  | succ j ih => intro k x y z h; exact ih (k + 1) (x + f k) (y + g k) (z + (f k + g k)) (by omega)
theorem lp_one : ∀ (l k j c : Nat), lp l k c (fun k c => c + if k = j then 1 else 0) = c + if k ≤ j ∧ j < k + l then 1 else 0 := by
  intro l
  induction l with
  | zero => intro k j c; show c = _; rw [if_neg (by omega)]; rfl
  | succ l ih =>
    intro k j c
    show lp l (k + 1) (c + if k = j then 1 else 0) _ = _
    rw [ih]
    by_cases e : k = j
    · rw [if_pos e, if_neg (by omega), if_pos (by omega)]
    · rw [if_neg e]
      by_cases e2 : k + 1 ≤ j ∧ j < k + 1 + l
      · rw [if_pos e2, if_pos (by omega)]
      · rw [if_neg e2, if_neg (by omega)]
theorem bN_add {a j : Nat} (hj : j < 12) (h : ¬ a.testBit j = true) : bN (a ||| 1 <<< j) = bN a + 1 := by
  have e : ∀ k, (a ||| 1 <<< j) >>> k &&& 1 = (a >>> k &&& 1) + if k = j then 1 else 0 := by
    intro k
    rw [bit_v, bit_v, tb_or]
    by_cases e : k = j
    · subst e
      rw [if_pos rfl]
      simp [h]
    · rw [if_neg e]
      have : ¬ j = k := fun z => e z.symm
      simp [this]
  unfold bN
  simp only [e]
  rw [lp_add 12 0 0 0 0 rfl, lp_one]
  rw [if_pos (by omega)]
theorem bN_n {a n : Nat} (h : a < 2 ^ n) (hn : n ≤ 12) : bN a ≤ n := by
  have h1 : bN a ≤ lp 12 0 0 (fun k c => c + if k < n then 1 else 0) := by
    unfold bN
    refine lp_le 12 0 0 0 (Nat.le_refl _) fun i _ _ => ?_
    rw [bit_v]
    by_cases e : a.testBit i = true
    · rw [if_pos e, if_pos (tb_lt h e)]; exact Nat.le_refl _
    · rw [if_neg e]; exact Nat.zero_le _
  have h2 : ∀ n : Fin 13, lp 12 0 0 (fun k c => c + if k < n.1 then 1 else 0) = n.1 := by decide
  have := h2 ⟨n, by omega⟩
  dsimp only at this
  omega
theorem bfw_cnt (w : BfW cp n x s) (hn : n ≤ 12) : s.2.2.2 ≤ n := by rw [w.cn]; exact bN_n w.sn hn
theorem bfw_0 (hx : x < n) (hn : n ≤ 12) : BfW cp n x (bf0 x) := by
  have e : ∀ k, (1 <<< x).testBit k = decide (x = k) := fun k => by rw [Nat.one_shiftLeft, Nat.testBit_two_pow]
  refine BfW.mk ?_ ?_ rfl (Nat.le_refl _) ?_ ?_ ?_ (fun k k' (h1 : k < 1) (h2 : k' < 1) _ => by omega)
  · show 1 <<< x < 2 ^ n
    rw [Nat.one_shiftLeft]
    exact Nat.pow_lt_pow_right (by omega) hx
  · show 1 = bN (1 <<< x)
    have := bN_add (a := 0) (j := x) (by omega) (by simp)
    rw [Nat.zero_or] at this
    rw [this]
    rfl
  · intro k hk
    exact ⟨hx, by show (1 <<< x).testBit x = true; rw [e]; simp⟩
  · intro j hj
    have hj : (1 <<< x).testBit j = true := hj
    rw [e, decide_eq_true_iff] at hj
    exact ⟨0, by show 0 < 1; omega, hj, Or.inl rfl⟩
  · intro j hj hne
    have hj : (1 <<< x).testBit j = true := hj
    rw [e, decide_eq_true_iff] at hj
    exact absurd hj.symm hne
theorem bfw_j (w : BfW cp n x s) (hn : n ≤ 12) (hh : h < s.2.2.2) (hi : i = s.2.2.1 h) (hj : j < n) : BfW cp n x (bfJ cp i j s) := by
  unfold bfJ
  by_cases c : ¬ cp (12 * i + j) = 0 ∧ ¬ s.1.testBit j = true
  · rw [if_pos c]
    obtain ⟨sn, par, que, cnt⟩ := s
    obtain ⟨a1, a2, a3, a4, a5, a6, a7, a8⟩ := (⟨w.sn, w.cn, w.q0, w.c1, w.qn, w.ps, w.ed, w.ij⟩ : _ ∧ _ ∧ _ ∧ _ ∧ _ ∧ _ ∧ _ ∧ _)
    dsimp only at *
    have c0 : ¬ 0 = cnt := by omega
    refine BfW.mk ?_ ?_ ?_ ?_ ?_ ?_ ?_ ?_
    · refine Nat.or_lt_two_pow a1 ?_
      rw [Nat.one_shiftLeft]
      exact Nat.pow_lt_pow_right (by omega) hj
    · dsimp only
      rw [bN_add (by omega) c.2, a2]
    · dsimp only; rw [if_neg c0]; exact a3
    · dsimp only; omega
    · dsimp only
      intro k hk
      by_cases e : k = cnt
      · rw [if_pos e, tb_or]; exact ⟨hj, by simp⟩
      · rw [if_neg e, tb_or]
        obtain ⟨b1, b2⟩ := a5 k (by omega)
        exact ⟨b1, by rw [b2]; rfl⟩
    · dsimp only
      intro l hl
      rw [tb_or, Bool.or_eq_true, decide_eq_true_iff] at hl
      by_cases e : l = j
      · refine ⟨cnt, by omega, by rw [if_pos rfl, e], Or.inr ⟨h, hh, ?_⟩⟩
        rw [if_pos e, if_neg (by omega)]; exact hi
      · have hl : sn.testBit l = true := by
          rcases hl with h1 | h1
          · exact h1
          · exact absurd h1.symm e
        obtain ⟨k, b1, b2, b3⟩ := a6 l hl
        refine ⟨k, by omega, by rw [if_neg (by omega)]; exact b2, ?_⟩
        rcases b3 with b3 | ⟨k', b4, b5⟩
        · exact Or.inl b3
        · exact Or.inr ⟨k', b4, by rw [if_neg e, if_neg (by omega)]; exact b5⟩
    · dsimp only
      intro l hl hne
      rw [tb_or, Bool.or_eq_true, decide_eq_true_iff] at hl
      by_cases e : l = j
      · rw [if_pos e, e]; exact c.1
      · rw [if_neg e]
        rcases hl with h1 | h1
        · exact a7 l h1 hne
        · exact absurd h1.symm e
    · dsimp only
      intro k k' h1 h2
      by_cases e : k = cnt
      · by_cases e2 : k' = cnt
        · intro _; omega
        · rw [if_pos e, if_neg e2]
          intro z
          exact absurd (a5 k' (by omega)).2 (by rw [← z]; exact c.2)
      · by_cases e2 : k' = cnt
        · rw [if_neg e, if_pos e2]
          intro z
          exact absurd (a5 k (by omega)).2 (by rw [z]; exact c.2)
        · rw [if_neg e, if_neg e2]
          exact a8 k k' (by omega) (by omega)
  · rw [if_neg c]; exact w
/-- what a step keeps -/
def BfK (s s' : tB) : Prop := s.2.2.2 ≤ s'.2.2.2 ∧ (∀ k, k < s.2.2.2 → s'.2.2.1 k = s.2.2.1 k)
theorem bfk_j : BfK s (bfJ cp i j s) := by
  unfold bfJ
  split
  · exact ⟨by dsimp only; omega, fun k hk => if_neg (by omega)⟩
  · exact ⟨Nat.le_refl _, fun _ _ => rfl⟩
theorem BfK.trans {s1 s2 : tB} (h : BfK s s1) (g : BfK s1 s2) : BfK s s2 := ⟨Nat.le_trans h.1 g.1, fun k hk => (g.2 k (by have := h.1; omega)).trans (h.2 k hk)⟩
theorem bfw_i (w : BfW cp n x s) (hn : n ≤ 12) (hh : h < s.2.2.2) : BfW cp n x (bfI cp n h s) ∧ BfK s (bfI cp n h s) := by
  have := lp_inv (f := bfJ cp (s.2.2.1 h)) (P := fun _ s1 => BfW cp n x s1 ∧ BfK s s1) n 0 s ⟨w, Nat.le_refl _, fun _ _ => rfl⟩ (fun j s1 h1 h2 h3 => ⟨bfw_j h3.1 hn (h := h) (by have := h3.2.1; omega) (h3.2.2 h hh).symm (by omega), h3.2.trans bfk_j⟩)
  exact this
theorem bfw_o (hn : n ≤ 12) : ∀ f h s, BfW cp n x s → BfW cp n x (bfO cp n f h s) := by
  intro f
  induction f with
  | zero => intro h s w; exact w
  | succ f ih =>
    intro h s w
    unfold bfO
    split
    · rename_i hh
      exact ih (h + 1) _ (bfw_i w hn hh).1
    · exact w
theorem bfs_w (hx : x < n) (hn : n ≤ 12) : BfW cp n x (bfs cp n x) := bfw_o hn _ _ _ (bfw_0 hx hn)
end BF
