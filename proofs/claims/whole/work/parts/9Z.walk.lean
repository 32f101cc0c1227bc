/-! chain: one level down -/
section WK
variable {n dd i j k x y d r : Nat} {cp f : Nat → Int32} {t : Int32}
theorem lvE_any : ∀ (l i : Nat) (s : Bool), lp l i s (lvE cp n t dd f j) = true → s = true ∨ ∃ k, i ≤ k ∧ k < i + l ∧ f k = nN dd ∧ t ≤ cp (12 * j + k) := by
  intro l
  induction l with
  | zero => intro i s h; exact Or.inl h
  | succ l ih =>
    intro i s h
    rcases ih (i + 1) _ h with h1 | ⟨k, h1, h2, h3, h4⟩
    · unfold lvE at h1
      rw [Bool.or_eq_true, Bool.and_eq_true, decide_eq_true_iff, decide_eq_true_iff] at h1
      rcases h1 with h1 | h1
      · exact Or.inl h1
      · exact Or.inr ⟨i, by omega, by omega, h1.1, h1.2⟩
    · exact Or.inr ⟨k, by omega, by omega, h3, h4⟩
def LvI (cp : Nat → Int32) (n : Nat) (t : Int32) (r : Nat) (f : Nat → Int32) : Prop := (∀ k, f k = iN (-1) ∨ ∃ d, d ≤ r ∧ f k = nN d) ∧ ∀ k d, d < 100 → f k = nN (d + 1) → ∃ j, j < n ∧ f j = nN d ∧ t ≤ cp (12 * k + j)
theorem lvI_0 : LvI cp n t 0 (lv0 y) := by
  refine ⟨fun k => ?_, fun k d hd h => ?_⟩
  · unfold lv0
    split
    · exact Or.inr ⟨0, by omega, rfl⟩
    · exact Or.inl rfl
  · unfold lv0 at h
    split at h
    · exact absurd h (by rw [nN_eq (by omega) (by omega)]; omega)
    · exact absurd h.symm (by rw [nN_neN (by omega)]; exact not_false)
theorem lvI_s (hr : r < 50) (h : LvI cp n t r f) : LvI cp n t (r + 1) (lvS cp n t r f) := by
  have keep : ∀ j d, d < 4000 → f j = nN d → lvS cp n t r f j = nN d := by
    intro j d hd hj
    unfold lvS
    rw [if_neg]
    · exact hj
    · rintro ⟨z, -⟩
      rw [hj] at z
      exact absurd z (by rw [nN_neN (by omega)]; exact not_false)
  refine ⟨fun k => ?_, fun k d hd hk => ?_⟩
  · unfold lvS
    split
    · exact Or.inr ⟨r + 1, by omega, rfl⟩
    · rcases h.1 k with h1 | ⟨d, h1, h2⟩
      · exact Or.inl h1
      · exact Or.inr ⟨d, by omega, h2⟩
  · by_cases c : f k = iN (-1) ∧ lp n 0 false (lvE cp n t r f k) = true
    · have e : lvS cp n t r f k = nN (r + 1) := if_pos c
      rw [e, nN_eq (by omega) (by omega)] at hk
      have hd' : d = r := by omega
      subst hd'
      rcases lvE_any n 0 false c.2 with h1 | ⟨j, h1, h2, h3, h4⟩
      · exact absurd h1 (by simp)
      · exact ⟨j, by omega, keep j d (by omega) h3, h4⟩
    · have e : lvS cp n t r f k = f k := if_neg c
      rw [e] at hk
      obtain ⟨j, h1, h2, h3⟩ := h.2 k d hd hk
      exact ⟨j, h1, keep j d (by omega) h2, h3⟩
theorem lvF_ok (hn : n ≤ 12) : LvI cp n t (n - 1) (lvF cp n t y) := by
  have := lp_inv (f := fun dd f => lvS cp n t dd f) (P := fun r f => LvI cp n t r f) (n - 1) 0 (lv0 y) lvI_0 (fun r f h1 h2 h3 => lvI_s (by omega) h3)
  rw [Nat.zero_add] at this
  exact this
end WK
