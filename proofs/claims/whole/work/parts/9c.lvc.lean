/-! levels: one who counts is as another -/
def cN (n : Nat) (P : Nat → Bool) : Nat := lp n 0 0 (fun k c => c + if P k = true then 1 else 0)
def LvC (cp : Nat → Int32) (n : Nat) (t : Int32) (y : Nat) (f : Nat → Int32) : Prop := (f y = nN 0) ∧ (∀ k, k < n → f k = iN (-1) ∨ ∃ d, d < 100 ∧ f k = nN d) ∧ (∀ k, k < n → f k = nN 0 → k = y) ∧ (∀ k d, k < n → d < 100 → f k = nN (d + 1) → ∃ j, j < n ∧ f j = nN d ∧ t ≤ cp (12 * k + j)) ∧ (∀ j d k, j < n → k < n → d < 100 → f j = nN d → t ≤ cp (12 * k + j) → ∃ e, e ≤ d + 1 ∧ f k = nN e)
theorem LvC.mk {cp : Nat → Int32} {n : Nat} {t : Int32} {y : Nat} {f : Nat → Int32} (y0 : f y = nN 0) (v : ∀ k, k < n → f k = iN (-1) ∨ ∃ d, d < 100 ∧ f k = nN d) (z : ∀ k, k < n → f k = nN 0 → k = y) (b : ∀ k d, k < n → d < 100 → f k = nN (d + 1) → ∃ j, j < n ∧ f j = nN d ∧ t ≤ cp (12 * k + j)) (c : ∀ j d k, j < n → k < n → d < 100 → f j = nN d → t ≤ cp (12 * k + j) → ∃ e, e ≤ d + 1 ∧ f k = nN e) : LvC cp n t y f := ⟨y0, v, z, b, c⟩
theorem LvC.y0 {cp : Nat → Int32} {n : Nat} {t : Int32} {y : Nat} {f : Nat → Int32} (h : LvC cp n t y f) : f y = nN 0 := And.left h
theorem LvC.v {cp : Nat → Int32} {n : Nat} {t : Int32} {y : Nat} {f : Nat → Int32} (h : LvC cp n t y f) : ∀ k, k < n → f k = iN (-1) ∨ ∃ d, d < 100 ∧ f k = nN d := And.left (And.right h)
theorem LvC.z {cp : Nat → Int32} {n : Nat} {t : Int32} {y : Nat} {f : Nat → Int32} (h : LvC cp n t y f) : ∀ k, k < n → f k = nN 0 → k = y := And.left (And.right (And.right h))
theorem LvC.b {cp : Nat → Int32} {n : Nat} {t : Int32} {y : Nat} {f : Nat → Int32} (h : LvC cp n t y f) : ∀ k d, k < n → d < 100 → f k = nN (d + 1) → ∃ j, j < n ∧ f j = nN d ∧ t ≤ cp (12 * k + j) := And.left (And.right (And.right (And.right h)))
theorem LvC.c {cp : Nat → Int32} {n : Nat} {t : Int32} {y : Nat} {f : Nat → Int32} (h : LvC cp n t y f) : ∀ j d k, j < n → k < n → d < 100 → f j = nN d → t ≤ cp (12 * k + j) → ∃ e, e ≤ d + 1 ∧ f k = nN e := And.right (And.right (And.right (And.right h)))
section LC
variable {n dd i j k x y d r m : Nat} {cp f g : Nat → Int32} {t : Int32} {P P2 : Nat → Bool}
theorem cN_le1 : ∀ (l k c : Nat), lp l k c (fun k c => c + if P k = true then 1 else 0) ≤ c + l := by
  intro l
  induction l with
  | zero => intro k c; exact Nat.le_refl _
  | succ l ih =>
    intro k c
    have := ih (k + 1) (c + if P k = true then 1 else 0)
    have h2 : (if P k = true then 1 else 0) ≤ 1 := by split <;> omega
    refine Nat.le_trans this ?_
    omega
theorem cN_le : cN n P ≤ n := by have := cN_le1 (P := P) n 0 0; unfold cN; omega
theorem cN_lt (h : ∀ k, k < n → P k = true → P2 k = true) (hk : j < n) (h2 : P2 j = true) (h1 : ¬ P j = true) : cN n P + 1 ≤ cN n P2 := by
  have e1 := lp_one n 0 j 0
  rw [if_pos (show 0 ≤ j ∧ j < 0 + n by omega)] at e1
  have e2 := lp_add (f := fun k => if P k = true then 1 else 0) (g := fun k => if k = j then 1 else 0) n 0 0 0 0 rfl
  have e3 := lp_le (f := fun k => (if P k = true then 1 else 0) + (if k = j then 1 else 0)) (g := fun k => if P2 k = true then 1 else 0) n 0 0 0 (Nat.le_refl _) (fun i _ hi => by
    by_cases e : i = j
    · subst e; rw [if_neg h1, if_pos rfl, if_pos h2]; exact Nat.le_refl _
    · rw [if_neg e]
      by_cases c : P i = true
      · rw [if_pos c, if_pos (h i (by omega) c)]; exact Nat.le_refl _
      · rw [if_neg c]; exact Nat.zero_le _)
  unfold cN
  omega
theorem cN_all (h : n ≤ cN n P) (hk : k < n) : P k = true := by
  refine Classical.byContradiction fun z => ?_
  have h1 := cN_lt (P := P) (P2 := fun _ => true) (fun _ _ _ => rfl) hk rfl z
  have h2 := cN_le (n := n) (P := fun _ => true)
  omega
theorem cN_add (hj : j < n) (h : ¬ P j = true) (e : ∀ k, P2 k = (P k || decide (k = j))) : cN n P2 = cN n P + 1 := by
  have e9 : ∀ k, (if P2 k = true then 1 else 0) = (if P k = true then 1 else 0) + if k = j then 1 else 0 := by
    intro k
    rw [e]
    by_cases c : k = j
    · subst c
      simp [h]
    · simp [c]
  unfold cN
  simp only [e9]
  rw [lp_add n 0 0 0 0 rfl, lp_one, if_pos (by omega)]
theorem nN_m {d : Nat} (hd : d < 5000) : ¬ nN d = iN (-1) := by rw [nN_neN (by omega)]; exact not_false
theorem lvc_le (hf : LvC cp n t y f) (hg : LvC cp n t y g) : ∀ d, d < 100 → ∀ k, k < n → f k = nN d → ∃ e, e ≤ d ∧ g k = nN e := by
  intro d
  induction d with
  | zero =>
    intro _ k hk h
    exact ⟨0, Nat.le_refl _, by rw [hf.z k hk h]; exact hg.y0⟩
  | succ d ih =>
    intro hd k hk h
    obtain ⟨j, hj, h1, h2⟩ := hf.b k d hk (by omega) h
    obtain ⟨e, he, h3⟩ := ih (by omega) j hj h1
    obtain ⟨e2, h4, h5⟩ := hg.c j e k hj hk (by omega) h3 h2
    exact ⟨e2, by omega, h5⟩
theorem lvc_eq (hf : LvC cp n t y f) (hg : LvC cp n t y g) (hk : k < n) : f k = g k := by
  rcases hf.v k hk with h | ⟨d, hd, h⟩
  · rcases hg.v k hk with h2 | ⟨e, he, h2⟩
    · rw [h, h2]
    · obtain ⟨e2, h4, h3⟩ := lvc_le hg hf e he k hk h2
      exact absurd (h3.symm.trans h) (nN_m (by omega))
  · obtain ⟨e, he, h2⟩ := lvc_le hf hg d hd k hk h
    obtain ⟨e2, he2, h3⟩ := lvc_le hg hf e (by omega) k hk h2
    rw [h, nN_eq (by omega) (by omega)] at h3
    have : e = d := by omega
    rw [h, h2, this]
theorem lvE_t : ∀ (l i : Nat), lp l i true (lvE cp n t dd f j) = true := by
  intro l
  induction l with
  | zero => intro i; rfl
  | succ l ih => intro i; exact ih (i + 1)
theorem lvE_ex : ∀ (l i k : Nat) (s : Bool), i ≤ k → k < i + l → f k = nN dd → t ≤ cp (12 * j + k) → lp l i s (lvE cp n t dd f j) = true := by
  intro l
  induction l with
  | zero => intro i k s h1 h2 _ _; omega
  | succ l ih =>
    intro i k s h1 h2 h3 h4
    by_cases e : k = i
    · subst e
      show lp l (k + 1) (lvE cp n t dd f j k s) _ = true
      have : lvE cp n t dd f j k s = true := by unfold lvE; rw [decide_eq_true h3, decide_eq_true h4]; simp
      rw [this]
      exact lvE_t l (k + 1)
    · exact ih (i + 1) k _ (by omega) (by omega) h3 h4
theorem lvS_keep (hd : d < 4000) (hj : f j = nN d) : lvS cp n t r f j = nN d := by
  unfold lvS
  rw [if_neg]
  · exact hj
  · rintro ⟨z, -⟩
    rw [hj] at z
    exact nN_m (by omega) z
def LvR (cp : Nat → Int32) (n : Nat) (t : Int32) (y r : Nat) (f : Nat → Int32) : Prop := LvI cp n t r f ∧ f y = nN 0 ∧ (∀ k, f k = nN 0 → k = y) ∧ ∀ j d k, j < n → k < n → d < r → f j = nN d → t ≤ cp (12 * k + j) → ∃ e, e ≤ d + 1 ∧ f k = nN e
theorem lvR_0 : LvR cp n t y 0 (lv0 y) := by
  refine ⟨lvI_0, ?_, fun k h => ?_, fun j d k _ _ h => by omega⟩
  · unfold lv0; rw [if_pos rfl]
  · unfold lv0 at h
    split at h
    · assumption
    · exact absurd h.symm (nN_m (by omega))
theorem lvR_s (hr : r < 50) (h : LvR cp n t y r f) : LvR cp n t y (r + 1) (lvS cp n t r f) := by
  obtain ⟨h1, h2, h3, h4⟩ := h
  refine ⟨lvI_s hr h1, lvS_keep (by omega) h2, fun k hk => ?_, fun j d k hj hk hd hf he => ?_⟩
  · unfold lvS at hk
    split at hk
    · exact absurd hk (by rw [nN_eq (by omega) (by omega)]; omega)
    · exact h3 k hk
  · have hf2 : f j = nN d := by
      unfold lvS at hf
      split at hf
      · exact absurd hf (by rw [nN_eq (by omega) (by omega)]; omega)
      · exact hf
    rcases h1.1 k with hm | ⟨e, g1, g2⟩
    · by_cases c : d < r
      · obtain ⟨e, g1, g2⟩ := h4 j d k hj hk c hf2 he
        exact ⟨e, g1, lvS_keep (by omega) g2⟩
      · have : d = r := by omega
        subst this
        refine ⟨d + 1, Nat.le_refl _, ?_⟩
        unfold lvS
        rw [if_pos ⟨hm, lvE_ex n 0 j false (by omega) (by omega) hf2 he⟩]
    · by_cases c : d < r
      · obtain ⟨e, g1, g2⟩ := h4 j d k hj hk c hf2 he
        exact ⟨e, g1, lvS_keep (by omega) g2⟩
      · exact ⟨e, by omega, lvS_keep (by omega) g2⟩
def lvP (f : Nat → Int32) (d k : Nat) : Bool := decide (0 ≤ (f k).toInt ∧ (f k).toInt ≤ (d : Int))
theorem lvP_n {e : Nat} (he : e < 4000) (h : f k = nN e) : lvP f d k = decide (e ≤ d) := by
  unfold lvP
  rw [h, nN_toInt (by omega)]
  by_cases c : e ≤ d
  · rw [decide_eq_true c, decide_eq_true (by omega)]
  · rw [decide_eq_false c, decide_eq_false (by omega)]
theorem lv_cnt (h : LvI cp n t r f) (hn : n ≤ 12) : ∀ d, d < 50 → (∃ k, k < n ∧ f k = nN d) → d + 1 ≤ cN n (lvP f d) := by
  intro d
  induction d with
  | zero =>
    rintro _ ⟨k, hk, h1⟩
    have := cN_lt (n := n) (P := fun _ => false) (P2 := lvP f 0) (fun _ _ z => absurd z (by simp)) hk (by rw [lvP_n (e := 0) (by omega) h1]; rfl) (by simp)
    omega
  | succ d ih =>
    rintro hd ⟨k, hk, h1⟩
    obtain ⟨j, hj, h2, -⟩ := h.2 k d (by omega) h1
    have i1 := ih (by omega) ⟨j, hj, h2⟩
    have := cN_lt (n := n) (P := lvP f d) (P2 := lvP f (d + 1)) (fun i _ z => by
      unfold lvP at z ⊢
      rw [decide_eq_true_iff] at z ⊢
      omega) hk (by rw [lvP_n (by omega) h1]; simp) (by rw [lvP_n (by omega) h1]; simp)
    omega
theorem lvc_F (hn : n ≤ 12) (hy : y < n) : LvC cp n t y (lvF cp n t y) := by
  have := lp_inv (f := fun dd f => lvS cp n t dd f) (P := fun r f => LvR cp n t y r f) (n - 1) 0 (lv0 y) lvR_0 (fun r f h1 h2 h3 => lvR_s (by omega) h3)
  rw [Nat.zero_add] at this
  have h : LvR cp n t y (n - 1) (lvF cp n t y) := this
  clear this
  generalize lvF cp n t y = f at *
  obtain ⟨h1, h2, h3, h4⟩ := h
  refine LvC.mk h2 (fun k hk => ?_) (fun k _ z => h3 k z) (fun k d _ hd z => h1.2 k d hd z) (fun j d k hj hk hd hf he => ?_)
  · rcases h1.1 k with g | ⟨d, g1, g2⟩
    · exact Or.inl g
    · exact Or.inr ⟨d, by omega, g2⟩
  · by_cases c : d < n - 1
    · exact h4 j d k hj hk c hf he
    · rcases h1.1 j with g | ⟨d', g1, g2⟩
      · exact absurd (hf.symm.trans g) (nN_m (by omega))
      · rw [hf, nN_eq (by omega) (by omega)] at g2
        have cc := lv_cnt h1 hn d (by omega) ⟨j, hj, hf⟩
        have := cN_all (n := n) (P := lvP f d) (by omega) hk
        rcases h1.1 k with g | ⟨e, g3, g4⟩
        · unfold lvP at this
          rw [g] at this
          rw [decide_eq_true_iff, iN_toInt ⟨by decide, by decide⟩] at this
          omega
        · exact ⟨e, by omega, g4⟩
end LC
