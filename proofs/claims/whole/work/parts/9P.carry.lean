/-! what one way carries: pure -/
def up1 (c : Nat → Int32) (p v : Nat) (m : Int32) : Nat → Int32 := fun k => if k = 12 * v + p then (if k = 12 * p + v then c k - m else c k) + m else if k = 12 * p + v then c k - m else c k
def mnW (cp : Nat → Int32) (par : Nat → Nat) (x : Nat) : Nat → Nat → Int32 → Int32
  | 0, _, m => m
  | f + 1, v, m => if v = x then m else mnW cp par x f (par v) (if cp (12 * par v + v) < m then cp (12 * par v + v) else m)
def upW (par : Nat → Nat) (x : Nat) (m : Int32) : Nat → Nat → (Nat → Int32) → Nat → Int32
  | 0, _, c => c
  | f + 1, v, c => if v = x then c else upW par x m f (par v) (up1 c (par v) v m)
def CpI (c : Nat → Int32) (n : Nat) : Prop := ∀ i j, i < n → j < n → 0 ≤ (c (12 * i + j)).toInt ∧ (c (12 * i + j)).toInt + (c (12 * j + i)).toInt ≤ 8000
def PthO (cp : Nat → Int32) (par : Nat → Nat) (x : Nat) (m : Int32) : Nat → Nat → Prop
  | 0, _ => True
  | f + 1, v => v = x ∨ (m.toInt ≤ (cp (12 * par v + v)).toInt ∧ PthO cp par x m f (par v))
def rowS (c : Nat → Int32) (x : Nat) (n : Nat) : Int := lp n 0 0 (fun j s => s + (c (12 * x + j)).toInt)
section CY
variable {d t u n q f g e K k dd j bl x y i h p v : Nat} {cp c c' : Nat → Int32} {s : tB} {par : Nat → Nat} {m a b : Int32}
theorem tz_sub (h : -2147483648 ≤ a.toInt - b.toInt) (h2 : a.toInt - b.toInt < 2147483648) : (a - b).toInt = a.toInt - b.toInt := by
  rw [iN_of a, iN_of b, iN_sub, iN_toInt]
  · rw [← iN_of a, ← iN_of b]
  · exact ⟨by omega, by omega⟩
theorem tz_add (h : -2147483648 ≤ a.toInt + b.toInt) (h2 : a.toInt + b.toInt < 2147483648) : (a + b).toInt = a.toInt + b.toInt := by
  rw [iN_of a, iN_of b, iN_add, iN_toInt]
  · rw [← iN_of a, ← iN_of b]
  · exact ⟨by omega, by omega⟩
theorem up1_z (hI : CpI c n) (hn : n ≤ 12) (hp : p < n) (hv : v < n) (hne : p ≠ v) (h0 : 0 ≤ m.toInt) (hm : m.toInt ≤ (c (12 * p + v)).toInt) (hi : i < n) (hj : j < n) : (up1 c p v m (12 * i + j)).toInt = (c (12 * i + j)).toInt + (if i = v ∧ j = p then m.toInt else 0) - (if i = p ∧ j = v then m.toInt else 0) := by
  obtain ⟨b1, b2⟩ := hI p v hp hv
  obtain ⟨b3, b4⟩ := hI v p hv hp
  unfold up1
  by_cases e1 : i = v ∧ j = p
  · obtain ⟨rfl, rfl⟩ := e1
    rw [if_pos rfl, if_neg (by omega), if_pos ⟨rfl, rfl⟩, if_neg (by omega), tz_add (by omega) (by omega)]
    omega
  · rw [if_neg (by omega), if_neg e1]
    by_cases e2 : i = p ∧ j = v
    · obtain ⟨rfl, rfl⟩ := e2
      rw [if_pos rfl, if_pos ⟨rfl, rfl⟩, tz_sub (by omega) (by omega)]
      omega
    · rw [if_neg (by omega), if_neg e2]
      omega
theorem up1_I (hI : CpI c n) (hn : n ≤ 12) (hp : p < n) (hv : v < n) (hne : p ≠ v) (h0 : 0 ≤ m.toInt) (hm : m.toInt ≤ (c (12 * p + v)).toInt) : CpI (up1 c p v m) n := by
  intro i j hi hj
  rw [up1_z hI hn hp hv hne h0 hm hi hj, up1_z hI hn hp hv hne h0 hm hj hi]
  obtain ⟨b1, b2⟩ := hI i j hi hj
  obtain ⟨b3, b4⟩ := hI j i hj hi
  by_cases e1 : i = v ∧ j = p
  · obtain ⟨rfl, rfl⟩ := e1
    rw [if_pos ⟨rfl, rfl⟩, if_neg (by omega), if_neg (by omega), if_pos ⟨rfl, rfl⟩]
    omega
  · by_cases e2 : i = p ∧ j = v
    · obtain ⟨rfl, rfl⟩ := e2
      rw [if_neg (by omega), if_pos ⟨rfl, rfl⟩, if_pos ⟨rfl, rfl⟩, if_neg (by omega)]
      omega
    · rw [if_neg e1, if_neg e2, if_neg (by omega), if_neg (by omega)]
      omega
theorem rowS_up : ∀ l k (z : Int) (e : Int), (∀ i, k ≤ i → i < k + l → (c' (12 * x + i)).toInt = (c (12 * x + i)).toInt - (if i = v then e else 0)) → lp l k z (fun j s => s + (c' (12 * x + j)).toInt) = lp l k z (fun j s => s + (c (12 * x + j)).toInt) - (if k ≤ v ∧ v < k + l then e else 0) := by
  intro l
  induction l with
  | zero => intro k z e _; show z = z - _; rw [if_neg (by omega)]; omega
  | succ l ih =>
    intro k z e h
    have sh : ∀ l k z w, lp l k (z + w) (fun j s => s + (c (12 * x + j)).toInt) = lp l k z (fun j s => s + (c (12 * x + j)).toInt) + w := by
      intro l
      induction l with
      | zero => intro k z w; rfl
      | succ l ih => intro k z w; show lp l (k + 1) (z + w + _) _ = lp l (k + 1) (z + _) _ + w; rw [← ih]; congr 1; omega
    show lp l (k + 1) (z + (c' (12 * x + k)).toInt) _ = lp l (k + 1) (z + (c (12 * x + k)).toInt) _ - _
    rw [ih (k + 1) _ e (fun i h1 h2 => h i (by omega) (by omega)), h k (by omega) (by omega)]
    by_cases e1 : k = v
    · subst e1
      rw [if_pos rfl, if_neg (by omega), if_pos (by omega)]
      rw [show z + ((c (12 * x + k)).toInt - e) = (z + (c (12 * x + k)).toInt) + (-e) from by omega, sh]
      omega
    · rw [if_neg e1]
      rw [show z + ((c (12 * x + k)).toInt - 0) = z + (c (12 * x + k)).toInt from by omega]
      by_cases e2 : k + 1 ≤ v ∧ v < k + 1 + l
      · rw [if_pos e2, if_pos (by omega)]
      · rw [if_neg e2, if_neg (by omega)]
theorem mnW_ok : ∀ f v a, (mnW cp par x f v a).toInt ≤ a.toInt ∧ PthO cp par x (mnW cp par x f v a) f v := by
  intro f
  induction f with
  | zero => intro v a; exact ⟨Int.le_refl _, trivial⟩
  | succ f ih =>
    intro v a
    unfold mnW PthO
    by_cases e : v = x
    · rw [if_pos e]; exact ⟨Int.le_refl _, Or.inl e⟩
    · rw [if_neg e]
      obtain ⟨h1, h2⟩ := ih (par v) (if cp (12 * par v + v) < a then cp (12 * par v + v) else a)
      by_cases l : cp (12 * par v + v) < a
      · rw [if_pos l] at h1 h2 ⊢
        have := Int32.lt_iff_toInt_lt.mp l
        exact ⟨by omega, Or.inr ⟨h1, h2⟩⟩
      · rw [if_neg l] at h1 h2 ⊢
        have := Int32.le_iff_toInt_le.mp (Int32.not_lt.mp l)
        exact ⟨h1, Or.inr ⟨by omega, h2⟩⟩
/-- from the k-th found, the one before is found earlier -/
theorem bf_par (w : BfW cp n x s) (hk : k < s.2.2.2) (hne : s.2.2.1 k ≠ x) : ∃ k', k' < k ∧ s.2.1 (s.2.2.1 k) = s.2.2.1 k' ∧ s.2.2.1 k' < n ∧ s.2.2.1 k' ≠ s.2.2.1 k := by
  obtain ⟨k2, h1, h2, h3⟩ := w.ps _ (w.qn k hk).2
  have e := w.ij k2 k h1 hk h2
  subst e
  rcases h3 with h3 | ⟨k', h4, h5⟩
  · subst h3; exact absurd w.q0 hne
  · exact ⟨k', h4, h5, (w.qn k' (by omega)).1, fun z => by have := w.ij k' k2 (by omega) h1 z; omega⟩
theorem mnW_pos (w : BfW cp n x s) (hI : CpI cp n) : ∀ f k a, k < s.2.2.2 → 0 < a.toInt → 0 < (mnW cp s.2.1 x f (s.2.2.1 k) a).toInt := by
  intro f
  induction f with
  | zero => intro k a _ h; exact h
  | succ f ih =>
    intro k a hk h
    unfold mnW
    by_cases e : s.2.2.1 k = x
    · rw [if_pos e]; exact h
    · rw [if_neg e]
      obtain ⟨k', h1, h2, h3, h4⟩ := bf_par w hk e
      have hv := (w.qn k hk).1
      have ed := w.ed _ (w.qn k hk).2 e
      rw [h2] at ed ⊢
      obtain ⟨b1, -⟩ := hI _ _ h3 hv
      refine ih k' _ (by omega) ?_
      split
      · refine Classical.byContradiction fun z => ed ?_
        have : (cp (12 * s.2.2.1 k' + s.2.2.1 k)).toInt = 0 := by omega
        rw [iN_of (cp _), this]; rfl
      · exact h
/-- the table after the way has carried -/
theorem upW_ok (w : BfW cp n x s) (hn : n ≤ 12) (hx : x < n) (h0 : 0 ≤ m.toInt) : ∀ f k c, k < s.2.2.2 → k ≤ f → CpI c n → (∀ k2, k2 ≤ k → s.2.2.1 k2 ≠ x → c (12 * s.2.1 (s.2.2.1 k2) + s.2.2.1 k2) = cp (12 * s.2.1 (s.2.2.1 k2) + s.2.2.1 k2)) → PthO cp s.2.1 x m f (s.2.2.1 k) → CpI (upW s.2.1 x m f (s.2.2.1 k) c) n ∧ rowS (upW s.2.1 x m f (s.2.2.1 k) c) x n = rowS c x n - (if s.2.2.1 k = x then 0 else m.toInt) := by
  intro f
  induction f with
  | zero =>
    intro k c hk hf hI ag hp
    have : k = 0 := by omega
    subst this
    rw [if_pos w.q0]
    exact ⟨hI, by show rowS c x n = _; omega⟩
  | succ f ih =>
    intro k c hk hf hI ag hp
    unfold upW
    by_cases e : s.2.2.1 k = x
    · rw [if_pos e, if_pos e]; exact ⟨hI, by omega⟩
    · rw [if_neg e, if_neg e]
      obtain ⟨k', h1, h2, h3, h4⟩ := bf_par w hk e
      have hv := (w.qn k hk).1
      have a0 := ag k (Nat.le_refl _) e
      rcases hp with hp | ⟨hp1, hp2⟩
      · exact absurd hp e
      · rw [← a0] at hp1
        rw [h2] at hp1 hp2 ⊢
        have I1 := up1_I hI hn h3 hv h4 h0 hp1
        have z1 := fun i j hi hj => up1_z (i := i) (j := j) hI hn h3 hv h4 h0 hp1 hi hj
        have ag1 : ∀ k2, k2 ≤ k' → s.2.2.1 k2 ≠ x → up1 c (s.2.2.1 k') (s.2.2.1 k) m (12 * s.2.1 (s.2.2.1 k2) + s.2.2.1 k2) = cp (12 * s.2.1 (s.2.2.1 k2) + s.2.2.1 k2) := by
          intro k2 hk2 he2
          rw [← ag k2 (by omega) he2]
          obtain ⟨k3, g1, g2, g3, g4⟩ := bf_par w (show k2 < s.2.2.2 by omega) he2
          have q2 := (w.qn k2 (by omega)).1
          rw [g2]
          unfold up1
          rw [if_neg, if_neg]
          · intro z
            have z1 : s.2.2.1 k3 = s.2.2.1 k' ∧ s.2.2.1 k2 = s.2.2.1 k := by omega
            have := w.ij k2 k (by omega) hk z1.2
            omega
          · intro z
            have z1 : s.2.2.1 k3 = s.2.2.1 k ∧ s.2.2.1 k2 = s.2.2.1 k' := by omega
            have := w.ij k3 k (by omega) hk z1.1
            omega
        obtain ⟨r1, r2⟩ := ih k' _ (by omega) (by omega) I1 ag1 hp2
        refine ⟨r1, ?_⟩
        rw [r2]
        have rr : rowS (up1 c (s.2.2.1 k') (s.2.2.1 k) m) x n = rowS c x n - (if s.2.2.1 k' = x then m.toInt else 0) := by
          unfold rowS
          rw [rowS_up (c := c) (c' := up1 c (s.2.2.1 k') (s.2.2.1 k) m) (x := x) (v := s.2.2.1 k) n 0 0 (if s.2.2.1 k' = x then m.toInt else 0), if_pos (by omega)]
          intro j h1 h2
          rw [z1 x j hx (by omega), if_neg (fun z => e z.1.symm)]
          by_cases e3 : s.2.2.1 k' = x
          · rw [if_pos e3]
            by_cases e4 : j = s.2.2.1 k
            · rw [if_pos ⟨e3.symm, e4⟩, if_pos e4]; omega
            · rw [if_neg (fun z => e4 z.2), if_neg e4]; omega
          · rw [if_neg e3, if_neg (fun z => e3 z.1.symm)]
            split <;> omega
        rw [rr]
        split <;> omega
end CY
