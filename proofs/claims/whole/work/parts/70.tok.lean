/-! TEXTS AS THINGS -/
def kd (c : Nat) : Nat := if 97 ≤ c ∧ c ≤ 122 then 1 else if 48 ≤ c ∧ c ≤ 57 then 2 else if c = 32 then 0 else 3
def pk (b : Nat → Nat) (k : Nat) : Nat := if k = 0 then 0 else kd (b (k - 1))
def isB (b : Nat → Nat) (k : Nat) : Bool := !decide (kd (b k) = 0) && (decide (kd (b k) = 3) || !decide (kd (b k) = pk b k))
def ct (b : Nat → Nat) : Nat → Nat
  | 0 => 0
  | k + 1 => ct b k + (if isB b k = true then 1 else 0)
def nbF (b : Nat → Nat) : Nat → Nat → Nat
  | 0, k => k
  | j + 1, k => if isB b k = true then k else nbF b j (k + 1)
def nb (n : Nat) (b : Nat → Nat) (k : Nat) : Nat := nbF b (n - k) k
def reF (b : Nat → Nat) (q : Nat) : Nat → Nat → Nat
  | 0, p => p
  | j + 1, p => if kd (b p) = q then reF b q j (p + 1) else p
def te (n : Nat) (b : Nat → Nat) (p : Nat) : Nat := if kd (b p) = 3 then p + 1 else reF b (kd (b p)) (n - p) p
def nx9 (n : Nat) (b : Nat → Nat) (p : Nat) : Nat := nb n b (te n b p)
def tx (n : Nat) (b : Nat → Nat) (p : Nat) : List Nat := (List.range (te n b p - p)).map fun i => b (p + i)
def wixF (x : List Nat) : List (List Nat) → Nat → Nat
  | [], _ => 3001
  | w :: r, i => if x = w then i else wixF x r (i + 1)
def numV (x : List Nat) : Nat := x.foldl (fun v c => 10 * v + (c - 48)) 0
def th (W : List (List Nat)) (n : Nat) (b : Nat → Nat) (p : Nat) : Nat :=
  if n ≤ p then 3000 else if kd (b p) = 3 then 2000 + b p else if kd (b p) = 2 then (if 3 < te n b p - p then 3001 else numV (tx n b p)) else wixF (tx n b p) W 1000
section TKN
variable {n p k i q : Nat} {b : Nat → Nat} {W : List (List Nat)}
theorem kd_le {c : Nat} : kd c ≤ 3 := by
  unfold kd
  split
  · omega
  · split
    · omega
    · split <;> omega
theorem nbF_spec : ∀ (j k : Nat), k ≤ nbF b j k ∧ nbF b j k ≤ k + j ∧ (nbF b j k < k + j → isB b (nbF b j k) = true) ∧ ∀ i, k ≤ i → i < nbF b j k → isB b i = false := by
  intro j
  induction j with
  | zero => intro k; refine ⟨Nat.le_refl _, Nat.le_refl _, fun h => absurd h (by show ¬ k < k + 0; omega), fun i h1 h2 => ?_⟩; change i < k at h2; omega
  | succ j ih =>
    intro k
    unfold nbF
    by_cases c : isB b k = true
    · rw [if_pos c]
      exact ⟨Nat.le_refl _, by omega, fun _ => c, fun i h1 h2 => by omega⟩
    · rw [if_neg c]
      obtain ⟨h1, h2, h3, h4⟩ := ih (k + 1)
      refine ⟨by omega, by omega, fun h => h3 (by omega), fun i g1 g2 => ?_⟩
      by_cases e : i = k
      · subst e; simpa using c
      · exact h4 i (by omega) g2
theorem nb_spec (h : k ≤ n) : k ≤ nb n b k ∧ nb n b k ≤ n ∧ (nb n b k < n → isB b (nb n b k) = true) ∧ ∀ i, k ≤ i → i < nb n b k → isB b i = false := by
  obtain ⟨h1, h2, h3, h4⟩ := nbF_spec (b := b) (n - k) k
  exact ⟨h1, by unfold nb; omega, fun z => h3 (by unfold nb at z; omega), h4⟩
theorem nb_at (h : k < n) (hb : isB b k = true) : nb n b k = k := by
  unfold nb
  rw [show n - k = (n - k - 1) + 1 from by omega]
  unfold nbF
  rw [if_pos hb]
theorem nb_step (h : k < n) (hb : isB b k = false) : nb n b k = nb n b (k + 1) := by
  unfold nb
  rw [show n - k = (n - (k + 1)) + 1 from by omega]
  rw [show nbF b (n - (k + 1) + 1) k = if isB b k = true then k else nbF b (n - (k + 1)) (k + 1) from rfl, if_neg (by simp [hb])]
theorem nb_n : nb n b n = n := by
  unfold nb
  rw [Nat.sub_self]
  rfl
theorem reF_spec : ∀ (j p : Nat), p ≤ reF b q j p ∧ reF b q j p ≤ p + j ∧ (reF b q j p < p + j → ¬ kd (b (reF b q j p)) = q) ∧ ∀ i, p ≤ i → i < reF b q j p → kd (b i) = q := by
  intro j
  induction j with
  | zero => intro p; refine ⟨Nat.le_refl _, Nat.le_refl _, fun h => absurd h (by show ¬ p < p + 0; omega), fun i h1 h2 => ?_⟩; change i < p at h2; omega
  | succ j ih =>
    intro p
    unfold reF
    by_cases c : kd (b p) = q
    · rw [if_pos c]
      obtain ⟨h1, h2, h3, h4⟩ := ih (p + 1)
      refine ⟨by omega, by omega, fun h => h3 (by omega), fun i g1 g2 => ?_⟩
      by_cases e : i = p
      · subst e; exact c
      · exact h4 i (by omega) g2
    · rw [if_neg c]
      exact ⟨Nat.le_refl _, by omega, fun _ => c, fun i h1 h2 => by omega⟩
theorem te_spec (h : p < n) : p < te n b p ∧ te n b p ≤ n ∧ (te n b p < n → kd (b p) = 3 ∨ ¬ kd (b (te n b p)) = kd (b p)) ∧ (∀ i, p ≤ i → i < te n b p → kd (b i) = kd (b p)) ∧ (kd (b p) = 3 → te n b p = p + 1) := by
  unfold te
  by_cases c : kd (b p) = 3
  · rw [if_pos c]
    refine ⟨by omega, by omega, fun _ => Or.inl c, fun i h1 h2 => ?_, fun _ => rfl⟩
    have : i = p := by omega
    rw [this]
  · rw [if_neg c]
    obtain ⟨h1, h2, h3, h4⟩ := reF_spec (b := b) (q := kd (b p)) (n - p) p
    refine ⟨?_, by omega, fun z => Or.inr (h3 (by omega)), h4, fun z => absurd z c⟩
    rw [show n - p = (n - p - 1) + 1 from by omega]
    unfold reF
    rw [if_pos rfl]
    have := (reF_spec (b := b) (q := kd (b p)) (n - p - 1) (p + 1)).1
    omega
theorem isB_iff : isB b k = true ↔ ¬ kd (b k) = 0 ∧ (kd (b k) = 3 ∨ ¬ kd (b k) = pk b k) := by
  simp [isB]
/-- no thing begins inside another -/
theorem in_tok (h : p < n) (h1 : p < i) (h2 : i < te n b p) : isB b i = false := by
  obtain ⟨g1, g2, g3, g4, g5⟩ := te_spec (b := b) h
  have e1 := g4 i (by omega) h2
  have e2 := g4 (i - 1) (by omega) (by omega)
  have e3 : ¬ kd (b p) = 3 := fun z => by have := g5 z; omega
  have e4 : pk b i = kd (b (i - 1)) := if_neg (by omega)
  cases hb : isB b i with
  | false => rfl
  | true =>
    rcases (isB_iff.mp hb).2 with z | z
    · exact absurd (e1.symm.trans z) e3
    · exact absurd (by rw [e4, e1, e2]) z
theorem ct_same : ∀ (j k : Nat), (∀ i, k ≤ i → i < k + j → isB b i = false) → ct b (k + j) = ct b k := by
  intro j
  induction j with
  | zero => intro k _; rfl
  | succ j ih =>
    intro k h
    rw [← Nat.add_assoc]
    show ct b (k + j) + _ = _
    rw [h (k + j) (by omega) (by omega), ih k (fun i h1 h2 => h i h1 (by omega))]
    rfl
theorem ct_nb (h : k ≤ n) : ct b (nb n b k) = ct b k := by
  obtain ⟨h1, h2, h3, h4⟩ := nb_spec (b := b) h
  have := ct_same (b := b) (nb n b k - k) k (fun i g1 g2 => h4 i g1 (by omega))
  rwa [show k + (nb n b k - k) = nb n b k from by omega] at this
theorem ct_te (h : p < n) (hb : isB b p = true) : ct b (te n b p) = ct b p + 1 := by
  obtain ⟨g1, g2, -, -, -⟩ := te_spec (b := b) h
  have := ct_same (b := b) (te n b p - (p + 1)) (p + 1) (fun i h1 h2 => in_tok h (by omega) (by omega))
  rw [show p + 1 + (te n b p - (p + 1)) = te n b p from by omega] at this
  rw [this]
  show ct b p + _ = _
  rw [if_pos hb]
theorem ct_nx (h : p < n) (hb : isB b p = true) : ct b (nx9 n b p) = ct b p + 1 := by
  obtain ⟨g1, g2, -, -, -⟩ := te_spec (b := b) h
  unfold nx9
  rw [ct_nb g2, ct_te h hb]
theorem ct_le : ∀ k, ct b k ≤ k := by
  intro k
  induction k with
  | zero => exact Nat.le_refl _
  | succ k ih =>
    show ct b k + _ ≤ _
    split <;> omega
theorem nx_gt (h : p < n) : p < nx9 n b p ∧ nx9 n b p ≤ n ∧ (nx9 n b p < n → isB b (nx9 n b p) = true) := by
  obtain ⟨g1, g2, -, -, -⟩ := te_spec (b := b) h
  obtain ⟨h1, h2, h3, -⟩ := nb_spec (b := b) g2
  exact ⟨by unfold nx9; omega, h2, h3⟩
/-- where one may stand between things -/
def Cl (n : Nat) (b : Nat → Nat) (q : Nat) : Prop := q ≤ n ∧ (q = n ∨ kd (b q) = 0 ∨ isB b q = true)
theorem Cl_te (h : p < n) (hb : isB b p = true) : Cl n b (te n b p) := by
  obtain ⟨g1, g2, g3, g4, g5⟩ := te_spec (b := b) h
  refine ⟨g2, ?_⟩
  by_cases e : te n b p = n
  · exact Or.inl e
  · refine Or.inr ?_
    by_cases c : kd (b (te n b p)) = 0
    · exact Or.inl c
    · refine Or.inr (isB_iff.mpr ⟨c, ?_⟩)
      by_cases c3 : kd (b (te n b p)) = 3
      · exact Or.inl c3
      · refine Or.inr ?_
        have e1 : pk b (te n b p) = kd (b (te n b p - 1)) := if_neg (by omega)
        rw [e1, g4 (te n b p - 1) (by omega) (by omega)]
        rcases g3 (by omega) with z | z
        · rw [z]; exact c3
        · exact z
theorem Cl_0 : Cl n b 0 := by
  refine ⟨Nat.zero_le _, ?_⟩
  by_cases c : kd (b 0) = 0
  · exact Or.inr (Or.inl c)
  · exact Or.inr (Or.inr (isB_iff.mpr ⟨c, Or.inr (by simpa [pk] using c)⟩))
theorem Cl_blank (h : k < n) (hc : kd (b k) = 0) : Cl n b (k + 1) := by
  refine ⟨by omega, ?_⟩
  by_cases e : k + 1 = n
  · exact Or.inl e
  · refine Or.inr ?_
    by_cases c : kd (b (k + 1)) = 0
    · exact Or.inl c
    · refine Or.inr (isB_iff.mpr ⟨c, Or.inr ?_⟩)
      have e1 : pk b (k + 1) = kd (b k) := rfl
      rw [e1, hc]
      exact c
theorem Cl_nb (h : q ≤ n) : Cl n b (nb n b q) := by
  obtain ⟨h1, h2, h3, -⟩ := nb_spec (b := b) h
  refine ⟨h2, ?_⟩
  by_cases e : nb n b q = n
  · exact Or.inl e
  · exact Or.inr (Or.inr (h3 (by omega)))
end TKN
/-! words in a row -/
def scanW (x : List Nat) : List Nat → Nat → Option Nat → Nat
  | [], _, _ => 3001
  | c :: r, w, a => if c = 32 then (if a = some x.length then w else scanW x r (w + 1) (some 0)) else scanW x r w (match a with | some m => if x[m]? = some c then some (m + 1) else none | none => none)
def joinW : List (List Nat) → List Nat
  | [] => []
  | w :: r => w ++ 32 :: joinW r
section SCN
variable {x : List Nat}
theorem scan_c {c w : Nat} {r : List Nat} {a : Option Nat} : scanW x (c :: r) w a = if c = 32 then (if a = some x.length then w else scanW x r (w + 1) (some 0)) else scanW x r w (match a with | some m => if x[m]? = some c then some (m + 1) else none | none => none) := rfl
theorem scan_none : ∀ (w r : List Nat) (i : Nat), (∀ c ∈ w, c ≠ 32) → scanW x (w ++ 32 :: r) i none = scanW x r (i + 1) (some 0) := by
  intro w
  induction w with
  | nil => intro r i _; simp [scanW]
  | cons c w ih =>
    intro r i h
    have hc : c ≠ 32 := h c List.mem_cons_self
    show scanW x (c :: (w ++ 32 :: r)) i none = _
    rw [scan_c]
    rw [if_neg hc]
    exact ih r i (fun d hd => h d (List.mem_cons_of_mem _ hd))
theorem scan_some : ∀ (w2 w1 r : List Nat) (i : Nat), (∀ c ∈ w2, c ≠ 32) → w1 = x.take w1.length → scanW x (w2 ++ 32 :: r) i (some w1.length) = if x = w1 ++ w2 then i else scanW x r (i + 1) (some 0) := by
  intro w2
  induction w2 with
  | nil =>
    intro w1 r i _ hw
    show scanW x (32 :: r) i (some w1.length) = _
    rw [scan_c]
    rw [if_pos rfl, List.append_nil]
    by_cases c : x = w1
    · rw [if_pos c, if_pos (by rw [c])]
    · rw [if_neg c, if_neg]
      intro z
      have z2 : w1.length = x.length := Option.some.inj z
      rw [z2, List.take_length] at hw
      exact c hw.symm
  | cons c w2 ih =>
    intro w1 r i h hw
    have hc : c ≠ 32 := h c List.mem_cons_self
    show scanW x (c :: (w2 ++ 32 :: r)) i (some w1.length) = _
    rw [scan_c]
    rw [if_neg hc]
    dsimp only
    by_cases e : x[w1.length]? = some c
    · rw [if_pos e]
      have hl : w1.length < x.length := (List.getElem?_eq_some_iff.mp e).1
      have he : x[w1.length] = c := (List.getElem?_eq_some_iff.mp e).2
      have := ih (w1 ++ [c]) r i (fun d hd => h d (List.mem_cons_of_mem _ hd)) (by
        rw [List.length_append, List.length_singleton, List.take_succ, ← hw, e]
        rfl)
      rw [List.length_append, List.length_singleton] at this
      rw [this, List.append_assoc]
      rfl
    · rw [if_neg e, scan_none w2 r i (fun d hd => h d (List.mem_cons_of_mem _ hd)), if_neg]
      intro z
      apply e
      rw [z]
      simp
theorem scan_join : ∀ (W : List (List Nat)) (i : Nat), (∀ w ∈ W, ∀ c ∈ w, c ≠ 32) → scanW x (joinW W) i (some 0) = wixF x W i := by
  intro W
  induction W with
  | nil => intro i _; rfl
  | cons w W ih =>
    intro i h
    show scanW x (w ++ 32 :: joinW W) i (some 0) = _
    have := scan_some (x := x) w [] (joinW W) i (h w List.mem_cons_self) rfl
    rw [show (some 0 : Option Nat) = some ([] : List Nat).length from rfl, this, ih (i + 1) (fun v hv => h v (List.mem_cons_of_mem _ hv))]
    rfl
end SCN
