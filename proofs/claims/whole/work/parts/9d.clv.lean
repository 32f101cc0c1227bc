/-! chain: how the class counts, pure -/
abbrev tL : Type := (Nat → Int32) × (Nat → Nat) × Nat
def clJ (cp : Nat → Int32) (t : Int32) (v j : Nat) (s : tL) : tL := if s.1 j = iN (-1) ∧ t ≤ cp (12 * j + v) then (fun k => if k = j then s.1 v + nN 1 else s.1 k, fun k => if k = s.2.2 then j else s.2.1 k, s.2.2 + 1) else s
def clI (cp : Nat → Int32) (n : Nat) (t : Int32) (h : Nat) (s : tL) : tL := lp n 0 s (clJ cp t (s.2.1 h))
def clO (cp : Nat → Int32) (n : Nat) (t : Int32) : Nat → Nat → tL → tL
  | 0, _, s => s
  | f + 1, h, s => if h < s.2.2 then clO cp n t f (h + 1) (clI cp n t h s) else s
def cl0 (y : Nat) : tL := (lv0 y, fun _ => y, 1)
def clF (cp : Nat → Int32) (n : Nat) (t : Int32) (y : Nat) : tL := clO cp n t n 0 (cl0 y)
def ClW (cp : Nat → Int32) (n : Nat) (t : Int32) (y : Nat) (m : Nat) (s : tL) : Prop := (s.1 y = nN 0) ∧ (1 ≤ s.2.2) ∧ (s.2.2 = cN n (fun k => !decide (s.1 k = iN (-1)))) ∧ (∀ k, k < s.2.2 → s.2.1 k < n ∧ ∃ d, d ≤ k ∧ s.1 (s.2.1 k) = nN d) ∧ (∀ j, j < n → s.1 j = iN (-1) ∨ ∃ k, k < s.2.2 ∧ s.2.1 k = j) ∧ (∀ k k' d d', k ≤ k' → k' < s.2.2 → d < 4000 → d' < 4000 → s.1 (s.2.1 k) = nN d → s.1 (s.2.1 k') = nN d' → d ≤ d') ∧ (∀ k d, d < 100 → s.1 k = nN (d + 1) → ∃ j, j < n ∧ s.1 j = nN d ∧ t ≤ cp (12 * k + j)) ∧ (∀ k, s.1 k = nN 0 → k = y) ∧ (∀ k d d', k < s.2.2 → m < s.2.2 → d < 4000 → d' < 4000 → s.1 (s.2.1 m) = nN d → s.1 (s.2.1 k) = nN d' → d' ≤ d + 1) ∧ (∀ i k d, i < m → i < s.2.2 → k < n → d < 4000 → s.1 (s.2.1 i) = nN d → t ≤ cp (12 * k + s.2.1 i) → ∃ e, e ≤ d + 1 ∧ s.1 k = nN e)
theorem ClW.mk {cp : Nat → Int32} {n : Nat} {t : Int32} {y : Nat} {m : Nat} {s : tL} (y0 : s.1 y = nN 0) (c1 : 1 ≤ s.2.2) (cn : s.2.2 = cN n (fun k => !decide (s.1 k = iN (-1)))) (qn : ∀ k, k < s.2.2 → s.2.1 k < n ∧ ∃ d, d ≤ k ∧ s.1 (s.2.1 k) = nN d) (ps : ∀ j, j < n → s.1 j = iN (-1) ∨ ∃ k, k < s.2.2 ∧ s.2.1 k = j) (so : ∀ k k' d d', k ≤ k' → k' < s.2.2 → d < 4000 → d' < 4000 → s.1 (s.2.1 k) = nN d → s.1 (s.2.1 k') = nN d' → d ≤ d') (b : ∀ k d, d < 100 → s.1 k = nN (d + 1) → ∃ j, j < n ∧ s.1 j = nN d ∧ t ≤ cp (12 * k + j)) (z : ∀ k, s.1 k = nN 0 → k = y) (top : ∀ k d d', k < s.2.2 → m < s.2.2 → d < 4000 → d' < 4000 → s.1 (s.2.1 m) = nN d → s.1 (s.2.1 k) = nN d' → d' ≤ d + 1) (cl : ∀ i k d, i < m → i < s.2.2 → k < n → d < 4000 → s.1 (s.2.1 i) = nN d → t ≤ cp (12 * k + s.2.1 i) → ∃ e, e ≤ d + 1 ∧ s.1 k = nN e) : ClW cp n t y m s := ⟨y0, c1, cn, qn, ps, so, b, z, top, cl⟩
theorem ClW.y0 {cp : Nat → Int32} {n : Nat} {t : Int32} {y : Nat} {m : Nat} {s : tL} (h : ClW cp n t y m s) : s.1 y = nN 0 := And.left h
theorem ClW.c1 {cp : Nat → Int32} {n : Nat} {t : Int32} {y : Nat} {m : Nat} {s : tL} (h : ClW cp n t y m s) : 1 ≤ s.2.2 := And.left (And.right h)
theorem ClW.cn {cp : Nat → Int32} {n : Nat} {t : Int32} {y : Nat} {m : Nat} {s : tL} (h : ClW cp n t y m s) : s.2.2 = cN n (fun k => !decide (s.1 k = iN (-1))) := And.left (And.right (And.right h))
theorem ClW.qn {cp : Nat → Int32} {n : Nat} {t : Int32} {y : Nat} {m : Nat} {s : tL} (h : ClW cp n t y m s) : ∀ k, k < s.2.2 → s.2.1 k < n ∧ ∃ d, d ≤ k ∧ s.1 (s.2.1 k) = nN d := And.left (And.right (And.right (And.right h)))
theorem ClW.ps {cp : Nat → Int32} {n : Nat} {t : Int32} {y : Nat} {m : Nat} {s : tL} (h : ClW cp n t y m s) : ∀ j, j < n → s.1 j = iN (-1) ∨ ∃ k, k < s.2.2 ∧ s.2.1 k = j := And.left (And.right (And.right (And.right (And.right h))))
theorem ClW.so {cp : Nat → Int32} {n : Nat} {t : Int32} {y : Nat} {m : Nat} {s : tL} (h : ClW cp n t y m s) : ∀ k k' d d', k ≤ k' → k' < s.2.2 → d < 4000 → d' < 4000 → s.1 (s.2.1 k) = nN d → s.1 (s.2.1 k') = nN d' → d ≤ d' := And.left (And.right (And.right (And.right (And.right (And.right h)))))
theorem ClW.b {cp : Nat → Int32} {n : Nat} {t : Int32} {y : Nat} {m : Nat} {s : tL} (h : ClW cp n t y m s) : ∀ k d, d < 100 → s.1 k = nN (d + 1) → ∃ j, j < n ∧ s.1 j = nN d ∧ t ≤ cp (12 * k + j) := And.left (And.right (And.right (And.right (And.right (And.right (And.right h))))))
theorem ClW.z {cp : Nat → Int32} {n : Nat} {t : Int32} {y : Nat} {m : Nat} {s : tL} (h : ClW cp n t y m s) : ∀ k, s.1 k = nN 0 → k = y := And.left (And.right (And.right (And.right (And.right (And.right (And.right (And.right h)))))))
theorem ClW.top {cp : Nat → Int32} {n : Nat} {t : Int32} {y : Nat} {m : Nat} {s : tL} (h : ClW cp n t y m s) : ∀ k d d', k < s.2.2 → m < s.2.2 → d < 4000 → d' < 4000 → s.1 (s.2.1 m) = nN d → s.1 (s.2.1 k) = nN d' → d' ≤ d + 1 := And.left (And.right (And.right (And.right (And.right (And.right (And.right (And.right (And.right h))))))))
theorem ClW.cl {cp : Nat → Int32} {n : Nat} {t : Int32} {y : Nat} {m : Nat} {s : tL} (h : ClW cp n t y m s) : ∀ i k d, i < m → i < s.2.2 → k < n → d < 4000 → s.1 (s.2.1 i) = nN d → t ≤ cp (12 * k + s.2.1 i) → ∃ e, e ≤ d + 1 ∧ s.1 k = nN e := And.right (And.right (And.right (And.right (And.right (And.right (And.right (And.right (And.right h))))))))
section CL
variable {n dd i j k x y d r m h L : Nat} {cp f g : Nat → Int32} {t : Int32} {s s1 s2 : tL}
theorem clw_cnt (w : ClW cp n t y m s) : s.2.2 ≤ n := by rw [w.cn]; exact cN_le
theorem clw_0 (hy : y < n) : ClW cp n t y 0 (cl0 y) := by
  have e0 : lv0 y y = nN 0 := by unfold lv0; rw [if_pos rfl]
  have ez : ∀ k, lv0 y k = nN 0 → k = y := fun k z => by
    unfold lv0 at z
    split at z
    · assumption
    · exact absurd z.symm (nN_m (by omega))
  refine ClW.mk e0 (Nat.le_refl _) ?_ ?_ ?_ ?_ ?_ ez ?_ ?_
  · have h1 := cN_add (n := n) (j := y) (P := fun _ => false) (P2 := fun k => !decide (lv0 y k = iN (-1))) hy (by simp) (fun k => by
      unfold lv0
      by_cases c : k = y
      · subst c; rw [if_pos rfl]; simp [nN_m]
      · rw [if_neg c]; simp [c])
    have h2 : cN n (fun _ => false) = 0 := by
      have : ∀ l k c, lp l k c (fun k c => c + if (fun _ => false) k = true then 1 else 0) = c := by
        intro l
        induction l with
        | zero => intro k c; rfl
        | succ l ih => intro k c; exact ih (k + 1) c
      exact this n 0 0
    show 1 = cN n (fun k => !decide (lv0 y k = iN (-1)))
    omega
  · intro k hk
    exact ⟨hy, 0, by omega, e0⟩
  · intro j hj
    by_cases c : j = y
    · exact Or.inr ⟨0, by show 0 < 1; omega, c.symm⟩
    · exact Or.inl (by show lv0 y j = _; unfold lv0; rw [if_neg c])
  · intro k k' d d' _ _ h1 h2 h3 h4
    have h5 : nN d = nN d' := h3.symm.trans h4
    rw [nN_eq (by omega) (by omega)] at h5
    omega
  · intro k d hd h1
    exact (lvI_0 (cp := cp) (n := n) (t := t)).2 k d hd h1
  · intro k d d' _ _ h1 h2 h3 h4
    have h5 : nN d = nN d' := h3.symm.trans h4
    rw [nN_eq (by omega) (by omega)] at h5
    omega
  · intro i k d hi
    omega
theorem clw_j (w : ClW cp n t y m s) (hn : n ≤ 12) (hh : m < s.2.2) (hj : j < n) : ClW cp n t y m (clJ cp t (s.2.1 m) j s) ∧ s.2.2 ≤ (clJ cp t (s.2.1 m) j s).2.2 ∧ (∀ k, k < s.2.2 → (clJ cp t (s.2.1 m) j s).2.1 k = s.2.1 k) ∧ (∀ k d, d < 4000 → s.1 k = nN d → (clJ cp t (s.2.1 m) j s).1 k = nN d) ∧ ∀ d, d < 4000 → s.1 (s.2.1 m) = nN d → t ≤ cp (12 * j + s.2.1 m) → ∃ e, e ≤ d + 1 ∧ (clJ cp t (s.2.1 m) j s).1 j = nN e := by
  have cnt := clw_cnt w
  obtain ⟨st, q, ct⟩ := s
  obtain ⟨a1, a2, a3, a4, a5, a6, a7, a8, a9, a10⟩ := (⟨w.y0, w.c1, w.cn, w.qn, w.ps, w.so, w.b, w.z, w.top, w.cl⟩ : _ ∧ _ ∧ _ ∧ _ ∧ _ ∧ _ ∧ _ ∧ _ ∧ _ ∧ _)
  dsimp only at a1 a2 a3 a4 a5 a6 a7 a8 a9 a10 hh cnt ⊢
  obtain ⟨qm, L, hL, hst⟩ := a4 m hh
  unfold clJ
  dsimp only
  by_cases c : st j = iN (-1) ∧ t ≤ cp (12 * j + q m)
  · rw [if_pos c]
    obtain ⟨c1, c2⟩ := c
    have cne : ∀ k d, d < 5000 → st k = nN d → k ≠ j := fun k d hd h1 h2 => by
      subst h2
      exact nN_m hd (h1.symm.trans c1)
    have qne : ∀ k, k < ct → q k ≠ j := fun k hk => by
      obtain ⟨-, d, hd, h1⟩ := a4 k hk
      exact cne _ d (by omega) h1
    have ev : st (q m) + nN 1 = nN (L + 1) := by rw [hst, nN_add]
    have ctn : ct < n := by
      have h1 := cN_lt (n := n) (j := j) (P := fun k => !decide (st k = iN (-1))) (P2 := fun _ => true) (fun _ _ _ => rfl) hj rfl (by simp [c1])
      have h2 := cN_le (n := n) (P := fun _ => true)
      omega
    rw [ev]
    refine ⟨ClW.mk ?_ ?_ ?_ ?_ ?_ ?_ ?_ ?_ ?_ ?_, ?_, ?_, ?_, ?_⟩
    · dsimp only; rw [if_neg (cne y 0 (by omega) a1)]; exact a1
    · dsimp only; omega
    · dsimp only
      rw [cN_add (n := n) (j := j) (P := fun k => !decide (st k = iN (-1))) hj (by simp [c1]) (fun k => ?_), ← a3]
      by_cases e : k = j
      · simp [e, nN_m (show L + 1 < 5000 by omega)]
      · simp [e]
    · dsimp only
      intro k hk
      by_cases e : k = ct
      · rw [if_pos e]
        exact ⟨hj, L + 1, by omega, if_pos rfl⟩
      · rw [if_neg e]
        obtain ⟨b1, d, b2, b3⟩ := a4 k (by omega)
        exact ⟨b1, d, b2, by rw [if_neg (qne k (by omega))]; exact b3⟩
    · dsimp only
      intro l hl
      by_cases e : l = j
      · exact Or.inr ⟨ct, by omega, by rw [if_pos rfl, e]⟩
      · rw [if_neg e]
        rcases a5 l hl with h1 | ⟨k, h1, h2⟩
        · exact Or.inl h1
        · exact Or.inr ⟨k, by omega, by rw [if_neg (by omega)]; exact h2⟩
    · dsimp only
      intro k k' d d' h1 h2 h3 h4 h5 h6
      by_cases e : k' = ct
      · rw [if_pos e, if_pos rfl, nN_eq (by omega) (by omega)] at h6
        by_cases e2 : k = ct
        · rw [if_pos e2, if_pos rfl, nN_eq (by omega) (by omega)] at h5
          omega
        · rw [if_neg e2, if_neg (qne k (by omega))] at h5
          have := a9 k L d (by omega) hh (by omega) h3 hst h5
          omega
      · rw [if_neg e, if_neg (qne k' (by omega))] at h6
        rw [if_neg (show ¬ k = ct by omega), if_neg (qne k (by omega))] at h5
        exact a6 k k' d d' h1 (by omega) h3 h4 h5 h6
    · dsimp only
      intro k d hd h1
      by_cases e : k = j
      · rw [if_pos e, nN_eq (by omega) (by omega)] at h1
        have : L = d := by omega
        subst this
        refine ⟨q m, qm, by rw [if_neg (qne m hh)]; exact hst, by rw [e]; exact c2⟩
      · rw [if_neg e] at h1
        obtain ⟨l, b1, b2, b3⟩ := a7 k d hd h1
        exact ⟨l, b1, by rw [if_neg (cne l d (by omega) b2)]; exact b2, b3⟩
    · dsimp only
      intro k h1
      by_cases e : k = j
      · rw [if_pos e, nN_eq (by omega) (by omega)] at h1
        omega
      · rw [if_neg e] at h1
        exact a8 k h1
    · dsimp only
      intro k d d' h1 h2 h3 h4 h5 h6
      rw [if_neg (show ¬ m = ct by omega), if_neg (qne m hh)] at h5
      have e9 : nN L = nN d := hst.symm.trans h5
      rw [nN_eq (by omega) (by omega)] at e9
      by_cases e : k = ct
      · rw [if_pos e, if_pos rfl, nN_eq (by omega) (by omega)] at h6
        omega
      · rw [if_neg e, if_neg (qne k (by omega))] at h6
        exact a9 k d d' (by omega) hh h3 h4 h5 h6
    · dsimp only
      intro i k d h1 h2 h3 h4 h5 h6
      rw [if_neg (show ¬ i = ct by omega), if_neg (qne i (by omega))] at h5
      rw [if_neg (show ¬ i = ct by omega)] at h6
      obtain ⟨e, b1, b2⟩ := a10 i k d h1 (by omega) h3 h4 h5 h6
      refine ⟨e, b1, ?_⟩
      rw [if_neg (cne k e (by omega) b2)]
      exact b2
    · dsimp only; omega
    · dsimp only
      intro k hk
      rw [if_neg (by omega)]
    · dsimp only
      intro k d hd h1
      rw [if_neg (cne k d (by omega) h1)]; exact h1
    · dsimp only
      intro d hd h1 _
      refine ⟨L + 1, ?_, if_pos rfl⟩
      have e9 : nN L = nN d := hst.symm.trans h1
      rw [nN_eq (by omega) (by omega)] at e9
      omega
  · rw [if_neg c]
    refine ⟨w, Nat.le_refl _, fun _ _ => rfl, fun _ _ _ z => z, fun d hd h1 h2 => ?_⟩
    rcases a5 j hj with h3 | ⟨k, h3, h4⟩
    · exact absurd ⟨h3, h2⟩ c
    · obtain ⟨-, d', h5, h6⟩ := a4 k h3
      have := a9 k d d' h3 hh hd (by omega) h1 h6
      exact ⟨d', this, by rw [← h4]; exact h6⟩
/-- within one round -/
def ClJ (cp : Nat → Int32) (n : Nat) (t : Int32) (y m j : Nat) (s s1 : tL) : Prop := ClW cp n t y m s1 ∧ (m < s.2.2 ∧ s.2.2 ≤ s1.2.2) ∧ (∀ k, k < s.2.2 → s1.2.1 k = s.2.1 k) ∧ (∀ k d, d < 4000 → s.1 k = nN d → s1.1 k = nN d) ∧ ∀ k d, k < j → d < 4000 → s1.1 (s.2.1 m) = nN d → t ≤ cp (12 * k + s.2.1 m) → ∃ e, e ≤ d + 1 ∧ s1.1 k = nN e
theorem clj_0 (w : ClW cp n t y m s) (hh : m < s.2.2) : ClJ cp n t y m 0 s s := ⟨w, ⟨hh, Nat.le_refl _⟩, fun _ _ => rfl, fun _ _ _ z => z, fun k d hk => by omega⟩
theorem clj_s (h : ClJ cp n t y m j s s1) (hn : n ≤ 12) (hj : j < n) : ClJ cp n t y m (j + 1) s (clJ cp t (s.2.1 m) j s1) := by
  obtain ⟨h1, ⟨h2, h2'⟩, h3, h4, h5⟩ := h
  have em := h3 m h2
  obtain ⟨g1, g2, g3, g4, g5⟩ := clw_j (j := j) h1 hn (by omega) hj
  have cnt := clw_cnt h1
  obtain ⟨-, L, hL, hst⟩ := h1.qn m (by omega)
  rw [em] at g1 g2 g3 g4 g5 hst
  refine ⟨g1, ⟨h2, by omega⟩, fun k hk => by rw [g3 k (by omega)]; exact h3 k hk, fun k d hd hk => g4 k d hd (h4 k d hd hk), fun k d hk hd e1 e2 => ?_⟩
  have e3 := g4 _ L (by omega) hst
  rw [e3, nN_eq (by omega) (by omega)] at e1
  subst e1
  by_cases e : k = j
  · subst e
    exact g5 L hd hst e2
  · obtain ⟨e, b1, b2⟩ := h5 k L (by omega) hd hst e2
    exact ⟨e, b1, g4 k e (by omega) b2⟩
theorem clj_w (h : ClJ cp n t y m n s s1) (hn : n ≤ 12) : ClW cp n t y (m + 1) s1 := by
  obtain ⟨w, ⟨h2, h2'⟩, h3, h4, h5⟩ := h
  have em := h3 m h2
  have cnt := clw_cnt w
  obtain ⟨-, L, hL, hst⟩ := w.qn m (by omega)
  refine ClW.mk w.y0 w.c1 w.cn w.qn w.ps w.so w.b w.z ?_ ?_
  · intro k d d' g1 g2 g3 g4 g5 g6
    have a1 := w.so m (m + 1) L d (by omega) g2 (by omega) g3 hst g5
    have a2 := w.top k L d' g1 (by omega) (by omega) g4 hst g6
    omega
  · intro i k d g1 g2 g3 g4 g5 g6
    by_cases e : i = m
    · subst e
      rw [em] at g5 g6
      exact h5 k d g3 g4 g5 g6
    · exact w.cl i k d (by omega) g2 g3 g4 g5 g6
theorem clw_i (w : ClW cp n t y m s) (hn : n ≤ 12) (hh : m < s.2.2) : ClW cp n t y (m + 1) (clI cp n t m s) := by
  have := lp_inv (f := clJ cp t (s.2.1 m)) (P := fun j s1 => ClJ cp n t y m j s s1) n 0 s (clj_0 w hh) (fun j s1 h1 h2 h3 => clj_s h3 hn (by omega))
  rw [Nat.zero_add] at this
  exact clj_w this hn
theorem clw_lvc (w : ClW cp n t y m s) (hm : s.2.2 ≤ m) (hn : n ≤ 12) : LvC cp n t y s.1 := by
  have cnt := clw_cnt w
  refine LvC.mk w.y0 (fun k hk => ?_) (fun k _ h => w.z k h) (fun k d _ hd h => w.b k d hd h) (fun j d k hj hk hd h1 h2 => ?_)
  · rcases w.ps k hk with h | ⟨i, h1, h2⟩
    · exact Or.inl h
    · obtain ⟨-, d, hd, h3⟩ := w.qn i h1
      exact Or.inr ⟨d, by omega, by rw [← h2]; exact h3⟩
  · rcases w.ps j hj with h | ⟨i, h3, h4⟩
    · exact absurd (h1.symm.trans h) (nN_m (by omega))
    · exact w.cl i k d (by omega) h3 hk (by omega) (by rw [h4]; exact h1) (by rw [h4]; exact h2)
theorem clO_w (hn : n ≤ 12) : ∀ f h s, h + f = n → ClW cp n t y h s → ∃ m, (clO cp n t f h s).2.2 ≤ m ∧ ClW cp n t y m (clO cp n t f h s) := by
  intro f
  induction f with
  | zero =>
    intro h s e w
    exact ⟨h, by have := clw_cnt w; show s.2.2 ≤ h; omega, w⟩
  | succ f ih =>
    intro h s e w
    unfold clO
    by_cases c : h < s.2.2
    · rw [if_pos c]
      exact ih (h + 1) _ (by omega) (clw_i w hn c)
    · rw [if_neg c]
      exact ⟨h, by omega, w⟩
theorem clF_ok (hn : n ≤ 12) (hy : y < n) : LvC cp n t y (clF cp n t y).1 := by
  obtain ⟨m, h1, h2⟩ := clO_w (cp := cp) (t := t) hn n 0 (cl0 y) (by omega) (clw_0 hy)
  exact clw_lvc h2 h1 hn
theorem clF_eq (hn : n ≤ 12) (hy : y < n) (hk : k < n) : (clF cp n t y).1 k = lvF cp n t y k := lvc_eq (clF_ok hn hy) (lvc_F hn hy) hk
end CL
