/-! LINES OF THE TOWN: a person, who is near, a line -/
section TL2
variable {n p q f x y v k K dd : Nat} {b : Nat → Nat} {a a' : Nat → Int32} {fc : Bool}
theorem sPer_lo {j : Nat} (h : j < 10 ∨ 46 ≤ j) (h1 : j ≠ 1) (hP : nP a < 12) : sPer a v j = a j := by
  unfold sPer
  rw [if_neg (by omega), if_neg (by omega), if_neg (by omega), if_neg (by omega)]
theorem sPer_1 : sPer a v 1 = nN (nP a + 1) := by
  unfold sPer
  rw [if_neg (by omega), if_neg (by omega), if_neg (by omega), if_pos rfl]
theorem sPer_nP (h : nP a < 12) : nP (sPer a v) = nP a + 1 := by
  have e := sPer_1 (a := a) (v := v)
  unfold nP at *
  rw [e, nN_toInt (by omega)]
  omega
theorem sPer_pa {w : Nat} (hw : w < 3) : pa (sPer a v) k w = if k = nP a then (if w = 0 then nN v else if w = 1 then iN (-1) else nN 0) else pa a k w := by
  unfold pa sPer
  by_cases c : k = nP a
  · rw [if_pos c]
    have : w = 0 ∨ w = 1 ∨ w = 2 := by omega
    rcases this with rfl | rfl | rfl
    · rw [if_pos (by omega)]; rfl
    · rw [if_neg (by omega), if_pos (by omega)]; rfl
    · rw [if_neg (by omega), if_neg (by omega), if_pos (by omega)]; rfl
  · rw [if_neg c, if_neg (by omega), if_neg (by omega), if_neg (by omega), if_neg (by omega)]
theorem nr_bit (h : NrO a) (hp' : nP a ≤ 12) (hx : x < nP a) : ∃ v, v < 2 ^ nP a ∧ pa a x 2 = nN v ∧ ∀ y, y < 12 → (((pa a x 2 >>> (nN y &&& 31)) &&& nN 1 = nN 1) = (v.testBit y = true)) := by
  obtain ⟨v, h1, h2⟩ := h x hx
  have h3 : 2 ^ nP a ≤ 2 ^ 12 := Nat.pow_le_pow_right (by omega) hp'
  refine ⟨v, h1, h2, fun y hy => ?_⟩
  rw [h2, bit_nN (by omega) (by omega)]
theorem wt_per (hw : Wt a K) (hP : nP a < 12) (hv : v ≤ 999) : Wt (sPer a v) K ∧ Gk a (sPer a v) := by
  obtain ⟨h1, h2, h3, h4, D, h5, h6⟩ := hw
  have lo : ∀ j, (j < 10 ∨ 46 ≤ j) → j ≠ 1 → sPer a v j = a j := fun j g g1 => sPer_lo g g1 hP
  have eP := sPer_nP (v := v) hP
  have eT : nT (sPer a v) = nT a := by unfold nT; rw [lo 2 (by omega) (by omega)]
  have eE : nE (sPer a v) = nE a := by unfold nE; rw [lo 4 (by omega) (by omega)]
  have eR : nR (sPer a v) = nR a := by unfold nR; rw [lo 5 (by omega) (by omega)]
  have ee : ∀ q w, ea (sPer a v) q w = ea a q w := fun q w => lo _ (by omega) (by omega)
  have er : ∀ q w, ra (sPer a v) q w = ra a q w := fun q w => lo _ (by omega) (by omega)
  have pw : 2 ^ nP a ≤ 2 ^ 11 := Nat.pow_le_pow_right (by omega) (by omega)
  have w1 : Wf (sPer a v) := by
    refine wf_lo h1 (fun j hj => lo j (by omega) (by omega)) (lo 3 (by omega) (by omega)) (by omega) (by rw [sPer_1, eP]) (by omega) (by rw [lo 2 (by omega) (by omega), eT]; exact h1.t) (by rw [eT]; exact h1.t') (by rw [lo 4 (by omega) (by omega), eE]; exact h1.n) (by rw [eE]; exact h1.n') (by rw [lo 5 (by omega) (by omega), eR]; exact h1.r) (by rw [eR]; exact h1.r') (by rw [lo 7 (by omega) (by omega)]; exact h1.law) (by rw [lo 0 (by omega) (by omega)]; exact h1.texts) ?_ ?_ ?_ ?_ ?_
    · rw [eP]; intro q hq; rw [sPer_pa (by omega)]
      by_cases c : q = nP a
      · rw [if_pos c]; exact ⟨v, hv, rfl⟩
      · rw [if_neg c]; exact h1.lim q (by omega)
    · rw [eP, eT]; intro q hq; rw [sPer_pa (by omega)]
      by_cases c : q = nP a
      · rw [if_pos c]; exact Or.inl rfl
      · rw [if_neg c]; exact h1.tmp q (by omega)
    · rw [eP]; intro q hq; rw [sPer_pa (by omega)]
      by_cases c : q = nP a
      · rw [if_pos c]; exact ⟨0, by omega, rfl⟩
      · rw [if_neg c]; exact h1.near q (by omega)
    · rw [eE, eP]; intro k hk; rw [ee, ee, ee]
      obtain ⟨x, y, n, g1, g2, g3⟩ := h1.need k hk
      exact ⟨x, y, n, by omega, by omega, g3⟩
    · rw [eR, eP]; intro k hk; simp only [er]
      obtain ⟨n, g1, g2, g3, g4⟩ := h1.ring k hk
      exact ⟨n, g1, g2, g3, fun i hi => by obtain ⟨q, z1, z2⟩ := g4 i hi; exact ⟨q, by omega, z2⟩⟩
  have n3 : NrO (sPer a v) := by
    intro q hq
    rw [eP] at hq ⊢
    rw [sPer_pa (by omega)]
    by_cases c : q = nP a
    · rw [if_pos c]; exact ⟨0, Nat.two_pow_pos _, rfl⟩
    · rw [if_neg c]
      obtain ⟨w, g1, g2⟩ := h3 q (by omega)
      exact ⟨w, by rw [Nat.pow_succ]; omega, g2⟩
  refine ⟨⟨w1, ?_, n3, tx_keep h4 (lo _ (by omega) (by omega)) (fun j h => lo _ (by omega) (by omega)), D, h5, by rw [lo _ (by omega) (by omega)]; exact h6⟩, fun j h => lo _ (by omega) (by omega), lo _ (by omega) (by omega), lo _ (by omega) (by omega), fun j h _ => lo _ (by omega) (by omega)⟩
  intro p g hp hg
  rw [eP] at hp hg
  have z0 : ∀ y, y < 12 → ((nN 0 >>> (nN y &&& 31)) &&& nN 1 = nN 1) = False := fun y hy => by
    rw [bit_nN (by omega) (by omega), Nat.zero_testBit]; simp
  have old : ∀ x, x < nP a → ((pa a x 2 >>> (nN (nP a) &&& 31)) &&& nN 1 = nN 1) = False := fun x hx => by
    obtain ⟨w, g1, g2, g3⟩ := nr_bit h3 (by omega) hx
    rw [g3 _ (by omega), Nat.testBit_lt_two_pow g1]
    simp
  rw [sPer_pa (by omega), sPer_pa (by omega)]
  by_cases c1 : p = nP a
  · by_cases c2 : g = nP a
    · rw [if_pos c1, if_pos c2, c1, c2]
    · rw [if_pos c1, if_neg c2, c1, old g (by omega)]
      show ((nN 0 >>> (nN g &&& 31)) &&& nN 1 = nN 1) ↔ False
      rw [z0 g (by omega)]
  · by_cases c2 : g = nP a
    · rw [if_neg c1, if_pos c2, c2, old p (by omega)]
      show False ↔ ((nN 0 >>> (nN p &&& 31)) &&& nN 1 = nN 1)
      rw [z0 p (by omega)]
    · rw [if_neg c1, if_neg c2]
      exact h2 p g (by omega) (by omega)
theorem nrV_ok (h : NrO a) (hp' : nP a ≤ 12) (hx : x < nP a) (hy : y < nP a) : ∃ v, pa a x 2 = nN v ∧ nrV a x y = nN (v ||| 2 ^ y) ∧ v < 2 ^ nP a ∧ v ||| 2 ^ y < 2 ^ nP a := by
  obtain ⟨v, h1, h2⟩ := h x hx
  refine ⟨v, h2, ?_, h1, ?_⟩
  · unfold nrV
    rw [h2, nN_shl (by omega), nN_or, Nat.one_shiftLeft]
  · exact Nat.or_lt_two_pow h1 (Nat.pow_lt_pow_right (by omega) hy)
theorem sNea_pa {w : Nat} (hw : w < 3) (hxy : x ≠ y) : pa (sNea a x y) k w = if w = 2 then (if k = y then nrV a y x else if k = x then nrV a x y else pa a k 2) else pa a k w := by
  unfold pa sNea aU
  by_cases c : w = 2
  · rw [if_pos c]
    by_cases c1 : k = y
    · rw [if_pos c1, if_pos (by omega)]
    · rw [if_neg c1, if_neg (by omega)]
      by_cases c2 : k = x
      · rw [if_pos c2, if_pos (by omega)]
      · rw [if_neg c2, if_neg (by omega), c]
  · rw [if_neg c, if_neg (by omega), if_neg (by omega)]
theorem wt_nea (hw : Wt a K) (hx : x < nP a) (hy : y < nP a) (hxy : x ≠ y) : Wt (sNea a x y) K ∧ Gk a (sNea a x y) := by
  obtain ⟨h1, h2, h3, h4, D, h5, h6⟩ := hw
  have hp' := h1.p'
  have lo : ∀ j, (j < 10 ∨ 46 ≤ j) → sNea a x y j = a j := fun j g => by
    unfold sNea aU
    rw [if_neg (by omega), if_neg (by omega)]
  have eP : nP (sNea a x y) = nP a := by unfold nP; rw [lo 1 (by omega)]
  have eT : nT (sNea a x y) = nT a := by unfold nT; rw [lo 2 (by omega)]
  have eE : nE (sNea a x y) = nE a := by unfold nE; rw [lo 4 (by omega)]
  have eR : nR (sNea a x y) = nR a := by unfold nR; rw [lo 5 (by omega)]
  have ee : ∀ q w, ea (sNea a x y) q w = ea a q w := fun q w => lo _ (by omega)
  have er : ∀ q w, ra (sNea a x y) q w = ra a q w := fun q w => lo _ (by omega)
  have ep : ∀ q w, w < 2 → pa (sNea a x y) q w = pa a q w := fun q w hw => by rw [sNea_pa (by omega) hxy, if_neg (by omega)]
  obtain ⟨v1, a1, a2, a3, a4⟩ := nrV_ok h3 hp' hx hy
  obtain ⟨v2, b1, b2, b3, b4⟩ := nrV_ok h3 hp' hy hx
  have pw : 2 ^ nP a ≤ 2 ^ 12 := Nat.pow_le_pow_right (by omega) hp'
  have n3 : NrO (sNea a x y) := by
    intro q hq
    rw [eP] at hq ⊢
    rw [sNea_pa (by omega) hxy, if_pos rfl]
    by_cases c1 : q = y
    · rw [if_pos c1]; exact ⟨_, b4, b2⟩
    · rw [if_neg c1]
      by_cases c2 : q = x
      · rw [if_pos c2]; exact ⟨_, a4, a2⟩
      · rw [if_neg c2]; exact h3 q hq
  have w1 : Wf (sNea a x y) := by
    refine wf_lo h1 (fun j hj => lo j (by omega)) (lo 3 (by omega)) (by omega) (by rw [lo 1 (by omega), eP]; exact h1.p) (by omega) (by rw [lo 2 (by omega), eT]; exact h1.t) (by rw [eT]; exact h1.t') (by rw [lo 4 (by omega), eE]; exact h1.n) (by rw [eE]; exact h1.n') (by rw [lo 5 (by omega), eR]; exact h1.r) (by rw [eR]; exact h1.r') (by rw [lo 7 (by omega)]; exact h1.law) (by rw [lo 0 (by omega)]; exact h1.texts) ?_ ?_ ?_ ?_ ?_
    · rw [eP]; intro q hq; rw [ep q 0 (by omega)]; exact h1.lim q (by omega)
    · rw [eP, eT]; intro q hq; rw [ep q 1 (by omega)]; exact h1.tmp q (by omega)
    · rw [eP]; intro q hq
      obtain ⟨v, g1, g2⟩ := n3 q (by rw [eP]; exact hq)
      rw [eP] at g1
      exact ⟨v, by omega, g2⟩
    · rw [eE, eP]; intro k hk; rw [ee, ee, ee]; exact h1.need k hk
    · rw [eR, eP]; intro k hk; simp only [er]; exact h1.ring k hk
  refine ⟨⟨w1, ?_, n3, tx_keep h4 (lo _ (by omega)) (fun j h => lo _ (by omega)), D, h5, by rw [lo _ (by omega)]; exact h6⟩, fun j h => lo _ (by omega), lo _ (by omega), lo _ (by omega), fun j h _ => lo _ (by omega)⟩
  intro p g hp hg
  rw [eP] at hp hg
  have key : ∀ p g, p < nP a → g < nP a → ∃ w : Nat, (((pa (sNea a x y) p 2 >>> (nN g &&& 31)) &&& nN 1 = nN 1) = (w.testBit g = true)) ∧ ∃ v : Nat, (((pa a p 2 >>> (nN g &&& 31)) &&& nN 1 = nN 1) = (v.testBit g = true)) ∧ (w.testBit g = true ↔ (v.testBit g = true ∨ (p = x ∧ g = y) ∨ (p = y ∧ g = x))) := by
    intro p g hp hg
    rw [sNea_pa (by omega) hxy, if_pos rfl]
    by_cases c1 : p = y
    · rw [if_pos c1, b2, c1, b1]
      refine ⟨_, bit_nN (by omega) (by omega), _, bit_nN (by omega) (by omega), ?_⟩
      rw [Nat.testBit_or, Nat.testBit_two_pow]
      simp only [Bool.or_eq_true, decide_eq_true_eq]
      constructor
      · rintro (h | h)
        · exact Or.inl h
        · exact Or.inr (Or.inr ⟨trivial, h.symm⟩)
      · rintro (h | h | h)
        · exact Or.inl h
        · omega
        · exact Or.inr h.2.symm
    · rw [if_neg c1]
      by_cases c2 : p = x
      · rw [if_pos c2, a2, c2, a1]
        refine ⟨_, bit_nN (by omega) (by omega), _, bit_nN (by omega) (by omega), ?_⟩
        rw [Nat.testBit_or, Nat.testBit_two_pow]
        simp only [Bool.or_eq_true, decide_eq_true_eq]
        constructor
        · rintro (h | h)
          · exact Or.inl h
          · exact Or.inr (Or.inl ⟨trivial, h.symm⟩)
        · rintro (h | h | h)
          · exact Or.inl h
          · exact Or.inr h.2.symm
          · omega
      · rw [if_neg c2]
        obtain ⟨v, g1, g2, g3⟩ := nr_bit h3 hp' hp
        refine ⟨v, g3 g (by omega), v, g3 g (by omega), ?_⟩
        constructor
        · exact Or.inl
        · rintro (h | h | h)
          · exact h
          · omega
          · omega
  obtain ⟨w1, e1, v1, f1, k1⟩ := key p g hp hg
  obtain ⟨w2, e2, v2, f2, k2⟩ := key g p hg hp
  have h9 := h2 p g hp hg
  rw [f1, f2] at h9
  rw [e1, e2, k1, k2, h9]
  constructor
  · rintro (h | h | h)
    · exact Or.inl h
    · exact Or.inr (Or.inr ⟨h.2, h.1⟩)
    · exact Or.inr (Or.inl ⟨h.2, h.1⟩)
  · rintro (h | h | h)
    · exact Or.inl h
    · exact Or.inr (Or.inr ⟨h.2, h.1⟩)
    · exact Or.inr (Or.inl ⟨h.2, h.1⟩)
end TL2
section TL3
variable {n p q f x y v k K dd c cf : Nat} {b : Nat → Nat} {a a' : Nat → Int32} {fc : Bool} {W : List (List Nat)}
def PosO (n : Nat) (b : Nat → Nat) (p : Nat) : Prop := p ≤ n ∧ (p = n ∨ (p < n ∧ isB b p = true))
/-- what the parts of a line are -/
def ArO (c cf v : Nat) (l : List Nat) : Prop :=
  if v = 1000 then l.getD 0 0 ≤ 999
  else if v = 1001 then l.getD 0 0 < c ∧ l.getD 1 0 < c ∧ l.getD 0 0 ≠ l.getD 1 0
  else if v = 1002 then l.getD 0 0 ≤ 10
  else if v = 1003 then (l.getD 0 0 < c ∧ l.getD 1 0 < c ∧ l.getD 0 0 ≠ l.getD 1 0) ∧ (1 ≤ l.getD 2 0 ∧ l.getD 2 0 ≤ 99) ∧ l.getD 3 0 ≤ 99 ∧ (l.getD 4 0 = 0 ∨ l.getD 4 0 = 1)
  else if v = 1004 then l.getD 0 0 < cf ∧ l.getD 1 0 < c
  else if v = 1005 then l.getD 0 0 < cf
  else if v = 1006 then 1 ≤ l.getD 0 0 ∧ l.getD 0 0 ≤ 99
  else (l.getD 0 0 < c ∧ l.getD 1 0 < c ∧ l.getD 0 0 ≠ l.getD 1 0) ∧ (1 ≤ l.getD 2 0 ∧ l.getD 2 0 ≤ 99)
theorem PosO.nx (h : PosO n b p) (ht : th W n b p ≠ 3000) : PosO n b (nx9 n b p) ∧ p < nx9 n b p := by
  have hp : p < n := by
    by_cases c : p < n
    · exact c
    · exact absurd (th_3000 (by omega)) ht
  have g := At_nx (b := b) hp
  exact ⟨⟨g.2.1, g.2.2⟩, g.1⟩
/-- what holds of the outcome of reading on -/
def PosR {α : Type} (n : Nat) (b : Nat → Nat) (P : α → Prop) (pos : α → Nat) (q : Nat) : Nat ⊕ α → Prop
  | .inl _ => True
  | .inr s => P s ∧ PosO n b (pos s) ∧ q ≤ pos s
theorem pnm_pos {α : Type} {P : α → Prop} {pos : α → Nat} {lo : Nat} {f : Nat → Nat → Nat ⊕ α} (h : PosO n b q) (hc : c ≤ 1000) (hf : ∀ x, lo ≤ x → x < c → PosO n b (nx9 n b q) → q < nx9 n b q → PosR n b P pos (nx9 n b q) (f x (nx9 n b q))) : PosR n b P pos q (pnm (th W n b) (nx9 n b) lo c q f) := by
  unfold pnm
  split
  · rename_i z
    have g := h.nx (W := W) (by omega)
    have := hf _ z.1 z.2 g.1 g.2
    revert this
    cases f (th W n b q) (nx9 n b q) with
    | inl e => exact fun h => h
    | inr s => exact fun h => ⟨h.1, h.2.1, by have := h.2.2; omega⟩
  · trivial
theorem psec_pos {α : Type} {P : α → Prop} {pos : α → Nat} {w : Nat} {f : Nat → Nat → Nat ⊕ α} (h : PosO n b q) (hc : c ≤ 1000) (hf : ∀ x, x < c → x ≠ w → PosO n b (nx9 n b q) → q < nx9 n b q → PosR n b P pos (nx9 n b q) (f x (nx9 n b q))) : PosR n b P pos q (psec (th W n b) (nx9 n b) c w q f) := by
  unfold psec
  split
  · trivial
  · rename_i hw
    unfold pnm
    split
    · rename_i z
      have g := h.nx (W := W) (by omega)
      have := hf _ z.2 hw g.1 g.2
      revert this
      cases f (th W n b q) (nx9 n b q) with
      | inl e => exact fun h => h
      | inr s => exact fun h => ⟨h.1, h.2.1, by have := h.2.2; omega⟩
    · trivial
theorem pwd_pos {α : Type} {P : α → Prop} {pos : α → Nat} {w : Nat} {f : Nat → Nat ⊕ α} (h : PosO n b q) (hw : w < 3000) (hf : PosO n b (nx9 n b q) → q < nx9 n b q → PosR n b P pos (nx9 n b q) (f (nx9 n b q))) : PosR n b P pos q (pwd (th W n b) (nx9 n b) w q f) := by
  unfold pwd
  split
  · have g := h.nx (W := W) (by omega)
    have := hf g.1 g.2
    revert this
    cases f (nx9 n b q) with
    | inl e => exact fun h => h
    | inr s => exact fun h => ⟨h.1, h.2.1, by have := h.2.2; omega⟩
  · trivial
theorem pAr_ok (h : PosO n b q) (hc : c ≤ 12) (hcf : cf ≤ 40) : PosR n b (fun s => ArO c cf v s.2) (fun s => s.1) q (pAr (th W n b) (nx9 n b) c cf v q) := by
  have fin : ∀ (q : Nat) (l : List Nat), PosO n b q → ArO c cf v l → PosR n b (fun s => ArO c cf v s.2) (fun s => s.1) q (.inr (q, l)) := fun q l h1 h2 => ⟨h2, h1, Nat.le_refl _⟩
  have fc : v = 1003 → ∀ (q x y n9 dd : Nat), PosO n b q → (x < c ∧ y < c ∧ x ≠ y) → (1 ≤ n9 ∧ n9 ≤ 99) → dd ≤ 99 → PosR n b (fun s => ArO c cf v s.2) (fun s => s.1) q (pFc (th W n b) (nx9 n b) x y n9 dd q) := by
    intro hv q x y n9 dd hq h1 h2 h3
    unfold pFc
    split
    · have g := hq.nx (W := W) (by omega)
      exact ⟨by subst hv; exact ⟨h1, h2, h3, Or.inr rfl⟩, g.1, by show q ≤ nx9 n b q; omega⟩
    · exact ⟨by subst hv; exact ⟨h1, h2, h3, Or.inl rfl⟩, hq, Nat.le_refl _⟩
  unfold pAr
  split
  · rename_i hv; subst hv
    exact pnm_pos h (by omega) fun x h1 h2 g1 g2 => fin _ _ g1 (by show x ≤ 999; omega)
  split
  · rename_i _ hv; subst hv
    exact pnm_pos h (by omega) fun x h1 h2 g1 g2 => psec_pos g1 (by omega) fun y h3 h4 g3 g4 => fin _ _ g3 ⟨h2, h3, fun z => h4 z.symm⟩
  split
  · rename_i _ _ hv; subst hv
    exact pnm_pos h (by omega) fun x h1 h2 g1 g2 => fin _ _ g1 (by show x ≤ 10; omega)
  split
  · rename_i _ _ _ hv
    refine pnm_pos h (by omega) fun x h1 h2 g1 g2 => pwd_pos g1 (by omega) fun g3 g4 => psec_pos g3 (by omega) fun y h3 h4 g5 g6 => pnm_pos g5 (by omega) fun n9 h5 h6 g7 g8 => ?_
    split
    · have g9 := g7.nx (W := W) (by omega)
      have := pnm_pos (W := W) (P := fun s => ArO c cf v s.2) (pos := fun s => s.1) (lo := 1) (c := 100) (f := fun dd q => pFc (th W n b) (nx9 n b) x y n9 dd q) g9.1 (by omega) (fun dd h7 h8 g10 g11 => fc hv _ _ _ _ _ g10 ⟨h2, h3, fun z => h4 z.symm⟩ ⟨h5, by omega⟩ (by omega))
      revert this
      cases pnm (th W n b) (nx9 n b) 1 100 (nx9 n b (nx9 n b (nx9 n b (nx9 n b (nx9 n b q))))) (fun dd q => pFc (th W n b) (nx9 n b) x y n9 dd q) with
      | inl e => exact fun h => h
      | inr s => exact fun h => ⟨h.1, h.2.1, by have := h.2.2; omega⟩
    · exact fc hv _ _ _ _ _ g7 ⟨h2, h3, fun z => h4 z.symm⟩ ⟨h5, by omega⟩ (by omega)
  split
  · rename_i _ _ _ _ hv; subst hv
    exact pnm_pos h (by omega) fun x h1 h2 g1 g2 => pwd_pos g1 (by omega) fun g3 g4 => pnm_pos g3 (by omega) fun y h3 h4 g5 g6 => fin _ _ g5 ⟨h2, h4⟩
  split
  · rename_i _ _ _ _ _ hv; subst hv
    exact pnm_pos h (by omega) fun x h1 h2 g1 g2 => fin _ _ g1 h2
  split
  · rename_i _ _ _ _ _ _ hv; subst hv
    exact pnm_pos h (by omega) fun x h1 h2 g1 g2 => fin _ _ g1 ⟨h1, by show x ≤ 99; omega⟩
  · rename_i h0 h1 h2 h3 h4 h5 h6
    refine pnm_pos h (by omega) fun x z1 z2 g1 g2 => pwd_pos g1 (by omega) fun g3 g4 => psec_pos g3 (by omega) fun y z3 z4 g5 g6 => pnm_pos g5 (by omega) fun n9 z5 z6 g7 g8 => fin _ _ g7 ?_
    unfold ArO
    rw [if_neg h0, if_neg h1, if_neg h2, if_neg h3, if_neg h4, if_neg h5, if_neg h6]
    exact ⟨⟨z2, z3, fun z => z4 z.symm⟩, z5, by show n9 ≤ 99; omega⟩
theorem sEx_ok {l : List Nat} (hw : Wt a K) (hK : K < 2000000) (hv : 1000 ≤ v ∧ v ≤ 1007) (h12 : v = 1000 → nP a ≠ 12) (h7 : v = 1007 → nE a ≠ 12) (h : ArO (nP a) (nF a) v l) : Wt (sEx a v l) (K + 99) ∧ Gk a (sEx a v l) := by
  have hp' := hw.1.p'
  have hn' := hw.1.n'
  have m : ∀ {a'}, Wt a' K ∧ Gk a a' → Wt a' (K + 99) ∧ Gk a a' := fun h => ⟨h.1.mono (by omega), h.2⟩
  unfold sEx
  unfold ArO at h
  split
  · rename_i c; rw [if_pos c] at h
    have := h12 c
    exact m (wt_per hw (by omega) h)
  rename_i c0; rw [if_neg c0] at h
  split
  · rename_i c; rw [if_pos c] at h
    exact m (wt_nea hw h.1 h.2.1 h.2.2)
  rename_i c1; rw [if_neg c1] at h
  split
  · rename_i c; rw [if_pos c] at h
    exact m (wt_law hw h)
  rename_i c2; rw [if_neg c2] at h
  split
  · rename_i c; rw [if_pos c] at h
    exact m (wt_gv hw h.1.1 h.1.2.1 h.2.1.1 h.2.1.2)
  rename_i c3; rw [if_neg c3] at h
  split
  · rename_i c; rw [if_pos c] at h
    exact m (wt_ps hw h.1 h.2)
  rename_i c4; rw [if_neg c4] at h
  split
  · rename_i c; rw [if_pos c] at h
    exact m (wt_gone hw h)
  rename_i c5; rw [if_neg c5] at h
  split
  · rename_i c; rw [if_pos c] at h
    exact wt_days hw h.2 hK
  rename_i c6; rw [if_neg c6] at h
  have := h7 (by omega)
  exact m (wt_nee hw (by omega) h.1.1 h.1.2.1 h.1.2.2 h.2.1 h.2.2)
theorem pTL_ok (hw : Wt a K) (hK : K < 2000000) (h : PosO n b p) {s : Nat × (Nat → Int32)} (hs : pTL (th W n b) (nx9 n b) a p = .inr s) : (Wt s.2 (K + 99) ∧ Gk a s.2) ∧ PosO n b s.1 ∧ p < s.1 := by
  unfold pTL at hs
  split at hs
  · cases hs
  · rename_i hn
    have g := h.nx (W := W) (by omega)
    have ha := pAr_ok (c := nP a) (cf := nF a) (v := th W n b p) (W := W) g.1 hw.1.p' hw.1.f'
    cases hr : pAr (th W n b) (nx9 n b) (nP a) (nF a) (th W n b p) (nx9 n b p) with
    | inl e => rw [hr] at hs; cases hs
    | inr r =>
      rw [hr] at hs ha
      cases hs
      obtain ⟨a1, a2, a3⟩ := ha
      refine ⟨sEx_ok hw hK (by omega) (fun c z => hn (Or.inl ⟨c, z⟩)) (fun c z => hn (Or.inr (Or.inl ⟨c, z⟩))) a1, a2, ?_⟩
      have a3 : nx9 n b p ≤ r.1 := a3
      have := g.2
      show p < r.1
      omega
end TL3
