/-! chain: the model -/
def nxP (cp lv : Nat → Int32) (t : Int32) (v j : Nat) : Bool := !(decide (lv j = lv v - nN 1) && decide (t ≤ cp (12 * v + j)))
def nxJ (cp lv : Nat → Int32) (n : Nat) (t : Int32) (v : Nat) : Nat := fstN (nxP cp lv t v) n 0
def wkJ (cp lv : Nat → Int32) (n : Nat) (t : Int32) : Nat → Nat → Nat
  | 0, v => v
  | k + 1, v => wkJ cp lv n t k (nxJ cp lv n t v)
section KCH
variable {d u n dd i j k x y v : Nat} {cp lv : Nat → Int32} {t : Int32} {a : Nat → Int32} {M M1 M' : pMem} {Q : pOut → pMem → Prop}
theorem nx_ok (hI : LvI cp n t (n - 1) lv) (hd : dd < 50) (hv : lv v = nN (dd + 1)) : nxJ cp lv n t v < n ∧ lv (nxJ cp lv n t v) = nN dd ∧ t ≤ cp (12 * v + nxJ cp lv n t v) := by
  obtain ⟨j, h1, h2, h3⟩ := hI.2 v dd (by omega) hv
  have e1 : nN (dd + 1) - nN 1 = nN dd := by rw [nN_subN (by omega)]; rfl
  have hj : ¬ nxP cp lv t v j = true := by unfold nxP; rw [hv, e1, h2]; simp [h3]
  obtain ⟨z1, z2⟩ := fstN_le (P := nxP cp lv t v) n 0
  have lt : nxJ cp lv n t v < n := by
    refine Classical.byContradiction fun z => hj ?_
    exact fstN_pre (P := nxP cp lv t v) n 0 j (by omega) (by unfold nxJ at z; omega)
  have := fstN_at (P := nxP cp lv t v) n 0 (by unfold nxJ at lt; omega)
  refine ⟨lt, ?_⟩
  have h : ¬ nxP cp lv t v (nxJ cp lv n t v) = true := this
  unfold nxP at h
  rw [hv, e1] at h
  simpa using h
end KCH
