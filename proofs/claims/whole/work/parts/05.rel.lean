/-! THE MACHINE'S HEAP HOLDS A PURE MEMORY -/
section PR
variable (D : va_G) (base : Nat) (sp : Nat → Nat) (s0 : State) (L : Nat) (xs : Nat → Int32)
def pAd (k : Nat) : Nat := if k < 900000 then base + k else sp (k - 900000)
def pTr : Value → Value
  | .ref k => .ref (pAd base sp k)
  | v => v
def pRefTy : FieldType → Bool
  | .object _ => true
  | .array _ => true
  | _ => false
def pTys : List (Nat → FieldType) := [tyX0, tyX1, tyX2, tyX3, tyX5, tyX6, tyX7, tyX8, tyX9, tyX10, tyX11, tyX12]
def pTy (t j : Nat) : FieldType := (pTys.getD (t - 1) (fun _ => .int)) j
def pFV (M : pMem) (k t j : Nat) : Value := if pRefTy (pTy t j) = true then pTr base sp (pRf (gP M k j)) else .int (gI M k j)
/-- what the heap holds at handle k, of kind t, of n places -/
def rOK (s : State) (M : pMem) (H : Heap) (k t n : Nat) : Prop :=
  (1 ≤ t ∧ k < gN M ∧ ∃ r, vwCl[t - 1]? = some r ∧ t_OB (base + k) (D.1 (t - 1)) r.2.2 (D.2 (t - 1)) H (fun j => pFV base sp M k t j)) ∨
  (t = 100 ∧ k < gN M ∧ ∃ cA, ArrOfT s cA .int ∧ va_RA s cA .int ∧ H[base + k]? = some (arrV cA n (fun j => .int (gI M k j)))) ∨
  (t = 101 ∧ k < gN M ∧ ∃ cA, ArrOfT s cA .long ∧ va_RA s cA .long ∧ H[base + k]? = some (arrV cA n (fun j => .long (gJ M k j)))) ∨
  (t = 102 ∧ k < gN M ∧ ∃ cA, ArrOfT s cA (.object RX7) ∧ va_RA s cA (.object RX7) ∧ H[base + k]? = some (arrV cA n (fun j => pTr base sp (pRf (gP M k j))))) ∨
  (t = 103 ∧ k = 900000 ∧ n = L ∧ ∀ j, j < n → gI M k j = xs j) ∨
  (t = 104 ∧ 900001 ≤ k ∧ k < 900047)
/-- the heap H, seen from a method that began at s, holds M -/
def RelH (s : State) (M : pMem) (H : Heap) : Prop :=
  (H.size = base + gN M ∧ gN M ≤ 900000) ∧ (∀ q, q < base → H[q]? = s0.heap[q]?) ∧ s0.vm.Alike s.vm ∧ va_K D vwCl [] s ∧ ∀ k t n, gS M k = (t, n) → t ≠ 0 → rOK D base sp L xs s M H k t n
end PR
section PRL
variable {D : va_G} {base : Nat} {sp : Nat → Nat} {s0 : State} {L : Nat} {xs : Nat → Int32}
theorem rOK_keep {s : State} {M M' : pMem} {H H1 : Heap} {k t n : Nat} (h : rOK D base sp L xs s M H k t n) (hI : ∀ j, gI M' k j = gI M k j) (hP : ∀ j, gP M' k j = gP M k j) (hJ : ∀ j, gJ M' k j = gJ M k j) (hN : gN M ≤ gN M') (hH : k < gN M → H1[base + k]? = H[base + k]?) : rOK D base sp L xs s M' H1 k t n := by
  rcases h with ⟨h1, h2, r, h3, h4⟩ | ⟨h1, h2, cA, h3, h4, h5⟩ | ⟨h1, h2, cA, h3, h4, h5⟩ | ⟨h1, h2, cA, h3, h4, h5⟩ | ⟨h1, h2, h3, h4⟩ | ⟨h1, h2⟩
  · refine Or.inl ⟨h1, by omega, r, h3, (h4.kept (hH h2)).to fun j _ => ?_⟩
    simp only [pFV, hI, hP]
  · exact Or.inr (Or.inl ⟨h1, by omega, cA, h3, h4, by rw [hH h2, h5]; simp only [hI]⟩)
  · exact Or.inr (Or.inr (Or.inl ⟨h1, by omega, cA, h3, h4, by rw [hH h2, h5]; simp only [hJ]⟩))
  · exact Or.inr (Or.inr (Or.inr (Or.inl ⟨h1, by omega, cA, h3, h4, by rw [hH h2, h5]; simp only [hP]⟩)))
  · exact Or.inr (Or.inr (Or.inr (Or.inr (Or.inl ⟨h1, h2, h3, fun j hj => by rw [hI]; exact h4 j hj⟩))))
  · exact Or.inr (Or.inr (Or.inr (Or.inr (Or.inr ⟨h1, h2⟩))))
/-- a write at handle h alone -/
theorem RelH.put {s : State} {M M' : pMem} {H H1 : Heap} {h t n : Nat} (R : RelH D base sp s0 L xs s M H) (hs : gS M h = (t, n)) (ht : t ≠ 0) (hz : H1.size = H.size) (ho : ∀ q, q ≠ base + h → H1[q]? = H[q]?) (hS : gS M' = gS M) (hN : gN M' = gN M)
    (hI : ∀ k j, k ≠ h → gI M' k j = gI M k j) (hP : ∀ k j, k ≠ h → gP M' k j = gP M k j) (hJ : ∀ k j, k ≠ h → gJ M' k j = gJ M k j) (hn : rOK D base sp L xs s M' H1 h t n) : RelH D base sp s0 L xs s M' H1 := by
  obtain ⟨r1, r2, r3, r4, r5⟩ := R
  refine ⟨by rw [hz, hN]; exact r1, fun q hq => by rw [ho q (by omega)]; exact r2 q hq, r3, r4, fun k t' n' hk ht' => ?_⟩
  rw [hS] at hk
  by_cases e : k = h
  · subst e
    rw [hs] at hk
    cases hk
    exact hn
  · exact rOK_keep (r5 k t' n' hk ht') (fun j => hI k j e) (fun j => hP k j e) (fun j => hJ k j e) (by omega) (fun _ => ho _ (by omega))
/-- a new cell at the heap's end -/
theorem RelH.push {s : State} {M : pMem} {H H1 : Heap} {t n w : Nat} (R : RelH D base sp s0 L xs s M H) (hz : H1.size = H.size + 1) (ho : ∀ q, q < H.size → H1[q]? = H[q]?) (hlt : gN M < 900000)
    (hn : t ≠ 0 → rOK D base sp L xs s (nw M t n w) H1 (gN M) t n) : RelH D base sp s0 L xs s (nw M t n w) H1 := by
  obtain ⟨r1, r2, r3, r4, r5⟩ := R
  refine ⟨⟨by rw [hz, r1.1]; rfl, by show gN M + 1 ≤ 900000; omega⟩, fun q hq => by rw [ho q (by omega)]; exact r2 q hq, r3, r4, fun k t' n' hk ht' => ?_⟩
  by_cases e : k = gN M
  · subst e
    have : gS (nw M t n w) (gN M) = (t, n) := by simp [gS, nw, gN]
    rw [this] at hk
    cases hk
    exact hn ht'
  · have hk' : gS M k = (t', n') := by
      rw [← hk]; simp only [gS, nw]; rw [if_neg e]
    refine rOK_keep (r5 k t' n' hk' ht') (fun j => ?_) (fun j => ?_) (fun j => ?_) (Nat.le_succ _) (fun hk2 => ho _ (by omega))
    · simp only [gI, nw, upR, if_neg e]
    · simp only [gP, nw, upR, if_neg e]
    · simp only [gJ, nw, upR, if_neg e]
theorem RelH.pushX {s : State} {M : pMem} {H H1 : Heap} (R : RelH D base sp s0 L xs s M H) (hz : H1.size = H.size + 1) (ho : ∀ q, q < H.size → H1[q]? = H[q]?) (hlt : gN M < 900000) : RelH D base sp s0 L xs s (nx M) H1 := by
  obtain ⟨r1, r2, r3, r4, r5⟩ := R
  refine ⟨⟨by rw [hz, r1.1]; rfl, by show gN M + 1 ≤ 900000; omega⟩, fun q hq => by rw [ho q (by omega)]; exact r2 q hq, r3, r4, fun k t' n' hk ht' => ?_⟩
  by_cases e : k = gN M
  · subst e
    have : gS (nx M) (gN M) = (0, 0) := by simp [gS, nx, gN]
    rw [this] at hk
    cases hk
    exact absurd rfl ht'
  · have hk' : gS M k = (t', n') := by
      rw [← hk]; simp only [gS, nx]; rw [if_neg e]
    exact rOK_keep (r5 k t' n' hk' ht') (fun j => rfl) (fun j => rfl) (fun j => rfl) (Nat.le_succ _) (fun hk2 => ho _ (by omega))
theorem RelH.ad {s : State} {M : pMem} {H : Heap} {k : Nat} (R : RelH D base sp s0 L xs s M H) (h : k < gN M) : pAd base sp k = base + k := if_pos (by have := R.1.2; omega)
/-- the same heap, seen from a later method's begin -/
theorem RelH.moved {s U : State} {M : pMem} {H : Heap} (hvm : s.vm.Alike U.vm) (R : RelH D base sp s0 L xs s M H) : RelH D base sp s0 L xs U M H := by
  obtain ⟨r1, r2, r3, r4, r5⟩ := R
  refine ⟨r1, r2, r3.trans hvm, va_K.moved hvm r4, fun k t n hk ht => ?_⟩
  rcases r5 k t n hk ht with ⟨h1, h2, r, h3, h4⟩ | ⟨h1, h2, cA, h3, h4, h5⟩ | ⟨h1, h2, cA, h3, h4, h5⟩ | ⟨h1, h2, cA, h3, h4, h5⟩ | ⟨h1, h2, h3, h4⟩ | ⟨h1, h2⟩
  · exact Or.inl ⟨h1, h2, r, h3, h4⟩
  · exact Or.inr (Or.inl ⟨h1, h2, cA, arrOfT_moved hvm h3, h4.moved hvm, h5⟩)
  · exact Or.inr (Or.inr (Or.inl ⟨h1, h2, cA, arrOfT_moved hvm h3, h4.moved hvm, h5⟩))
  · exact Or.inr (Or.inr (Or.inr (Or.inl ⟨h1, h2, cA, arrOfT_moved hvm h3, h4.moved hvm, h5⟩)))
  · exact Or.inr (Or.inr (Or.inr (Or.inr (Or.inl ⟨h1, h2, h3, h4⟩))))
  · exact Or.inr (Or.inr (Or.inr (Or.inr (Or.inr ⟨h1, h2⟩))))
/-- by its kind, what a handle is -/
theorem RelH.obj {s : State} {M : pMem} {H : Heap} {k t n : Nat} (R : RelH D base sp s0 L xs s M H) (h : gS M k = (t, n)) (ht : 1 ≤ t) (ht2 : t < 100) : k < gN M ∧ ∃ r, vwCl[t - 1]? = some r ∧ t_OB (base + k) (D.1 (t - 1)) r.2.2 (D.2 (t - 1)) H (fun j => pFV base sp M k t j) := by
  rcases R.2.2.2.2 k t n h (by omega) with ⟨h1, h2, r, h3, h4⟩ | ⟨h1, h2⟩ | ⟨h1, h2⟩ | ⟨h1, h2⟩ | ⟨h1, h2⟩ | ⟨h1, h2⟩
  · exact ⟨h2, r, h3, h4⟩
  all_goals omega
theorem RelH.kcl {t : Nat} {r : vw_C} (h : vwCl[t - 1]? = some r) : t ≤ 12 := by
  have := (List.getElem?_eq_some_iff.mp h).1
  simp [vwCl] at this
  omega
theorem RelH.ia {s : State} {M : pMem} {H : Heap} {k n : Nat} (R : RelH D base sp s0 L xs s M H) (h : gS M k = (100, n)) : k < gN M ∧ ∃ cA, ArrOfT s cA .int ∧ va_RA s cA .int ∧ H[base + k]? = some (arrV cA n (fun j => .int (gI M k j))) := by
  rcases R.2.2.2.2 k 100 n h (by omega) with ⟨h1, h2, r, h3, h4⟩ | ⟨h1, h2⟩ | ⟨h1, h2⟩ | ⟨h1, h2⟩ | ⟨h1, h2⟩ | ⟨h1, h2⟩
  · have := RelH.kcl h3; omega
  · exact h2
  all_goals omega
theorem RelH.la {s : State} {M : pMem} {H : Heap} {k n : Nat} (R : RelH D base sp s0 L xs s M H) (h : gS M k = (101, n)) : k < gN M ∧ ∃ cA, ArrOfT s cA .long ∧ va_RA s cA .long ∧ H[base + k]? = some (arrV cA n (fun j => .long (gJ M k j))) := by
  rcases R.2.2.2.2 k 101 n h (by omega) with ⟨h1, h2, r, h3, h4⟩ | ⟨h1, h2⟩ | ⟨h1, h2⟩ | ⟨h1, h2⟩ | ⟨h1, h2⟩ | ⟨h1, h2⟩
  · have := RelH.kcl h3; omega
  · omega
  · exact h2
  all_goals omega
theorem RelH.qa {s : State} {M : pMem} {H : Heap} {k n : Nat} (R : RelH D base sp s0 L xs s M H) (h : gS M k = (102, n)) : k < gN M ∧ ∃ cA, ArrOfT s cA (.object RX7) ∧ va_RA s cA (.object RX7) ∧ H[base + k]? = some (arrV cA n (fun j => pTr base sp (pRf (gP M k j)))) := by
  rcases R.2.2.2.2 k 102 n h (by omega) with ⟨h1, h2, r, h3, h4⟩ | ⟨h1, h2⟩ | ⟨h1, h2⟩ | ⟨h1, h2⟩ | ⟨h1, h2⟩ | ⟨h1, h2⟩
  · have := RelH.kcl h3; omega
  · omega
  · omega
  · exact h2
  all_goals omega
theorem RelH.str {s : State} {M : pMem} {H : Heap} {k n : Nat} (R : RelH D base sp s0 L xs s M H) (h : gS M k = (104, n)) : 900001 ≤ k ∧ k < 900047 := by
  rcases R.2.2.2.2 k 104 n h (by omega) with ⟨h1, h2, r, h3, h4⟩ | ⟨h1, h2⟩ | ⟨h1, h2⟩ | ⟨h1, h2⟩ | ⟨h1, h2⟩ | ⟨h1, h2⟩
  · have := RelH.kcl h3; omega
  · omega
  · omega
  · omega
  · omega
  · exact h2
theorem RelH.sc {s : State} {M : pMem} {H : Heap} {k n : Nat} (R : RelH D base sp s0 L xs s M H) (h : gS M k = (103, n)) : k = 900000 ∧ n = L ∧ ∀ j, j < n → gI M k j = xs j := by
  rcases R.2.2.2.2 k 103 n h (by omega) with ⟨h1, h2, r, h3, h4⟩ | ⟨h1, h2⟩ | ⟨h1, h2⟩ | ⟨h1, h2⟩ | ⟨h1, h2⟩ | ⟨h1, h2⟩
  · have := RelH.kcl h3; omega
  · omega
  · omega
  · omega
  · exact h2
  · omega
end PRL
