/-! INTS by whole numbers: iN -/
def Sm (a : Int) : Prop := -2 ^ 31 ≤ a ∧ a < 2 ^ 31
theorem iN_add (a b : Int) : iN a + iN b = iN (a + b) := (Int32.ofInt_add a b).symm
theorem iN_sub (a b : Int) : iN a - iN b = iN (a - b) := (Int32.ofInt_sub a b).symm
theorem iN_mul (a b : Int) : iN a * iN b = iN (a * b) := (Int32.ofInt_mul a b).symm
theorem iN_neg (a : Int) : -iN a = iN (-a) := (Int32.ofInt_neg a).symm
theorem iN_toInt {a : Int} (h : Sm a) : (iN a).toInt = a := by
  obtain ⟨h1, h2⟩ := h
  exact Int32.toInt_ofInt_of_le h1 h2
theorem iN_of (x : Int32) : x = iN x.toInt := (Int32.ofInt_toInt x).symm
theorem iN_ex (x : Int32) : ∃ a, Sm a ∧ x = iN a := ⟨x.toInt, ⟨Int32.le_toInt x, Int32.toInt_lt x⟩, iN_of x⟩
theorem iN_eq {a b : Int} (ha : Sm a) (hb : Sm b) : iN a = iN b ↔ a = b := by
  constructor
  · intro h
    have := congrArg Int32.toInt h
    rwa [iN_toInt ha, iN_toInt hb] at this
  · intro h; rw [h]
theorem iN_lt {a b : Int} (ha : Sm a) (hb : Sm b) : iN a < iN b ↔ a < b := by rw [Int32.lt_iff_toInt_lt, iN_toInt ha, iN_toInt hb]
theorem iN_le {a b : Int} (ha : Sm a) (hb : Sm b) : iN a ≤ iN b ↔ a ≤ b := by rw [Int32.le_iff_toInt_le, iN_toInt ha, iN_toInt hb]
theorem iN_0 : (0 : Int32) = iN 0 := by decide +kernel
theorem iN_1 : (1 : Int32) = iN 1 := by decide +kernel
theorem sm_0 : Sm 0 := ⟨by decide, by decide⟩
theorem iN_eq0 {a : Int} (ha : Sm a) : iN a = 0 ↔ a = 0 := by
  rw [iN_0]
  exact iN_eq ha sm_0
theorem iN_lt0 {a : Int} (ha : Sm a) : iN a < 0 ↔ a < 0 := by
  rw [iN_0]
  exact iN_lt ha sm_0
theorem iN_ge0 {a : Int} (ha : Sm a) : 0 ≤ iN a ↔ 0 ≤ a := by
  rw [iN_0]
  exact iN_le sm_0 ha
theorem iN_gt0 {a : Int} (ha : Sm a) : 0 < iN a ↔ 0 < a := by
  rw [iN_0]
  exact iN_lt sm_0 ha
theorem iN_le0 {a : Int} (ha : Sm a) : iN a ≤ 0 ↔ a ≤ 0 := by
  rw [iN_0]
  exact iN_le ha sm_0
theorem pIn_iN {a : Int} {n : Nat} (ha : Sm a) : pIn (iN a) n = true ↔ 0 ≤ a ∧ a < n := by
  unfold pIn
  rw [iN_toInt ha]
  exact decide_eq_true_iff
theorem pIx_iN {a : Int} (ha : Sm a) : pIx (iN a) = a.toNat := by
  show (iN a).toInt.toNat = _
  rw [iN_toInt ha]
theorem pTag_1 {M : pMem} {h t : Nat} : (pTag M h [t] = true) = ((gS M h).1 = t) := by simp [pTag]
theorem pTag_2 {M : pMem} {h t u : Nat} : (pTag M h [t, u] = true) = ((gS M h).1 = t ∨ (gS M h).1 = u) := by simp [pTag]
theorem pRf_s {h : Nat} : pRf (some h) = .ref h := rfl
theorem pRm_ok : (pRm [] ≤ 8) = True := by simp [pRm]
theorem gS_sI {M : pMem} {h k : Nat} {x : Int32} : gS (sI M h k x) = gS M := rfl
theorem gP_sI {M : pMem} {h k : Nat} {x : Int32} : gP (sI M h k x) = gP M := rfl
theorem gJ_sI {M : pMem} {h k : Nat} {x : Int32} : gJ (sI M h k x) = gJ M := rfl
theorem gN_sI {M : pMem} {h k : Nat} {x : Int32} : gN (sI M h k x) = gN M := rfl
theorem gL_sI {M : pMem} {h k : Nat} {x : Int32} : gL (sI M h k x) = gL M := rfl
theorem gI_sI {M : pMem} {h k h' k' : Nat} {x : Int32} : gI (sI M h k x) h' k' = if h' = h ∧ k' = k then x else gI M h' k' := rfl
set_option maxHeartbeats 1000000 in
/-- at(row, k) -/
theorem w_at {d a n : Nat} {k : Int} {M : pMem} {Q : pOut → pMem → Prop} (hs : gS M a = (100, n)) (hn : n < 1000000) (hk : Sm k) : mw (d + 1) 44 [.ref a, .int (iN k)] M Q = Q (.inl (some (.int (if 0 ≤ k ∧ k < n then gI M a k.toNat else iN (-1))))) M := by
  have hn' : Sm (n : Int) := by unfold Sm; omega
  simp only [m_44, q_iload1, q_if_lt, q_aload0, q_aload0N, q_alen, q_ic_ge, q_iald, q_goto, q_iconst, q_nop, q_iret, e_44_0, e_44_1, e_44_2, hs, iN_lt0 hk, iN_le hn' hk, pIn_iN hk, pIx_iN hk]
  rcases Int.lt_or_le k 0 with h0 | h0
  · have h1 : ¬ 0 ≤ k := by omega
    simp [h0, h1]
  · have h1 : ¬ k < 0 := by omega
    rcases Int.lt_or_le k n with h2 | h2
    · have h3 : ¬ (n : Int) ≤ k := by omega
      simp [h0, h1, h2, h3]
    · have h3 : ¬ k < (n : Int) := by omega
      simp [h0, h1, h2, h3]
