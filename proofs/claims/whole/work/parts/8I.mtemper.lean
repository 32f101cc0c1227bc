/-! THE LAW'S MODEL, whole; its temper() -/
def MI (M : pMem) (u : Nat) (a : Nat → Int32) (ak : Nat → Int32) (img : Bool) (n : Nat) (b : Nat → Nat) (fl : Int32) : Prop := (MR M u a) ∧ (img = true → ∀ k, k < 3346 → gI M (u + 2) k = ak k) ∧ (gI M u 3 = bI (img = true)) ∧ (gI M u 6 = nN n) ∧ (∀ k, k < n → gI M (u + 4) k = nN (b k)) ∧ (gI M u 10 = fl)
theorem MI.mk {M : pMem} {u : Nat} {a : Nat → Int32} {ak : Nat → Int32} {img : Bool} {n : Nat} {b : Nat → Nat} {fl : Int32} (mr : MR M u a) (ik : img = true → ∀ k, k < 3346 → gI M (u + 2) k = ak k) (hi : gI M u 3 = bI (img = true)) (tn : gI M u 6 = nN n) (tb : ∀ k, k < n → gI M (u + 4) k = nN (b k)) (fo : gI M u 10 = fl) : MI M u a ak img n b fl := ⟨mr, ik, hi, tn, tb, fo⟩
theorem MI.mr {M : pMem} {u : Nat} {a : Nat → Int32} {ak : Nat → Int32} {img : Bool} {n : Nat} {b : Nat → Nat} {fl : Int32} (h : MI M u a ak img n b fl) : MR M u a := And.left h
theorem MI.ik {M : pMem} {u : Nat} {a : Nat → Int32} {ak : Nat → Int32} {img : Bool} {n : Nat} {b : Nat → Nat} {fl : Int32} (h : MI M u a ak img n b fl) : img = true → ∀ k, k < 3346 → gI M (u + 2) k = ak k := And.left (And.right h)
theorem MI.hi {M : pMem} {u : Nat} {a : Nat → Int32} {ak : Nat → Int32} {img : Bool} {n : Nat} {b : Nat → Nat} {fl : Int32} (h : MI M u a ak img n b fl) : gI M u 3 = bI (img = true) := And.left (And.right (And.right h))
theorem MI.tn {M : pMem} {u : Nat} {a : Nat → Int32} {ak : Nat → Int32} {img : Bool} {n : Nat} {b : Nat → Nat} {fl : Int32} (h : MI M u a ak img n b fl) : gI M u 6 = nN n := And.left (And.right (And.right (And.right h)))
theorem MI.tb {M : pMem} {u : Nat} {a : Nat → Int32} {ak : Nat → Int32} {img : Bool} {n : Nat} {b : Nat → Nat} {fl : Int32} (h : MI M u a ak img n b fl) : ∀ k, k < n → gI M (u + 4) k = nN (b k) := And.left (And.right (And.right (And.right (And.right h))))
theorem MI.fo {M : pMem} {u : Nat} {a : Nat → Int32} {ak : Nat → Int32} {img : Bool} {n : Nat} {b : Nat → Nat} {fl : Int32} (h : MI M u a ak img n b fl) : gI M u 10 = fl := And.right (And.right (And.right (And.right (And.right h))))
def XU (u h _k : Nat) : Prop := u ≤ h ∧ h < u + 14
def fT (a : Nat → Int32) (n : Nat) (b : Nat → Nat) (k : Nat) : Nat → Int32 := fun j => if j = 940 + 401 * nT a then nN n else if 941 + 401 * nT a ≤ j ∧ j < 941 + 401 * nT a + k then nN (b (j - (941 + 401 * nT a))) else a j
section MT
variable {d t n u q m c s p src R cr : Nat} {a a' ak : Nat → Int32} {img : Bool} {b b' : Nat → Nat} {fl fl' : Int32} {M M1 M2 M3 M' : pMem} {Q : pOut → pMem → Prop} {h k : Nat} {cs : List Nat}
theorem MdW_U : ∀ h k, MdW u h k → XU u h k := fun h k z => ⟨by have := z.1; omega, by have := z.1; omega⟩
/-- the model's state, when what a text's reading uses alone has changed -/
theorem MI.go {X : Nat → Nat → Prop} (m : MI M u a ak img n b fl) (A : Ag X M M') (hX : ∀ h k, X h k → h = u ∧ (k = 0 ∨ (7 ≤ k ∧ k ≠ 10)) ∨ h = u + 3 ∨ (u + 5 ≤ h)) : MI M' u a ak img n b fl := by
  refine MI.mk (m.mr.ag A (fun k z => by have := hX _ _ z; omega)) ?_ ?_ ?_ ?_ ?_
  · intro h k hk; rw [A.I (fun z => by have := hX _ _ z; omega)]; exact m.ik h k hk
  · rw [A.I (fun z => by have := hX _ _ z; omega)]; exact m.hi
  · rw [A.I (fun z => by have := hX _ _ z; omega)]; exact m.tn
  · intro k hk; rw [A.I (fun z => by have := hX _ _ z; omega)]; exact m.tb k hk
  · rw [A.I (fun z => by have := hX _ _ z; omega)]; exact m.fo
theorem k_temper (m : MI M u a ak img n b fl) (hw : Wg a) (hB : BM M) (hn : n ≤ 400) (hb : ∀ k, b k < 256) :
    mw (d + 36) 78 [.ref u] M (fun o M' => (match pTemper (th tW n b) (nx9 n b) 400 (nb n b 0) with
      | .inl e => o = .inl (some (.int (nN 0))) ∧ gI M' u 0 = nN 1 ∧ MI M' u a ak img 0 b (nN e)
      | .inr _ => if nT a = 6 then o = .inl (some (.int (nN 0))) ∧ gI M' u 0 = nN 2 ∧ MI M' u a ak img 0 b (iN (-1)) else o = .inl (some (.int (nN (nT a)))) ∧ gI M' u 0 = nN 0 ∧ MI M' u (sTemper a n b) ak img 0 b (iN (-1))) ∧ Ag (XU u) M M') := by
  have hs := m.mr.1
  have ha := m.mr.2
  have hT6 := hw.1.t'
  have k0 := hs.k0
  simp (disch := omega) only [m_78, q_aload0, q_aload0N, q_iconst, q_put_i, pTag_1, q_get_i, pRf_s, q_invv1, inv_1, q_istore1, q_ic_eq, q_goto, q_get_r, q_iald, q_bipush, q_ic_ne, q_nop, q_if_le, q_iret, q_sipush, q_imul, q_iadd, q_istore2, q_iload2, q_iload1, q_iast, q_istore3, q_iload3, q_ic_ge, q_iinc3, q_dup2, q_isub, e_78_0, L_0, L_1, L_2, L_6, L_401, L_940, k_some, k_none, pRm_i, pRm_r, pRm_0, pF_1, pF_2, inv_s, k0, m.tn, gS_sI, gS_sI, gP_sI, gI_sI, Nat.add_left_cancel_iff, Nat.add_eq_left, Nat.left_eq_add, nN_le, nN_lt, nN_eq, nN_add, nN_mul, nN_lt0, nN_ge0, nN_gt0, nN_le0, nN_eq0, nN_eq1, nN_neN, pIn_n, pIx_n, eq_self, Nat.reduceLT, Bool.false_eq_true, Nat.add_zero, Nat.zero_add, Nat.reduceAdd, Nat.reduceMul, Nat.reduceSub, Nat.zero_le, Nat.reduceLeDiff, Nat.reduceEqDiff, Nat.le_refl, not_false_eq_true, not_true_eq_false, false_implies, true_implies, forall_const, true_and, and_true, if_true, if_false, implies_true, and_self, ne_eq, false_and, and_false, or_false, false_or, true_or, or_true]
  obtain ⟨M1, hM1⟩ : ∃ M1, M1 = sI (sI (sI (sI M u 10 (iN (-1))) u 7 (iN (-1))) u 8 (nN n)) u 17 (iN (-1)) := ⟨_, rfl⟩
  have A1 : Ag (fun h k => h = u ∧ (k = 7 ∨ k = 8 ∨ k = 10 ∨ k = 17)) M M1 := by
    rw [hM1]
    exact Ag.put (Ag.put (Ag.put (Ag.one ⟨rfl, by omega⟩) ⟨rfl, by omega⟩) ⟨rfl, by omega⟩) ⟨rfl, by omega⟩
  rw [← hM1]
  have s1 : ShM (gS M1) (gP M1) u := by rw [A1.S, A1.P]; exact hs
  have L1 : LtM M1 u n b := Or.inl ⟨by rw [hM1]; simp [gI_sI], hn, fun k hk => by rw [A1.I (by omega)]; exact m.tb k hk⟩
  have hbl : Bl (fun i => if i < 6 then gI M (u + 5) i else if i = 6 then gI M u 14 else if i = 7 then gI M u 15 else gI M u 16) := by
    intro i h1 h2
    have e0 : (0 : Int32) = nN 0 := by decide +kernel
    have e1 : (1 : Int32) = nN 1 := by decide +kernel
    have hB' : ∀ k, 14 ≤ k ∧ k ≤ 16 → gI M u k = nN 0 ∨ gI M u k = nN 1 := fun k hk => by
      have := hB u k (by rw [k0]) hk
      rw [e0, e1] at this; exact this
    have : i = 6 ∨ i = 7 ∨ i = 8 := by omega
    rcases this with rfl | rfl | rfl
    · simpa using hB' 14 (by omega)
    · simpa using hB' 15 (by omega)
    · simpa using hB' 16 (by omega)
  have F1 : FvM M1 u (fun i => if i < 6 then gI M (u + 5) i else if i = 6 then gI M u 14 else if i = 7 then gI M u 15 else gI M u 16) := by
    refine ⟨fun i hi => ?_, ?_, ?_, ?_⟩
    · rw [A1.I (by omega)]; simp [hi]
    · rw [A1.I (by omega)]; rfl
    · rw [A1.I (by omega)]; rfl
    · rw [A1.I (by omega)]; rfl
  refine mw_mono (w_readM (d := d + 1) s1 L1 hn hb (by rw [hM1]; simp [gI_sI]) (by rw [hM1]; simp [gI_sI]) F1 hbl) ?_
  rintro o M2 ⟨⟨rfl, h2⟩, A2⟩
  have A02 : Ag (fun h k => h = u ∧ k ≠ 0 ∧ k ≠ 3 ∧ k ≠ 6) M M2 := (A1.mono fun h k z => ⟨z.1, by omega, by omega, by omega⟩).trans (A2.mono fun h k z => ⟨z.1, by have := z.2; omega, by have := z.2; omega, by have := z.2; omega⟩)
  have t2 : gI M2 u 6 = nN n := by rw [A02.I (by omega)]; exact m.tn
  have s2 : ShM (gS M2) (gP M2) u := by rw [A02.S, A02.P]; exact hs
  have a2 : gI M2 (u + 1) = a := by rw [A02.row (by omega)]; exact ha
  have hi2 : gI M2 u 3 = bI (img = true) := by rw [A02.I (by omega)]; exact m.hi
  have e26 : ¬ (u = u ∧ (10 : Nat) = 6) := by omega
  have A3 : Ag (XU u) M (sI M2 u 6 (nN 0)) := (A02.mono fun h k z => ⟨by have := z.1; omega, by have := z.1; omega⟩).put ⟨Nat.le_refl _, by omega⟩
  have fin : ∀ (v : Nat) (f : Int32), gI M2 u 10 = f → MI (sI (sI M2 u 6 (nN 0)) u 0 (nN v)) u a ak img 0 b f := by
    intro v f hf
    have g : ∀ h k, ¬ (h = u ∧ (k = 0 ∨ k = 6)) → gI (sI (sI M2 u 6 (nN 0)) u 0 (nN v)) h k = gI M2 h k := fun h k z => by rw [gI_sI, if_neg (by omega), gI_sI, if_neg (by omega)]
    refine MI.mk ⟨s2, ?_⟩ ?_ ?_ ?_ ?_ ?_
    · funext j; rw [g _ _ (by omega), a2]
    · intro h k hk; rw [g _ _ (by omega), A02.I (by omega)]; exact m.ik h k hk
    · rw [g _ _ (by omega)]; exact hi2
    · rw [gI_sI, if_neg (by omega), gI_sI, if_pos ⟨rfl, rfl⟩]
    · intro k hk; omega
    · rw [g _ _ (by omega)]; exact hf
  cases hp : pTemper (th tW n b) (nx9 n b) 400 (nb n b 0) with
  | inl e =>
    rw [hp] at h2
    obtain ⟨f2, e2⟩ := h2
    have f3 := nN_ft e2
    simp (disch := omega) only [q_aload0, q_aload0N, q_iconst, q_put_i, pTag_1, q_get_i, pRf_s, q_invv1, inv_1, q_istore1, q_ic_eq, q_goto, q_get_r, q_iald, q_bipush, q_ic_ne, q_nop, q_if_le, q_iret, q_sipush, q_imul, q_iadd, q_istore2, q_iload2, q_iload1, q_iast, q_istore3, q_iload3, q_ic_ge, q_iinc3, q_dup2, q_isub, e_78_0, e_78_3, L_0, L_1, L_2, L_6, L_401, L_940, k_some, k_none, pRm_i, pRm_r, pRm_0, pF_1, pF_2, inv_s, s2.k0, t2, f2, f3, gS_sI, gS_sI, gP_sI, gI_sI, Nat.add_left_cancel_iff, Nat.add_eq_left, Nat.left_eq_add, nN_le, nN_lt, nN_eq, nN_add, nN_mul, nN_lt0, nN_ge0, nN_gt0, nN_le0, nN_eq0, nN_eq1, nN_neN, pIn_n, pIx_n, eq_self, Nat.reduceLT, Bool.false_eq_true, Nat.add_zero, Nat.zero_add, Nat.reduceAdd, Nat.reduceMul, Nat.reduceSub, Nat.zero_le, Nat.reduceLeDiff, Nat.reduceEqDiff, Nat.le_refl, not_false_eq_true, not_true_eq_false, false_implies, true_implies, forall_const, true_and, and_true, if_true, if_false, implies_true, and_self, ne_eq, false_and, and_false, or_false, false_or, true_or, or_true]
    exact ⟨fin 1 _ f2, A3.put ⟨Nat.le_refl _, by omega⟩⟩
  | inr s =>
    rw [hp] at h2
    obtain ⟨f2, -, -⟩ := h2
    simp (disch := omega) only [q_aload0, q_aload0N, q_iconst, q_put_i, pTag_1, q_get_i, pRf_s, q_invv1, inv_1, q_istore1, q_ic_eq, q_goto, q_get_r, q_iald, q_bipush, q_ic_ne, q_nop, q_if_le, q_iret, q_sipush, q_imul, q_iadd, q_istore2, q_iload2, q_iload1, q_iast, q_istore3, q_iload3, q_ic_ge, q_iinc3, q_dup2, q_isub, e_78_0, L_0, L_1, L_2, L_6, L_401, L_940, k_some, k_none, pRm_i, pRm_r, pRm_0, pF_1, pF_2, inv_s, s2.k0, t2, f2, gS_sI, gS_sI, gP_sI, gI_sI, Nat.add_left_cancel_iff, Nat.add_eq_left, Nat.left_eq_add, nN_le, nN_lt, nN_eq, nN_add, nN_mul, nN_lt0, nN_ge0, nN_gt0, nN_le0, nN_eq0, nN_eq1, nN_neN, pIn_n, pIx_n, eq_self, Nat.reduceLT, Bool.false_eq_true, Nat.add_zero, Nat.zero_add, Nat.reduceAdd, Nat.reduceMul, Nat.reduceSub, Nat.zero_le, Nat.reduceLeDiff, Nat.reduceEqDiff, Nat.le_refl, not_false_eq_true, not_true_eq_false, false_implies, true_implies, forall_const, true_and, and_true, if_true, if_false, implies_true, and_self, ne_eq, false_and, and_false, or_false, false_or, true_or, or_true]
    rw [e_78_1]
    have m2 : gI (sI M2 u 6 (nN 0)) (u + 1) 2 = nN (nT a) := by rw [gI_sI, if_neg (by omega), a2]; exact hw.1.t
    by_cases h6 : nT a = 6
    · simp only [if_pos h6]
      simp (disch := omega) only [q_aload0, q_aload0N, q_iconst, q_put_i, pTag_1, q_get_i, pRf_s, q_invv1, inv_1, q_istore1, q_ic_eq, q_goto, q_get_r, q_iald, q_bipush, q_ic_ne, q_nop, q_if_le, q_iret, q_sipush, q_imul, q_iadd, q_istore2, q_iload2, q_iload1, q_iast, q_istore3, q_iload3, q_ic_ge, q_iinc3, q_dup2, q_isub, e_78_0, e_78_3, L_0, L_1, L_2, L_6, L_401, L_940, k_some, k_none, pRm_i, pRm_r, pRm_0, pF_1, pF_2, inv_s, s2.k0, s2.k1, s2.p1, m2, h6, gS_sI, gP_sI, gS_sI, gP_sI, gI_sI, Nat.add_left_cancel_iff, Nat.add_eq_left, Nat.left_eq_add, nN_le, nN_lt, nN_eq, nN_add, nN_mul, nN_lt0, nN_ge0, nN_gt0, nN_le0, nN_eq0, nN_eq1, nN_neN, pIn_n, pIx_n, eq_self, Nat.reduceLT, Bool.false_eq_true, Nat.add_zero, Nat.zero_add, Nat.reduceAdd, Nat.reduceMul, Nat.reduceSub, Nat.zero_le, Nat.reduceLeDiff, Nat.reduceEqDiff, Nat.le_refl, not_false_eq_true, not_true_eq_false, false_implies, true_implies, forall_const, true_and, and_true, if_true, if_false, implies_true, and_self, ne_eq, false_and, and_false, or_false, false_or, true_or, or_true]
      exact ⟨fin 2 _ f2, A3.put ⟨Nat.le_refl _, by omega⟩⟩
    · simp only [if_neg h6]
      have F3 := fin 0 _ f2
      have a3 : gI (sI (sI M2 u 6 (nN 0)) u 0 (nN 0)) (u + 1) = a := F3.mr.2
      have m3 : gI (sI (sI M2 u 6 (nN 0)) u 0 (nN 0)) (u + 1) 2 = nN (nT a) := by rw [a3]; exact hw.1.t
      have A4 : Ag (XU u) M (sI (sI M2 u 6 (nN 0)) u 0 (nN 0)) := A3.put ⟨Nat.le_refl _, by omega⟩
      simp (disch := omega) only [q_aload0, q_aload0N, q_iconst, q_put_i, pTag_1, q_get_i, pRf_s, q_invv1, inv_1, q_istore1, q_ic_eq, q_goto, q_get_r, q_iald, q_bipush, q_ic_ne, q_nop, q_if_le, q_iret, q_sipush, q_imul, q_iadd, q_istore2, q_iload2, q_iload1, q_iast, q_istore3, q_iload3, q_ic_ge, q_iinc3, q_dup2, q_isub, e_78_0, e_78_2, L_0, L_1, L_2, L_6, L_401, L_940, k_some, k_none, pRm_i, pRm_r, pRm_0, pF_1, pF_2, inv_s, s2.k0, s2.k1, s2.p1, m2, h6, gS_sI, gP_sI, gS_sI, gP_sI, gI_sI, Nat.add_left_cancel_iff, Nat.add_eq_left, Nat.left_eq_add, nN_le, nN_lt, nN_eq, nN_add, nN_mul, nN_lt0, nN_ge0, nN_gt0, nN_le0, nN_eq0, nN_eq1, nN_neN, pIn_n, pIx_n, eq_self, Nat.reduceLT, Bool.false_eq_true, Nat.add_zero, Nat.zero_add, Nat.reduceAdd, Nat.reduceMul, Nat.reduceSub, Nat.zero_le, Nat.reduceLeDiff, Nat.reduceEqDiff, Nat.le_refl, not_false_eq_true, not_true_eq_false, false_implies, true_implies, forall_const, true_and, and_true, if_true, if_false, implies_true, and_self, ne_eq, false_and, and_false, or_false, false_or, true_or, or_true]
      rw [e_78_3]
      simp (disch := omega) only [q_aload0, q_aload0N, q_iconst, q_put_i, pTag_1, q_get_i, pRf_s, q_invv1, inv_1, q_istore1, q_ic_eq, q_goto, q_get_r, q_iald, q_bipush, q_ic_ne, q_nop, q_if_le, q_iret, q_sipush, q_imul, q_iadd, q_istore2, q_iload2, q_iload1, q_iast, q_istore3, q_iload3, q_ic_ge, q_iinc3, q_dup2, q_isub, e_78_0, L_0, L_1, L_2, L_6, L_401, L_940, k_some, k_none, pRm_i, pRm_r, pRm_0, pF_1, pF_2, inv_s, s2.k0, gS_sI, gP_sI, gS_sI, gP_sI, gI_sI, Nat.add_left_cancel_iff, Nat.add_eq_left, Nat.left_eq_add, nN_le, nN_lt, nN_eq, nN_add, nN_mul, nN_lt0, nN_ge0, nN_gt0, nN_le0, nN_eq0, nN_eq1, nN_neN, pIn_n, pIx_n, eq_self, Nat.reduceLT, Bool.false_eq_true, Nat.add_zero, Nat.zero_add, Nat.reduceAdd, Nat.reduceMul, Nat.reduceSub, Nat.zero_le, Nat.reduceLeDiff, Nat.reduceEqDiff, Nat.le_refl, not_false_eq_true, not_true_eq_false, false_implies, true_implies, forall_const, true_and, and_true, if_true, if_false, implies_true, and_self, ne_eq, false_and, and_false, or_false, false_or, true_or, or_true]
      rw [e_78_4]
      have th4 : gI (sI (sI M2 u 6 (nN 0)) u 0 (nN 0)) u 0 = nN 0 := by rw [gI_sI, if_pos ⟨rfl, rfl⟩]
      have tb4 : ∀ k, k < n → gI (sI (sI M2 u 6 (nN 0)) u 0 (nN 0)) (u + 4) k = nN (b k) := fun k hk => by
        rw [gI_sI, if_neg (by omega), gI_sI, if_neg (by omega), A02.I (by omega)]; exact m.tb k hk
      generalize sI (sI M2 u 6 (nN 0)) u 0 (nN 0) = M4 at F3 a3 m3 A4 th4 tb4 ⊢
      have s4 := F3.mr.1
      have g6 : nT a < 6 := by omega
      have i1 : 940 + 401 * nT a < 3346 := by omega
      have key : ∀ (j k : Nat) (M5 : pMem), k + j = n → gI M5 (u + 1) = fT a n b k → Ag (fun h _ => h = u + 1) M4 M5 → bw (d + 35) 78 5 ([some (.ref u), some (.int (nN n)), some (.int (nN (940 + 401 * nT a))), some (.int (nN k))], [], M5) (fun o M' => (o = .inl (some (.int (nN (nT a)))) ∧ gI M' u 0 = nN 0 ∧ MI M' u (sTemper a n b) ak img 0 b (iN (-1))) ∧ Ag (XU u) M M') := by
        intro j
        induction j with
        | zero =>
          intro k M5 hk h5 A5
          have ek : k = n := by omega
          subst ek
          have s5 : ShM (gS M5) (gP M5) u := by rw [A5.S, A5.P]; exact s4
          have m5 : gI M5 (u + 1) 2 = nN (nT a) := by rw [h5]; unfold fT; rw [if_neg (by omega), if_neg (by omega)]; exact hw.1.t
          have A6 : Ag (fun h _ => h = u + 1) M5 (sI M5 (u + 1) 2 (nN (nT a + 1))) := Ag.one rfl
          have es : nN (nT a + 1) - nN 1 = nN (nT a) := by rw [nN_subN (by omega)]; congr 1
          rw [e_78_5]
          simp (disch := omega) only [q_aload0, q_aload0N, q_iconst, q_put_i, pTag_1, q_get_i, pRf_s, q_invv1, inv_1, q_istore1, q_ic_eq, q_goto, q_get_r, q_iald, q_bipush, q_ic_ne, q_nop, q_if_le, q_iret, q_sipush, q_imul, q_iadd, q_istore2, q_iload2, q_iload1, q_iast, q_istore3, q_iload3, q_ic_ge, q_iinc3, q_dup2, q_isub, e_78_0, L_0, L_1, L_2, L_6, L_401, L_940, k_some, k_none, pRm_i, pRm_r, pRm_0, pF_1, pF_2, inv_s, Nat.le_refl, nN_le, nN_lt, nN_eq, nN_add, nN_mul, nN_lt0, nN_ge0, nN_gt0, nN_le0, nN_eq0, nN_eq1, nN_neN, pIn_n, pIx_n, eq_self, Nat.reduceLT, Bool.false_eq_true, Nat.add_zero, Nat.zero_add, Nat.reduceAdd, Nat.reduceMul, Nat.reduceSub, Nat.zero_le, Nat.reduceLeDiff, Nat.reduceEqDiff, Nat.le_refl, not_false_eq_true, not_true_eq_false, false_implies, true_implies, forall_const, true_and, and_true, if_true, if_false, implies_true, and_self, ne_eq, false_and, and_false, or_false, false_or, true_or, or_true]
          rw [e_78_6]
          simp (disch := omega) only [q_aload0, q_aload0N, q_iconst, q_put_i, pTag_1, q_get_i, pRf_s, q_invv1, inv_1, q_istore1, q_ic_eq, q_goto, q_get_r, q_iald, q_bipush, q_ic_ne, q_nop, q_if_le, q_iret, q_sipush, q_imul, q_iadd, q_istore2, q_iload2, q_iload1, q_iast, q_istore3, q_iload3, q_ic_ge, q_iinc3, q_dup2, q_isub, e_78_0, L_0, L_1, L_2, L_6, L_401, L_940, k_some, k_none, pRm_i, pRm_r, pRm_0, pF_1, pF_2, inv_s, s5.k0, s5.k1, s5.p1, m5, es, gS_sI, gP_sI, gS_sI, gP_sI, gI_sI, Nat.add_left_cancel_iff, Nat.add_eq_left, Nat.left_eq_add, nN_le, nN_lt, nN_eq, nN_add, nN_mul, nN_lt0, nN_ge0, nN_gt0, nN_le0, nN_eq0, nN_eq1, nN_neN, pIn_n, pIx_n, eq_self, Nat.reduceLT, Bool.false_eq_true, Nat.add_zero, Nat.zero_add, Nat.reduceAdd, Nat.reduceMul, Nat.reduceSub, Nat.zero_le, Nat.reduceLeDiff, Nat.reduceEqDiff, Nat.le_refl, not_false_eq_true, not_true_eq_false, false_implies, true_implies, forall_const, true_and, and_true, if_true, if_false, implies_true, and_self, ne_eq, false_and, and_false, or_false, false_or, true_or, or_true]
          have A46 := A5.trans A6
          have g : ∀ h k, h ≠ u + 1 → gI (sI M5 (u + 1) 2 (nN (nT a + 1))) h k = gI M4 h k := fun h k z => A46.I z
          refine ⟨⟨by rw [A5.I (by omega)]; exact th4, MI.mk ⟨s5, ?_⟩ ?_ ?_ ?_ ?_ ?_⟩, A4.trans (A46.mono fun h k z => ⟨by omega, by omega⟩)⟩
          · funext i
            rw [gI_sI, h5]
            unfold sTemper fT
            by_cases c : i = 2
            · rw [if_pos ⟨rfl, c⟩, if_pos c]
            · rw [if_neg (fun z => c z.2), if_neg c]
          · intro h k hk; rw [g _ _ (by omega)]; exact F3.ik h k hk
          · rw [g _ _ (by omega)]; exact F3.hi
          · rw [g _ _ (by omega)]; exact F3.tn
          · intro k hk; omega
          · rw [g _ _ (by omega)]; exact F3.fo
        | succ j ih =>
          intro k M5 hk h5 A5
          have s5 : ShM (gS M5) (gP M5) u := by rw [A5.S, A5.P]; exact s4
          have e1 : ¬ n ≤ k := by omega
          have e2 : k < 400 := by omega
          have t5 : gI M5 (u + 4) k = nN (b k) := by rw [A5.I (by omega)]; exact tb4 k (by omega)
          have i2 : 940 + 401 * nT a + 1 + k < 3346 := by omega
          rw [e_78_5]
          simp (disch := omega) only [q_aload0, q_aload0N, q_iconst, q_put_i, pTag_1, q_get_i, pRf_s, q_invv1, inv_1, q_istore1, q_ic_eq, q_goto, q_get_r, q_iald, q_bipush, q_ic_ne, q_nop, q_if_le, q_iret, q_sipush, q_imul, q_iadd, q_istore2, q_iload2, q_iload1, q_iast, q_istore3, q_iload3, q_ic_ge, q_iinc3, q_dup2, q_isub, e_78_0, L_0, L_1, L_2, L_6, L_401, L_940, k_some, k_none, pRm_i, pRm_r, pRm_0, pF_1, pF_2, inv_s, s5.k0, s5.k1, s5.k4, s5.p1, s5.p5, e1, e2, t5, i2, nN_le, nN_lt, nN_eq, nN_add, nN_mul, nN_lt0, nN_ge0, nN_gt0, nN_le0, nN_eq0, nN_eq1, nN_neN, pIn_n, pIx_n, eq_self, Nat.reduceLT, Bool.false_eq_true, Nat.add_zero, Nat.zero_add, Nat.reduceAdd, Nat.reduceMul, Nat.reduceSub, Nat.zero_le, Nat.reduceLeDiff, Nat.reduceEqDiff, Nat.le_refl, not_false_eq_true, not_true_eq_false, false_implies, true_implies, forall_const, true_and, and_true, if_true, if_false, implies_true, and_self, ne_eq, false_and, and_false, or_false, false_or, true_or, or_true]
          refine ih (k + 1) _ (by omega) ?_ (A5.put rfl)
          funext i
          rw [gI_sI, h5]
          unfold fT
          by_cases c : i = 940 + 401 * nT a + 1 + k
          · rw [if_pos ⟨rfl, c⟩, if_neg (by omega), if_pos (by omega)]
            congr 2
            omega
          · rw [if_neg (fun z => c z.2)]
            by_cases c2 : i = 940 + 401 * nT a
            · rw [if_pos c2, if_pos c2]
            · rw [if_neg c2, if_neg c2]
              by_cases c3 : 941 + 401 * nT a ≤ i ∧ i < 941 + 401 * nT a + k
              · rw [if_pos c3, if_pos (by omega)]
              · rw [if_neg c3, if_neg (by omega)]
      simp (disch := omega) only [q_aload0, q_aload0N, q_iconst, q_put_i, pTag_1, q_get_i, pRf_s, q_invv1, inv_1, q_istore1, q_ic_eq, q_goto, q_get_r, q_iald, q_bipush, q_ic_ne, q_nop, q_if_le, q_iret, q_sipush, q_imul, q_iadd, q_istore2, q_iload2, q_iload1, q_iast, q_istore3, q_iload3, q_ic_ge, q_iinc3, q_dup2, q_isub, e_78_0, L_0, L_1, L_2, L_6, L_401, L_940, k_some, k_none, pRm_i, pRm_r, pRm_0, pF_1, pF_2, inv_s, s4.k0, s4.k1, s4.p1, m3, i1, gS_sI, gP_sI, nN_le, nN_lt, nN_eq, nN_add, nN_mul, nN_lt0, nN_ge0, nN_gt0, nN_le0, nN_eq0, nN_eq1, nN_neN, pIn_n, pIx_n, eq_self, Nat.reduceLT, Bool.false_eq_true, Nat.add_zero, Nat.zero_add, Nat.reduceAdd, Nat.reduceMul, Nat.reduceSub, Nat.zero_le, Nat.reduceLeDiff, Nat.reduceEqDiff, Nat.le_refl, not_false_eq_true, not_true_eq_false, false_implies, true_implies, forall_const, true_and, and_true, if_true, if_false, implies_true, and_self, ne_eq, false_and, and_false, or_false, false_or, true_or, or_true]
      refine key n 0 _ (by omega) ?_ (Ag.one rfl)
      funext i
      rw [gI_sI, a3]
      unfold fT
      by_cases c : i = 940 + 401 * nT a
      · rw [if_pos ⟨rfl, c⟩, if_pos c]
      · rw [if_neg (fun z => c z.2), if_neg c, if_neg (by omega)]
end MT
