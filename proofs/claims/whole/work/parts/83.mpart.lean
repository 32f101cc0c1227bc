/-! PARTS OF TEMPERS, in the law's model -/
def FvM (M : pMem) (u : Nat) (fv : Nat → Int32) : Prop := (∀ i, i < 6 → gI M (u + 5) i = fv i) ∧ gI M u 14 = fv 6 ∧ gI M u 15 = fv 7 ∧ gI M u 16 = fv 8
def MdT (M : pMem) (u n : Nat) (b : Nat → Nat) (dp : Nat) (fv : Nat → Int32) (q p : Nat) : Prop := (MdS M u n b q p) ∧ (gI M u 11 = nN dp) ∧ (FvM M u fv)
theorem MdT.mk {M : pMem} {u n : Nat} {b : Nat → Nat} {dp : Nat} {fv : Nat → Int32} {q p : Nat} (sd : MdS M u n b q p) (de : gI M u 11 = nN dp) (fs : FvM M u fv) : MdT M u n b dp fv q p := ⟨sd, de, fs⟩
theorem MdT.sd {M : pMem} {u n : Nat} {b : Nat → Nat} {dp : Nat} {fv : Nat → Int32} {q p : Nat} (h : MdT M u n b dp fv q p) : MdS M u n b q p := And.left h
theorem MdT.de {M : pMem} {u n : Nat} {b : Nat → Nat} {dp : Nat} {fv : Nat → Int32} {q p : Nat} (h : MdT M u n b dp fv q p) : gI M u 11 = nN dp := And.left (And.right h)
theorem MdT.fs {M : pMem} {u n : Nat} {b : Nat → Nat} {dp : Nat} {fv : Nat → Int32} {q p : Nat} (h : MdT M u n b dp fv q p) : FvM M u fv := And.right (And.right h)
def MdY (u h k : Nat) : Prop := h = u ∧ (k = 9 ∨ k = 10 ∨ k = 11)
def AtB (M : pMem) (u c : Nat) : Prop := ∃ q9, q9 ≤ c ∧ gI M u 9 = nN q9
def MdZ (M' : pMem) (u n : Nat) (b : Nat → Nat) (dp : Nat) (fv : Nat → Int32) (r : pZ) (o : pOut) : Prop := match r with
  | .inl e => (∃ v, o = .inl (some (.int v))) ∧ gI M' u 10 = nN e ∧ e < 1000 ∧ AtB M' u (n + (7 - dp))
  | .inr s => o = .inl (some (.int (s.2.2 fv))) ∧ ∃ q, MdT M' u n b dp fv q s.1
section PM
variable {d n u p q k m c sr i dp : Nat} {b : Nat → Nat} {fv : Nat → Int32} {W : List (List Nat)} {M M1 M' : pMem} {Q : pOut → pMem → Prop} {x y : Int32}
theorem FvM.ag {X : Nat → Nat → Prop} (h : FvM M u fv) (A : Ag X M M') (n1 : ∀ k, ¬ X (u + 5) k) (n2 : ∀ k, 14 ≤ k → ¬ X u k) : FvM M' u fv := by
  obtain ⟨h1, h2, h3, h4⟩ := h
  exact ⟨fun i hi => by rw [A.I (n1 i)]; exact h1 i hi, by rw [A.I (n2 14 (by omega))]; exact h2, by rw [A.I (n2 15 (by omega))]; exact h3, by rw [A.I (n2 16 (by omega))]; exact h4⟩
theorem MdT.st {q' p' : Nat} {X : Nat → Nat → Prop} (h : MdT M u n b dp fv q p) (A : Ag X M M') (hX : ∀ h k, X h k → h = u ∧ (k = 9 ∨ k = 10)) (h2 : MdS M' u n b q' p') : MdT M' u n b dp fv q' p' :=
  MdT.mk h2 (by rw [A.I (fun z => by have := hX _ _ z; omega)]; exact h.de) (h.fs.ag A (fun k z => by have := hX _ _ z; omega) (fun k hk z => by have := hX _ _ z; omega))
theorem w_partM (h : MdT M u n b dp fv q p) : mw (d + 6) 71 [.ref u] M (fun o M' => MdZ M' u n b dp fv (pPart (th tW n b) (nx9 n b) p) o ∧ Ag (MdY u) M M') := by
  have h0 := h.sd
  simp (disch := omega) only [m_71, q_aload0, q_aload0N, q_get_i, pTag_1, pRf_s, q_iconst, q_ic_eq, q_iret, q_invv0, inv_1, q_ic_ge, q_invv1, q_bipush, q_invs3_20, q_if_eq, q_sipush, q_invv2, q_ldc_s, q_goto, q_nop, q_istore1, q_iload1, q_ic_ne, q_get_r, q_iald, e_71_0, e_71_1, L_0, L_1, L_2, L_3, L_4, L_5, L_48, L_57, L_999, k_some, k_none, pRm_i, pRm_r, pRm_0, pF_1, pF_2, inv_s, h0.sh.k0, h0.ft, nN_le, nN_lt, nN_eq, nN_add, nN_mul, nN_lt0, nN_ge0, nN_gt0, nN_le0, nN_eq0, nN_eq1, nN_neN, pIn_n, pIx_n, eq_self, Nat.reduceLT, Bool.false_eq_true, Nat.add_zero, Nat.zero_add, Nat.reduceAdd, Nat.reduceMul, Nat.reduceSub, Nat.zero_le, Nat.reduceLeDiff, Nat.reduceEqDiff, Nat.le_refl, not_false_eq_true, not_true_eq_false, false_implies, true_implies, forall_const, true_and, and_true, if_true, if_false, implies_true, and_self, ne_eq, false_and, and_false, or_false, false_or, true_or, or_true]
  refine mw_mono (w_skip h0) ?_
  rintro _ M1 ⟨rfl, h1, A1⟩
  have hn := h1.n9
  have hpn := h1.ple.2
  have X9 : ∀ h k, (h = u ∧ k = 9) → h = u ∧ (k = 9 ∨ k = 10) := fun h k z => ⟨z.1, Or.inl z.2⟩
  have Y9 : ∀ h k, (h = u ∧ k = 9) → MdY u h k := fun h k z => ⟨z.1, Or.inl z.2⟩
  have T1 := h.st A1 X9 h1
  -- a fact
  have fin : ∀ (i : Nat) (M2 : pMem), i < 6 → th tW n b p = 1000 + i → MdT M2 u n b dp fv (te n b p) (nx9 n b p) → Ag (MdY u) M M2 → bw (d + 5) 71 9 ([some (.ref u), none], [.int (nN i)], M2) (fun o M' => MdZ M' u n b dp fv (pPart (th tW n b) (nx9 n b) p) o ∧ Ag (MdY u) M M') := by
    intro i M2 hi ht T2 A2
    have e : pPart (th tW n b) (nx9 n b) p = .inr (nx9 n b p, [th tW n b p], fun fv => fv (th tW n b p - 1000)) := by
      unfold pPart
      rw [if_neg (by omega), if_pos (by omega)]
    have s2 := T2.sd.sh
    have g := T2.fs.1 i hi
    have e2 : ¬ nN i = iN (-1) := by rw [nN_neN (by omega)]; exact not_false
    rw [e, e_71_9]
    simp (disch := omega) only [q_aload0, q_aload0N, q_get_i, pTag_1, pRf_s, q_iconst, q_ic_eq, q_iret, q_invv0, inv_1, q_ic_ge, q_invv1, q_bipush, q_invs3_20, q_if_eq, q_sipush, q_invv2, q_ldc_s, q_goto, q_nop, q_istore1, q_iload1, q_ic_ne, q_get_r, q_iald, e_71_0, e_71_1, e_71_2, e_71_3, e_71_4, e_71_5, e_71_6, e_71_7, e_71_8, e_71_9, e_71_10, L_0, L_1, L_2, L_3, L_4, L_5, L_48, L_57, L_999, k_some, k_none, pRm_i, pRm_r, pRm_0, pF_1, pF_2, inv_s, s2.k0, s2.k5, s2.p13, g, e2, hi, nN_le, nN_lt, nN_eq, nN_add, nN_mul, nN_lt0, nN_ge0, nN_gt0, nN_le0, nN_eq0, nN_eq1, nN_neN, pIn_n, pIx_n, eq_self, Nat.reduceLT, Bool.false_eq_true, Nat.add_zero, Nat.zero_add, Nat.reduceAdd, Nat.reduceMul, Nat.reduceSub, Nat.zero_le, Nat.reduceLeDiff, Nat.reduceEqDiff, Nat.le_refl, not_false_eq_true, not_true_eq_false, false_implies, true_implies, forall_const, true_and, and_true, if_true, if_false, implies_true, and_self, ne_eq, false_and, and_false, or_false, false_or, true_or, or_true]
    exact ⟨⟨by show _ = Sum.inl (some (Value.int (fv (th tW n b p - 1000)))); rw [ht, Nat.add_sub_cancel_left], te n b p, T2⟩, A2⟩
  have wrd : 999 < th tW n b p → bw (d + 5) 71 2 ([some (.ref u), none], [], M1) (fun o M' => MdZ M' u n b dp fv (pPart (th tW n b) (nx9 n b) p) o ∧ Ag (MdY u) M M') := by
    intro hlo
    have B1 : Ag (MdY u) M M1 := A1.mono Y9
    rw [e_71_2]
    simp (disch := omega) only [q_aload0, q_aload0N, q_get_i, pTag_1, pRf_s, q_iconst, q_ic_eq, q_iret, q_invv0, inv_1, q_ic_ge, q_invv1, q_bipush, q_invs3_20, q_if_eq, q_sipush, q_invv2, q_ldc_s, q_goto, q_nop, q_istore1, q_iload1, q_ic_ne, q_get_r, q_iald, e_71_0, e_71_1, L_0, L_1, L_2, L_3, L_4, L_5, L_48, L_57, L_999, k_some, k_none, pRm_i, pRm_r, pRm_0, pF_1, pF_2, inv_s, T1.sd.sh.k0, nN_le, nN_lt, nN_eq, nN_add, nN_mul, nN_lt0, nN_ge0, nN_gt0, nN_le0, nN_eq0, nN_eq1, nN_neN, pIn_n, pIx_n, eq_self, Nat.reduceLT, Bool.false_eq_true, Nat.add_zero, Nat.zero_add, Nat.reduceAdd, Nat.reduceMul, Nat.reduceSub, Nat.zero_le, Nat.reduceLeDiff, Nat.reduceEqDiff, Nat.le_refl, not_false_eq_true, not_true_eq_false, false_implies, true_implies, forall_const, true_and, and_true, if_true, if_false, implies_true, and_self, ne_eq, false_and, and_false, or_false, false_or, true_or, or_true]
    refine mw_mono (w_hasT (i := 0) T1.sd (by omega) rfl) ?_
    rintro o2 M2 ⟨h2, A2⟩
    have B2 : Ag (MdY u) M M2 := B1.trans (A2.mono Y9)
    by_cases c2 : th tW n b p = 1000 + 0
    · rw [if_pos c2] at h2
      obtain ⟨rfl, h2⟩ := h2
      simp (disch := omega) only [q_aload0, q_aload0N, q_get_i, pTag_1, pRf_s, q_iconst, q_ic_eq, q_iret, q_invv0, inv_1, q_ic_ge, q_invv1, q_bipush, q_invs3_20, q_if_eq, q_sipush, q_invv2, q_ldc_s, q_goto, q_nop, q_istore1, q_iload1, q_ic_ne, q_get_r, q_iald, e_71_0, e_71_1, L_0, L_1, L_2, L_3, L_4, L_5, L_48, L_57, L_999, k_some, k_none, pRm_i, pRm_r, pRm_0, pF_1, pF_2, inv_s, zb_0, zb_1, nN_le, nN_lt, nN_eq, nN_add, nN_mul, nN_lt0, nN_ge0, nN_gt0, nN_le0, nN_eq0, nN_eq1, nN_neN, pIn_n, pIx_n, eq_self, Nat.reduceLT, Bool.false_eq_true, Nat.add_zero, Nat.zero_add, Nat.reduceAdd, Nat.reduceMul, Nat.reduceSub, Nat.zero_le, Nat.reduceLeDiff, Nat.reduceEqDiff, Nat.le_refl, not_false_eq_true, not_true_eq_false, false_implies, true_implies, forall_const, true_and, and_true, if_true, if_false, implies_true, and_self, ne_eq, false_and, and_false, or_false, false_or, true_or, or_true]
      exact fin 0 M2 (by omega) c2 (T1.st A2 X9 h2) B2
    rw [if_neg c2] at h2
    obtain ⟨rfl, h2⟩ := h2
    simp (disch := omega) only [q_aload0, q_aload0N, q_get_i, pTag_1, pRf_s, q_iconst, q_ic_eq, q_iret, q_invv0, inv_1, q_ic_ge, q_invv1, q_bipush, q_invs3_20, q_if_eq, q_sipush, q_invv2, q_ldc_s, q_goto, q_nop, q_istore1, q_iload1, q_ic_ne, q_get_r, q_iald, e_71_0, e_71_1, L_0, L_1, L_2, L_3, L_4, L_5, L_48, L_57, L_999, k_some, k_none, pRm_i, pRm_r, pRm_0, pF_1, pF_2, inv_s, zb_0, zb_1, nN_le, nN_lt, nN_eq, nN_add, nN_mul, nN_lt0, nN_ge0, nN_gt0, nN_le0, nN_eq0, nN_eq1, nN_neN, pIn_n, pIx_n, eq_self, Nat.reduceLT, Bool.false_eq_true, Nat.add_zero, Nat.zero_add, Nat.reduceAdd, Nat.reduceMul, Nat.reduceSub, Nat.zero_le, Nat.reduceLeDiff, Nat.reduceEqDiff, Nat.le_refl, not_false_eq_true, not_true_eq_false, false_implies, true_implies, forall_const, true_and, and_true, if_true, if_false, implies_true, and_self, ne_eq, false_and, and_false, or_false, false_or, true_or, or_true]
    have T2 := T1.st A2 X9 h2
    rw [e_71_3]
    simp (disch := omega) only [q_aload0, q_aload0N, q_get_i, pTag_1, pRf_s, q_iconst, q_ic_eq, q_iret, q_invv0, inv_1, q_ic_ge, q_invv1, q_bipush, q_invs3_20, q_if_eq, q_sipush, q_invv2, q_ldc_s, q_goto, q_nop, q_istore1, q_iload1, q_ic_ne, q_get_r, q_iald, e_71_0, e_71_1, L_0, L_1, L_2, L_3, L_4, L_5, L_48, L_57, L_999, k_some, k_none, pRm_i, pRm_r, pRm_0, pF_1, pF_2, inv_s, T2.sd.sh.k0, nN_le, nN_lt, nN_eq, nN_add, nN_mul, nN_lt0, nN_ge0, nN_gt0, nN_le0, nN_eq0, nN_eq1, nN_neN, pIn_n, pIx_n, eq_self, Nat.reduceLT, Bool.false_eq_true, Nat.add_zero, Nat.zero_add, Nat.reduceAdd, Nat.reduceMul, Nat.reduceSub, Nat.zero_le, Nat.reduceLeDiff, Nat.reduceEqDiff, Nat.le_refl, not_false_eq_true, not_true_eq_false, false_implies, true_implies, forall_const, true_and, and_true, if_true, if_false, implies_true, and_self, ne_eq, false_and, and_false, or_false, false_or, true_or, or_true]
    refine mw_mono (w_hasT (i := 1) T2.sd (by omega) rfl) ?_
    rintro o3 M3 ⟨h3, A3⟩
    have B3 : Ag (MdY u) M M3 := B2.trans (A3.mono Y9)
    by_cases c3 : th tW n b p = 1000 + 1
    · rw [if_pos c3] at h3
      obtain ⟨rfl, h3⟩ := h3
      simp (disch := omega) only [q_aload0, q_aload0N, q_get_i, pTag_1, pRf_s, q_iconst, q_ic_eq, q_iret, q_invv0, inv_1, q_ic_ge, q_invv1, q_bipush, q_invs3_20, q_if_eq, q_sipush, q_invv2, q_ldc_s, q_goto, q_nop, q_istore1, q_iload1, q_ic_ne, q_get_r, q_iald, e_71_0, e_71_1, L_0, L_1, L_2, L_3, L_4, L_5, L_48, L_57, L_999, k_some, k_none, pRm_i, pRm_r, pRm_0, pF_1, pF_2, inv_s, zb_0, zb_1, nN_le, nN_lt, nN_eq, nN_add, nN_mul, nN_lt0, nN_ge0, nN_gt0, nN_le0, nN_eq0, nN_eq1, nN_neN, pIn_n, pIx_n, eq_self, Nat.reduceLT, Bool.false_eq_true, Nat.add_zero, Nat.zero_add, Nat.reduceAdd, Nat.reduceMul, Nat.reduceSub, Nat.zero_le, Nat.reduceLeDiff, Nat.reduceEqDiff, Nat.le_refl, not_false_eq_true, not_true_eq_false, false_implies, true_implies, forall_const, true_and, and_true, if_true, if_false, implies_true, and_self, ne_eq, false_and, and_false, or_false, false_or, true_or, or_true]
      exact fin 1 M3 (by omega) c3 (T2.st A3 X9 h3) B3
    rw [if_neg c3] at h3
    obtain ⟨rfl, h3⟩ := h3
    simp (disch := omega) only [q_aload0, q_aload0N, q_get_i, pTag_1, pRf_s, q_iconst, q_ic_eq, q_iret, q_invv0, inv_1, q_ic_ge, q_invv1, q_bipush, q_invs3_20, q_if_eq, q_sipush, q_invv2, q_ldc_s, q_goto, q_nop, q_istore1, q_iload1, q_ic_ne, q_get_r, q_iald, e_71_0, e_71_1, L_0, L_1, L_2, L_3, L_4, L_5, L_48, L_57, L_999, k_some, k_none, pRm_i, pRm_r, pRm_0, pF_1, pF_2, inv_s, zb_0, zb_1, nN_le, nN_lt, nN_eq, nN_add, nN_mul, nN_lt0, nN_ge0, nN_gt0, nN_le0, nN_eq0, nN_eq1, nN_neN, pIn_n, pIx_n, eq_self, Nat.reduceLT, Bool.false_eq_true, Nat.add_zero, Nat.zero_add, Nat.reduceAdd, Nat.reduceMul, Nat.reduceSub, Nat.zero_le, Nat.reduceLeDiff, Nat.reduceEqDiff, Nat.le_refl, not_false_eq_true, not_true_eq_false, false_implies, true_implies, forall_const, true_and, and_true, if_true, if_false, implies_true, and_self, ne_eq, false_and, and_false, or_false, false_or, true_or, or_true]
    have T3 := T2.st A3 X9 h3
    rw [e_71_4]
    simp (disch := omega) only [q_aload0, q_aload0N, q_get_i, pTag_1, pRf_s, q_iconst, q_ic_eq, q_iret, q_invv0, inv_1, q_ic_ge, q_invv1, q_bipush, q_invs3_20, q_if_eq, q_sipush, q_invv2, q_ldc_s, q_goto, q_nop, q_istore1, q_iload1, q_ic_ne, q_get_r, q_iald, e_71_0, e_71_1, L_0, L_1, L_2, L_3, L_4, L_5, L_48, L_57, L_999, k_some, k_none, pRm_i, pRm_r, pRm_0, pF_1, pF_2, inv_s, T3.sd.sh.k0, nN_le, nN_lt, nN_eq, nN_add, nN_mul, nN_lt0, nN_ge0, nN_gt0, nN_le0, nN_eq0, nN_eq1, nN_neN, pIn_n, pIx_n, eq_self, Nat.reduceLT, Bool.false_eq_true, Nat.add_zero, Nat.zero_add, Nat.reduceAdd, Nat.reduceMul, Nat.reduceSub, Nat.zero_le, Nat.reduceLeDiff, Nat.reduceEqDiff, Nat.le_refl, not_false_eq_true, not_true_eq_false, false_implies, true_implies, forall_const, true_and, and_true, if_true, if_false, implies_true, and_self, ne_eq, false_and, and_false, or_false, false_or, true_or, or_true]
    refine mw_mono (w_hasT (i := 2) T3.sd (by omega) rfl) ?_
    rintro o4 M4 ⟨h4, A4⟩
    have B4 : Ag (MdY u) M M4 := B3.trans (A4.mono Y9)
    by_cases c4 : th tW n b p = 1000 + 2
    · rw [if_pos c4] at h4
      obtain ⟨rfl, h4⟩ := h4
      simp (disch := omega) only [q_aload0, q_aload0N, q_get_i, pTag_1, pRf_s, q_iconst, q_ic_eq, q_iret, q_invv0, inv_1, q_ic_ge, q_invv1, q_bipush, q_invs3_20, q_if_eq, q_sipush, q_invv2, q_ldc_s, q_goto, q_nop, q_istore1, q_iload1, q_ic_ne, q_get_r, q_iald, e_71_0, e_71_1, L_0, L_1, L_2, L_3, L_4, L_5, L_48, L_57, L_999, k_some, k_none, pRm_i, pRm_r, pRm_0, pF_1, pF_2, inv_s, zb_0, zb_1, nN_le, nN_lt, nN_eq, nN_add, nN_mul, nN_lt0, nN_ge0, nN_gt0, nN_le0, nN_eq0, nN_eq1, nN_neN, pIn_n, pIx_n, eq_self, Nat.reduceLT, Bool.false_eq_true, Nat.add_zero, Nat.zero_add, Nat.reduceAdd, Nat.reduceMul, Nat.reduceSub, Nat.zero_le, Nat.reduceLeDiff, Nat.reduceEqDiff, Nat.le_refl, not_false_eq_true, not_true_eq_false, false_implies, true_implies, forall_const, true_and, and_true, if_true, if_false, implies_true, and_self, ne_eq, false_and, and_false, or_false, false_or, true_or, or_true]
      exact fin 2 M4 (by omega) c4 (T3.st A4 X9 h4) B4
    rw [if_neg c4] at h4
    obtain ⟨rfl, h4⟩ := h4
    simp (disch := omega) only [q_aload0, q_aload0N, q_get_i, pTag_1, pRf_s, q_iconst, q_ic_eq, q_iret, q_invv0, inv_1, q_ic_ge, q_invv1, q_bipush, q_invs3_20, q_if_eq, q_sipush, q_invv2, q_ldc_s, q_goto, q_nop, q_istore1, q_iload1, q_ic_ne, q_get_r, q_iald, e_71_0, e_71_1, L_0, L_1, L_2, L_3, L_4, L_5, L_48, L_57, L_999, k_some, k_none, pRm_i, pRm_r, pRm_0, pF_1, pF_2, inv_s, zb_0, zb_1, nN_le, nN_lt, nN_eq, nN_add, nN_mul, nN_lt0, nN_ge0, nN_gt0, nN_le0, nN_eq0, nN_eq1, nN_neN, pIn_n, pIx_n, eq_self, Nat.reduceLT, Bool.false_eq_true, Nat.add_zero, Nat.zero_add, Nat.reduceAdd, Nat.reduceMul, Nat.reduceSub, Nat.zero_le, Nat.reduceLeDiff, Nat.reduceEqDiff, Nat.le_refl, not_false_eq_true, not_true_eq_false, false_implies, true_implies, forall_const, true_and, and_true, if_true, if_false, implies_true, and_self, ne_eq, false_and, and_false, or_false, false_or, true_or, or_true]
    have T4 := T3.st A4 X9 h4
    rw [e_71_5]
    simp (disch := omega) only [q_aload0, q_aload0N, q_get_i, pTag_1, pRf_s, q_iconst, q_ic_eq, q_iret, q_invv0, inv_1, q_ic_ge, q_invv1, q_bipush, q_invs3_20, q_if_eq, q_sipush, q_invv2, q_ldc_s, q_goto, q_nop, q_istore1, q_iload1, q_ic_ne, q_get_r, q_iald, e_71_0, e_71_1, L_0, L_1, L_2, L_3, L_4, L_5, L_48, L_57, L_999, k_some, k_none, pRm_i, pRm_r, pRm_0, pF_1, pF_2, inv_s, T4.sd.sh.k0, nN_le, nN_lt, nN_eq, nN_add, nN_mul, nN_lt0, nN_ge0, nN_gt0, nN_le0, nN_eq0, nN_eq1, nN_neN, pIn_n, pIx_n, eq_self, Nat.reduceLT, Bool.false_eq_true, Nat.add_zero, Nat.zero_add, Nat.reduceAdd, Nat.reduceMul, Nat.reduceSub, Nat.zero_le, Nat.reduceLeDiff, Nat.reduceEqDiff, Nat.le_refl, not_false_eq_true, not_true_eq_false, false_implies, true_implies, forall_const, true_and, and_true, if_true, if_false, implies_true, and_self, ne_eq, false_and, and_false, or_false, false_or, true_or, or_true]
    refine mw_mono (w_hasT (i := 3) T4.sd (by omega) rfl) ?_
    rintro o5 M5 ⟨h5, A5⟩
    have B5 : Ag (MdY u) M M5 := B4.trans (A5.mono Y9)
    by_cases c5 : th tW n b p = 1000 + 3
    · rw [if_pos c5] at h5
      obtain ⟨rfl, h5⟩ := h5
      simp (disch := omega) only [q_aload0, q_aload0N, q_get_i, pTag_1, pRf_s, q_iconst, q_ic_eq, q_iret, q_invv0, inv_1, q_ic_ge, q_invv1, q_bipush, q_invs3_20, q_if_eq, q_sipush, q_invv2, q_ldc_s, q_goto, q_nop, q_istore1, q_iload1, q_ic_ne, q_get_r, q_iald, e_71_0, e_71_1, L_0, L_1, L_2, L_3, L_4, L_5, L_48, L_57, L_999, k_some, k_none, pRm_i, pRm_r, pRm_0, pF_1, pF_2, inv_s, zb_0, zb_1, nN_le, nN_lt, nN_eq, nN_add, nN_mul, nN_lt0, nN_ge0, nN_gt0, nN_le0, nN_eq0, nN_eq1, nN_neN, pIn_n, pIx_n, eq_self, Nat.reduceLT, Bool.false_eq_true, Nat.add_zero, Nat.zero_add, Nat.reduceAdd, Nat.reduceMul, Nat.reduceSub, Nat.zero_le, Nat.reduceLeDiff, Nat.reduceEqDiff, Nat.le_refl, not_false_eq_true, not_true_eq_false, false_implies, true_implies, forall_const, true_and, and_true, if_true, if_false, implies_true, and_self, ne_eq, false_and, and_false, or_false, false_or, true_or, or_true]
      exact fin 3 M5 (by omega) c5 (T4.st A5 X9 h5) B5
    rw [if_neg c5] at h5
    obtain ⟨rfl, h5⟩ := h5
    simp (disch := omega) only [q_aload0, q_aload0N, q_get_i, pTag_1, pRf_s, q_iconst, q_ic_eq, q_iret, q_invv0, inv_1, q_ic_ge, q_invv1, q_bipush, q_invs3_20, q_if_eq, q_sipush, q_invv2, q_ldc_s, q_goto, q_nop, q_istore1, q_iload1, q_ic_ne, q_get_r, q_iald, e_71_0, e_71_1, L_0, L_1, L_2, L_3, L_4, L_5, L_48, L_57, L_999, k_some, k_none, pRm_i, pRm_r, pRm_0, pF_1, pF_2, inv_s, zb_0, zb_1, nN_le, nN_lt, nN_eq, nN_add, nN_mul, nN_lt0, nN_ge0, nN_gt0, nN_le0, nN_eq0, nN_eq1, nN_neN, pIn_n, pIx_n, eq_self, Nat.reduceLT, Bool.false_eq_true, Nat.add_zero, Nat.zero_add, Nat.reduceAdd, Nat.reduceMul, Nat.reduceSub, Nat.zero_le, Nat.reduceLeDiff, Nat.reduceEqDiff, Nat.le_refl, not_false_eq_true, not_true_eq_false, false_implies, true_implies, forall_const, true_and, and_true, if_true, if_false, implies_true, and_self, ne_eq, false_and, and_false, or_false, false_or, true_or, or_true]
    have T5 := T4.st A5 X9 h5
    rw [e_71_6]
    simp (disch := omega) only [q_aload0, q_aload0N, q_get_i, pTag_1, pRf_s, q_iconst, q_ic_eq, q_iret, q_invv0, inv_1, q_ic_ge, q_invv1, q_bipush, q_invs3_20, q_if_eq, q_sipush, q_invv2, q_ldc_s, q_goto, q_nop, q_istore1, q_iload1, q_ic_ne, q_get_r, q_iald, e_71_0, e_71_1, L_0, L_1, L_2, L_3, L_4, L_5, L_48, L_57, L_999, k_some, k_none, pRm_i, pRm_r, pRm_0, pF_1, pF_2, inv_s, T5.sd.sh.k0, nN_le, nN_lt, nN_eq, nN_add, nN_mul, nN_lt0, nN_ge0, nN_gt0, nN_le0, nN_eq0, nN_eq1, nN_neN, pIn_n, pIx_n, eq_self, Nat.reduceLT, Bool.false_eq_true, Nat.add_zero, Nat.zero_add, Nat.reduceAdd, Nat.reduceMul, Nat.reduceSub, Nat.zero_le, Nat.reduceLeDiff, Nat.reduceEqDiff, Nat.le_refl, not_false_eq_true, not_true_eq_false, false_implies, true_implies, forall_const, true_and, and_true, if_true, if_false, implies_true, and_self, ne_eq, false_and, and_false, or_false, false_or, true_or, or_true]
    refine mw_mono (w_hasT (i := 4) T5.sd (by omega) rfl) ?_
    rintro o6 M6 ⟨h6, A6⟩
    have B6 : Ag (MdY u) M M6 := B5.trans (A6.mono Y9)
    by_cases c6 : th tW n b p = 1000 + 4
    · rw [if_pos c6] at h6
      obtain ⟨rfl, h6⟩ := h6
      simp (disch := omega) only [q_aload0, q_aload0N, q_get_i, pTag_1, pRf_s, q_iconst, q_ic_eq, q_iret, q_invv0, inv_1, q_ic_ge, q_invv1, q_bipush, q_invs3_20, q_if_eq, q_sipush, q_invv2, q_ldc_s, q_goto, q_nop, q_istore1, q_iload1, q_ic_ne, q_get_r, q_iald, e_71_0, e_71_1, L_0, L_1, L_2, L_3, L_4, L_5, L_48, L_57, L_999, k_some, k_none, pRm_i, pRm_r, pRm_0, pF_1, pF_2, inv_s, zb_0, zb_1, nN_le, nN_lt, nN_eq, nN_add, nN_mul, nN_lt0, nN_ge0, nN_gt0, nN_le0, nN_eq0, nN_eq1, nN_neN, pIn_n, pIx_n, eq_self, Nat.reduceLT, Bool.false_eq_true, Nat.add_zero, Nat.zero_add, Nat.reduceAdd, Nat.reduceMul, Nat.reduceSub, Nat.zero_le, Nat.reduceLeDiff, Nat.reduceEqDiff, Nat.le_refl, not_false_eq_true, not_true_eq_false, false_implies, true_implies, forall_const, true_and, and_true, if_true, if_false, implies_true, and_self, ne_eq, false_and, and_false, or_false, false_or, true_or, or_true]
      exact fin 4 M6 (by omega) c6 (T5.st A6 X9 h6) B6
    rw [if_neg c6] at h6
    obtain ⟨rfl, h6⟩ := h6
    simp (disch := omega) only [q_aload0, q_aload0N, q_get_i, pTag_1, pRf_s, q_iconst, q_ic_eq, q_iret, q_invv0, inv_1, q_ic_ge, q_invv1, q_bipush, q_invs3_20, q_if_eq, q_sipush, q_invv2, q_ldc_s, q_goto, q_nop, q_istore1, q_iload1, q_ic_ne, q_get_r, q_iald, e_71_0, e_71_1, L_0, L_1, L_2, L_3, L_4, L_5, L_48, L_57, L_999, k_some, k_none, pRm_i, pRm_r, pRm_0, pF_1, pF_2, inv_s, zb_0, zb_1, nN_le, nN_lt, nN_eq, nN_add, nN_mul, nN_lt0, nN_ge0, nN_gt0, nN_le0, nN_eq0, nN_eq1, nN_neN, pIn_n, pIx_n, eq_self, Nat.reduceLT, Bool.false_eq_true, Nat.add_zero, Nat.zero_add, Nat.reduceAdd, Nat.reduceMul, Nat.reduceSub, Nat.zero_le, Nat.reduceLeDiff, Nat.reduceEqDiff, Nat.le_refl, not_false_eq_true, not_true_eq_false, false_implies, true_implies, forall_const, true_and, and_true, if_true, if_false, implies_true, and_self, ne_eq, false_and, and_false, or_false, false_or, true_or, or_true]
    have T6 := T5.st A6 X9 h6
    rw [e_71_7]
    simp (disch := omega) only [q_aload0, q_aload0N, q_get_i, pTag_1, pRf_s, q_iconst, q_ic_eq, q_iret, q_invv0, inv_1, q_ic_ge, q_invv1, q_bipush, q_invs3_20, q_if_eq, q_sipush, q_invv2, q_ldc_s, q_goto, q_nop, q_istore1, q_iload1, q_ic_ne, q_get_r, q_iald, e_71_0, e_71_1, L_0, L_1, L_2, L_3, L_4, L_5, L_48, L_57, L_999, k_some, k_none, pRm_i, pRm_r, pRm_0, pF_1, pF_2, inv_s, T6.sd.sh.k0, nN_le, nN_lt, nN_eq, nN_add, nN_mul, nN_lt0, nN_ge0, nN_gt0, nN_le0, nN_eq0, nN_eq1, nN_neN, pIn_n, pIx_n, eq_self, Nat.reduceLT, Bool.false_eq_true, Nat.add_zero, Nat.zero_add, Nat.reduceAdd, Nat.reduceMul, Nat.reduceSub, Nat.zero_le, Nat.reduceLeDiff, Nat.reduceEqDiff, Nat.le_refl, not_false_eq_true, not_true_eq_false, false_implies, true_implies, forall_const, true_and, and_true, if_true, if_false, implies_true, and_self, ne_eq, false_and, and_false, or_false, false_or, true_or, or_true]
    refine mw_mono (w_hasT (i := 5) T6.sd (by omega) rfl) ?_
    rintro o7 M7 ⟨h7, A7⟩
    have B7 : Ag (MdY u) M M7 := B6.trans (A7.mono Y9)
    by_cases c7 : th tW n b p = 1000 + 5
    · rw [if_pos c7] at h7
      obtain ⟨rfl, h7⟩ := h7
      simp (disch := omega) only [q_aload0, q_aload0N, q_get_i, pTag_1, pRf_s, q_iconst, q_ic_eq, q_iret, q_invv0, inv_1, q_ic_ge, q_invv1, q_bipush, q_invs3_20, q_if_eq, q_sipush, q_invv2, q_ldc_s, q_goto, q_nop, q_istore1, q_iload1, q_ic_ne, q_get_r, q_iald, e_71_0, e_71_1, L_0, L_1, L_2, L_3, L_4, L_5, L_48, L_57, L_999, k_some, k_none, pRm_i, pRm_r, pRm_0, pF_1, pF_2, inv_s, zb_0, zb_1, nN_le, nN_lt, nN_eq, nN_add, nN_mul, nN_lt0, nN_ge0, nN_gt0, nN_le0, nN_eq0, nN_eq1, nN_neN, pIn_n, pIx_n, eq_self, Nat.reduceLT, Bool.false_eq_true, Nat.add_zero, Nat.zero_add, Nat.reduceAdd, Nat.reduceMul, Nat.reduceSub, Nat.zero_le, Nat.reduceLeDiff, Nat.reduceEqDiff, Nat.le_refl, not_false_eq_true, not_true_eq_false, false_implies, true_implies, forall_const, true_and, and_true, if_true, if_false, implies_true, and_self, ne_eq, false_and, and_false, or_false, false_or, true_or, or_true]
      exact fin 5 M7 (by omega) c7 (T6.st A7 X9 h7) B7
    rw [if_neg c7] at h7
    obtain ⟨rfl, h7⟩ := h7
    simp (disch := omega) only [q_aload0, q_aload0N, q_get_i, pTag_1, pRf_s, q_iconst, q_ic_eq, q_iret, q_invv0, inv_1, q_ic_ge, q_invv1, q_bipush, q_invs3_20, q_if_eq, q_sipush, q_invv2, q_ldc_s, q_goto, q_nop, q_istore1, q_iload1, q_ic_ne, q_get_r, q_iald, e_71_0, e_71_1, L_0, L_1, L_2, L_3, L_4, L_5, L_48, L_57, L_999, k_some, k_none, pRm_i, pRm_r, pRm_0, pF_1, pF_2, inv_s, zb_0, zb_1, nN_le, nN_lt, nN_eq, nN_add, nN_mul, nN_lt0, nN_ge0, nN_gt0, nN_le0, nN_eq0, nN_eq1, nN_neN, pIn_n, pIx_n, eq_self, Nat.reduceLT, Bool.false_eq_true, Nat.add_zero, Nat.zero_add, Nat.reduceAdd, Nat.reduceMul, Nat.reduceSub, Nat.zero_le, Nat.reduceLeDiff, Nat.reduceEqDiff, Nat.le_refl, not_false_eq_true, not_true_eq_false, false_implies, true_implies, forall_const, true_and, and_true, if_true, if_false, implies_true, and_self, ne_eq, false_and, and_false, or_false, false_or, true_or, or_true]
    have T7 := T6.st A7 X9 h7
    rw [e_71_8]
    simp (disch := omega) only [q_aload0, q_aload0N, q_get_i, pTag_1, pRf_s, q_iconst, q_ic_eq, q_iret, q_invv0, inv_1, q_ic_ge, q_invv1, q_bipush, q_invs3_20, q_if_eq, q_sipush, q_invv2, q_ldc_s, q_goto, q_nop, q_istore1, q_iload1, q_ic_ne, q_get_r, q_iald, e_71_0, e_71_1, e_71_8, e_71_9, L_0, L_1, L_2, L_3, L_4, L_5, L_48, L_57, L_999, k_some, k_none, pRm_i, pRm_r, pRm_0, pF_1, pF_2, inv_s, T7.sd.sh.k0, T7.sd.aq, nN_le, nN_lt, nN_eq, nN_add, nN_mul, nN_lt0, nN_ge0, nN_gt0, nN_le0, nN_eq0, nN_eq1, nN_neN, pIn_n, pIx_n, eq_self, Nat.reduceLT, Bool.false_eq_true, Nat.add_zero, Nat.zero_add, Nat.reduceAdd, Nat.reduceMul, Nat.reduceSub, Nat.zero_le, Nat.reduceLeDiff, Nat.reduceEqDiff, Nat.le_refl, not_false_eq_true, not_true_eq_false, false_implies, true_implies, forall_const, true_and, and_true, if_true, if_false, implies_true, and_self, ne_eq, false_and, and_false, or_false, false_or, true_or, or_true]
    refine mw_mono (w_wrongM T7.sd.sh T7.sd.ft) ?_
    rintro _ M8 ⟨rfl, h8, A8⟩
    simp (disch := omega) only [q_aload0, q_aload0N, q_get_i, pTag_1, pRf_s, q_iconst, q_ic_eq, q_iret, q_invv0, inv_1, q_ic_ge, q_invv1, q_bipush, q_invs3_20, q_if_eq, q_sipush, q_invv2, q_ldc_s, q_goto, q_nop, q_istore1, q_iload1, q_ic_ne, q_get_r, q_iald, e_71_0, e_71_1, e_71_9, L_0, L_1, L_2, L_3, L_4, L_5, L_48, L_57, L_999, k_some, k_none, pRm_i, pRm_r, pRm_0, pF_1, pF_2, inv_s, eq_self, Nat.reduceLT, Bool.false_eq_true, Nat.add_zero, Nat.zero_add, Nat.reduceAdd, Nat.reduceMul, Nat.reduceSub, Nat.zero_le, Nat.reduceLeDiff, Nat.reduceEqDiff, Nat.le_refl, not_false_eq_true, not_true_eq_false, false_implies, true_implies, forall_const, true_and, and_true, if_true, if_false, implies_true, and_self, ne_eq, false_and, and_false, or_false, false_or, true_or, or_true]
    have e : pPart (th tW n b) (nx9 n b) p = .inl p := by
      unfold pPart
      rw [if_neg (by omega), if_neg (by omega)]
    rw [e]
    exact ⟨⟨⟨_, rfl⟩, h8, by omega, p, by omega, by rw [A8.I (by omega)]; exact T7.sd.aq⟩, B7.trans (A8.mono fun h k z => ⟨z.1, Or.inr (Or.inl z.2)⟩)⟩
  by_cases c1 : n ≤ p
  · simp (disch := omega) only [q_aload0, q_aload0N, q_get_i, pTag_1, pRf_s, q_iconst, q_ic_eq, q_iret, q_invv0, inv_1, q_ic_ge, q_invv1, q_bipush, q_invs3_20, q_if_eq, q_sipush, q_invv2, q_ldc_s, q_goto, q_nop, q_istore1, q_iload1, q_ic_ne, q_get_r, q_iald, e_71_0, e_71_1, L_0, L_1, L_2, L_3, L_4, L_5, L_48, L_57, L_999, k_some, k_none, pRm_i, pRm_r, pRm_0, pF_1, pF_2, inv_s, h1.sh.k0, h1.aq, h1.en, c1, nN_le, nN_lt, nN_eq, nN_add, nN_mul, nN_lt0, nN_ge0, nN_gt0, nN_le0, nN_eq0, nN_eq1, nN_neN, pIn_n, pIx_n, eq_self, Nat.reduceLT, Bool.false_eq_true, Nat.add_zero, Nat.zero_add, Nat.reduceAdd, Nat.reduceMul, Nat.reduceSub, Nat.zero_le, Nat.reduceLeDiff, Nat.reduceEqDiff, Nat.le_refl, not_false_eq_true, not_true_eq_false, false_implies, true_implies, forall_const, true_and, and_true, if_true, if_false, implies_true, and_self, ne_eq, false_and, and_false, or_false, false_or, true_or, or_true]
    exact wrd (by rw [th_3000 c1]; omega)
  · have hb9 := h1.b9 p
    have hp : p < n := by omega
    have hW : tW.length < 100 := by decide
    by_cases c2 : 48 ≤ b p ∧ b p ≤ 57
    · have c3 := c2.1
      have c4 := c2.2
      have hk : kd (b p) = 2 := by rw [kd_2e]; exact c2
      simp (disch := omega) only [q_aload0, q_aload0N, q_get_i, pTag_1, pRf_s, q_iconst, q_ic_eq, q_iret, q_invv0, inv_1, q_ic_ge, q_invv1, q_bipush, q_invs3_20, q_if_eq, q_sipush, q_invv2, q_ldc_s, q_goto, q_nop, q_istore1, q_iload1, q_ic_ne, q_get_r, q_iald, e_71_0, e_71_1, L_0, L_1, L_2, L_3, L_4, L_5, L_48, L_57, L_999, k_some, k_none, pRm_i, pRm_r, pRm_0, pF_1, pF_2, inv_s, h1.sh.k0, h1.aq, h1.en, w_letter h1.sh h1.lt, w_isIn, bI_eq0, c1, c3, c4, nN_le, nN_lt, nN_eq, nN_add, nN_mul, nN_lt0, nN_ge0, nN_gt0, nN_le0, nN_eq0, nN_eq1, nN_neN, pIn_n, pIx_n, eq_self, Nat.reduceLT, Bool.false_eq_true, Nat.add_zero, Nat.zero_add, Nat.reduceAdd, Nat.reduceMul, Nat.reduceSub, Nat.zero_le, Nat.reduceLeDiff, Nat.reduceEqDiff, Nat.le_refl, not_false_eq_true, not_true_eq_false, false_implies, true_implies, forall_const, true_and, and_true, if_true, if_false, implies_true, and_self, ne_eq, false_and, and_false, or_false, false_or, true_or, or_true]
      refine mw_mono (w_figures (W := tW) (lo := 0) (c := 1000) h1 hW (by omega) (fun v hv => by rw [nN_le (by omega) (by omega)]; exact propext ⟨fun z => by omega, fun z => by omega⟩) (by omega)) ?_
      rintro o M2 ⟨h2, A2⟩
      have A12 : Ag (MdY u) M M2 := (A1.mono Y9).trans (A2.mono fun h k z => ⟨z.1, z.2.elim Or.inl fun z => Or.inr (Or.inl z)⟩)
      unfold pPart
      rcases h2 with ⟨g1, rfl, g3⟩ | ⟨g1, ⟨v, rfl⟩, g3, q9, g4, g5⟩
      · rw [if_pos (by omega)]
        simp (disch := omega) only [q_aload0, q_aload0N, q_get_i, pTag_1, pRf_s, q_iconst, q_ic_eq, q_iret, q_invv0, inv_1, q_ic_ge, q_invv1, q_bipush, q_invs3_20, q_if_eq, q_sipush, q_invv2, q_ldc_s, q_goto, q_nop, q_istore1, q_iload1, q_ic_ne, q_get_r, q_iald, e_71_0, e_71_1, L_0, L_1, L_2, L_3, L_4, L_5, L_48, L_57, L_999, k_some, k_none, pRm_i, pRm_r, pRm_0, pF_1, pF_2, inv_s, eq_self, Nat.reduceLT, Bool.false_eq_true, Nat.add_zero, Nat.zero_add, Nat.reduceAdd, Nat.reduceMul, Nat.reduceSub, Nat.zero_le, Nat.reduceLeDiff, Nat.reduceEqDiff, Nat.le_refl, not_false_eq_true, not_true_eq_false, false_implies, true_implies, forall_const, true_and, and_true, if_true, if_false, implies_true, and_self, ne_eq, false_and, and_false, or_false, false_or, true_or, or_true]
        exact ⟨⟨rfl, te n b p, T1.st A2 (fun h k z => z) g3⟩, A12⟩
      · rcases th_kinds (b := b) hW hp with ⟨z1, z2⟩ | ⟨z1, z2⟩ | ⟨z1, z2, -⟩
        · omega
        · rw [if_neg (by omega), if_neg (by omega)]
          simp (disch := omega) only [q_aload0, q_aload0N, q_get_i, pTag_1, pRf_s, q_iconst, q_ic_eq, q_iret, q_invv0, inv_1, q_ic_ge, q_invv1, q_bipush, q_invs3_20, q_if_eq, q_sipush, q_invv2, q_ldc_s, q_goto, q_nop, q_istore1, q_iload1, q_ic_ne, q_get_r, q_iald, e_71_0, e_71_1, L_0, L_1, L_2, L_3, L_4, L_5, L_48, L_57, L_999, k_some, k_none, pRm_i, pRm_r, pRm_0, pF_1, pF_2, inv_s, eq_self, Nat.reduceLT, Bool.false_eq_true, Nat.add_zero, Nat.zero_add, Nat.reduceAdd, Nat.reduceMul, Nat.reduceSub, Nat.zero_le, Nat.reduceLeDiff, Nat.reduceEqDiff, Nat.le_refl, not_false_eq_true, not_true_eq_false, false_implies, true_implies, forall_const, true_and, and_true, if_true, if_false, implies_true, and_self, ne_eq, false_and, and_false, or_false, false_or, true_or, or_true]
          exact ⟨⟨⟨v, rfl⟩, g3, by omega, q9, by omega, g5⟩, A12⟩
        · omega
    · have hk : ¬ kd (b p) = 2 := by rw [kd_2e]; exact c2
      simp (disch := omega) only [q_aload0, q_aload0N, q_get_i, pTag_1, pRf_s, q_iconst, q_ic_eq, q_iret, q_invv0, inv_1, q_ic_ge, q_invv1, q_bipush, q_invs3_20, q_if_eq, q_sipush, q_invv2, q_ldc_s, q_goto, q_nop, q_istore1, q_iload1, q_ic_ne, q_get_r, q_iald, e_71_0, e_71_1, L_0, L_1, L_2, L_3, L_4, L_5, L_48, L_57, L_999, k_some, k_none, pRm_i, pRm_r, pRm_0, pF_1, pF_2, inv_s, h1.sh.k0, h1.aq, h1.en, w_letter h1.sh h1.lt, w_isIn, bI_eq0, c1, c2, nN_le, nN_lt, nN_eq, nN_add, nN_mul, nN_lt0, nN_ge0, nN_gt0, nN_le0, nN_eq0, nN_eq1, nN_neN, pIn_n, pIx_n, eq_self, Nat.reduceLT, Bool.false_eq_true, Nat.add_zero, Nat.zero_add, Nat.reduceAdd, Nat.reduceMul, Nat.reduceSub, Nat.zero_le, Nat.reduceLeDiff, Nat.reduceEqDiff, Nat.le_refl, not_false_eq_true, not_true_eq_false, false_implies, true_implies, forall_const, true_and, and_true, if_true, if_false, implies_true, and_self, ne_eq, false_and, and_false, or_false, false_or, true_or, or_true]
      refine wrd ?_
      rcases th_kinds (b := b) hW hp with ⟨z1, z2⟩ | ⟨z1, z2⟩ | ⟨z1, z2, z3, z4⟩
      · omega
      · exact absurd z1 hk
      · have := wixF_ge (x := tx n b p) tW 1000 (by omega)
        omega
end PM
