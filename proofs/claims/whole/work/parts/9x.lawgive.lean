/-! THE LAW: give; all calls -/
section LWG
variable {n n' p q f g m K dd k e L G0 j : Nat} {xs : Nat → Int32} {b b' : Nat → Nat} {a a' ak ak' : Nat → Int32} {img img' fc : Bool} {fl fl' : Int32} {M M1 M2 M' : pMem} {x y z v w : Int32} {z5 z6 : Option Value} {Q : pOut → pMem → Prop}
theorem B_give (h : LI L xs G0 j M) (hL : L ≤ 3072) (hj : 6 * j + 6 ≤ L) (go : ∀ M' z5 z6, LI L xs G0 (j + 1) M' → bw 101 279 98 ([some (.ref 900000), some (.ref 0), some (.ref 86), some (.ref 100), some (.int (nN (6 * j))), z5, z6], [], M') Q) : bw 101 279 14 ([some (.ref 900000), some (.ref 0), some (.ref 86), some (.ref 100), some (.int (nN (6 * j))), z5, z6], [], M) Q := by
  have hI := h
  obtain ⟨⟨a, ak, img, n, b, fl, S⟩, ⟨h1, h2⟩, h3, h4, h5⟩ := h
  have l1 : 6 * j + 1 < L := by omega
  have l2 : 6 * j + 2 < L := by omega
  have l3 : 6 * j + 3 < L := by omega
  have l4 : 6 * j + 4 < L := by omega
  have l5 : 6 * j + 5 < L := by omega
  have s0 := S.ci.sh.k0
  have P := fun fc => P_give (fc := fc) (x := xs (6 * j + 1)) (y := xs (6 * j + 2)) (z := xs (6 * j + 3)) (v := xs (6 * j + 4)) S
  have b1 : bI (true = true) = nN 1 := (bI_t rfl).symm
  have b0 : bI (false = true) = nN 0 := (bI_f (by simp)).symm
  rw [e_279_14]
  by_cases c5 : xs (6 * j + 5) = 0
  · obtain ⟨k, v, a', ak', img', n', b', fl', C, T, G⟩ := P false
    rw [b0] at C T
    simp (disch := omega) only [q_aload1, q_aload1N, q_aload0, q_aload0N, q_iload4, q_iconst, q_iadd, q_iald, q_if_eq, q_goto, q_nop, q_aload3, q_aload3N, q_invs7_22, q_istore5, q_aload2, q_aload2N, e_279_14, e_279_15, e_279_16, L_0, L_1, L_2, L_3, L_4, L_5, k_some, k_none, pRm_i, pRm_r, pRm_0, pF_1, pF_2, inv_s, c5, h4, h5, l1, l2, l3, l4, l5, pIn_n, pIx_n, nN_add, eq_self, Nat.reduceLT, Bool.false_eq_true, Nat.add_zero, Nat.zero_add, Nat.reduceAdd, Nat.reduceMul, Nat.reduceSub, Nat.zero_le, Nat.reduceLeDiff, Nat.reduceEqDiff, Nat.le_refl, not_false_eq_true, not_true_eq_false, false_implies, true_implies, forall_const, true_and, and_true, if_true, if_false, implies_true, and_self, ne_eq, false_and, and_false, or_false, false_or, true_or, or_true]
    refine mw_mono (mw_bm (X_give s0 h3 C) S.bm) ?_
    rintro _ M1 ⟨⟨rfl, kb, hv, c, q⟩, B1⟩
    have m1 := S.mi.mf q.1
    have t0 : gS M1 86 = (12, 0) := m1.mr.1.k0
    have t4 : gS M1 900000 = (103, L) := by rw [q.1.2.2 900000 (Or.inr (by omega))]; exact h4
    have t5 : ∀ k, gI M1 900000 k = xs k := fun k => by rw [q.1.1 _ _ (Or.inr rfl)]; exact h5 k
    simp (disch := omega) only [q_aload3, q_aload3N, q_invs7_22, q_istore5, q_aload2, q_aload2N, q_aload0, q_aload0N, q_iload4, q_iconst, q_iadd, q_iald, q_if_eq, q_goto, q_nop, q_invv5, inv_1, q_istore6, q_invv0, q_iload5, q_ic_eq, q_zret, e_279_16, e_279_17, e_279_18, L_0, L_1, L_2, L_3, L_4, L_5, k_some, k_none, pRm_i, pRm_r, pRm_0, pF_1, pF_2, inv_s, c5, t0, t4, t5, l1, l2, l3, l4, l5, pIn_n, pIx_n, nN_add, eq_self, Nat.reduceLT, Bool.false_eq_true, Nat.add_zero, Nat.zero_add, Nat.reduceAdd, Nat.reduceMul, Nat.reduceSub, Nat.zero_le, Nat.reduceLeDiff, Nat.reduceEqDiff, Nat.le_refl, not_false_eq_true, not_true_eq_false, false_implies, true_implies, forall_const, true_and, and_true, if_true, if_false, implies_true, and_self, ne_eq, false_and, and_false, or_false, false_or, true_or, or_true]
    refine mw_mono (mw_bm (T M1 m1 B1) B1) ?_
    rintro o M2 ⟨⟨⟨⟨w, rfl, hw⟩, th⟩, m2, A2⟩, B2⟩
    have u0 : gS M2 86 = (12, 0) := m2.mr.1.k0
    have NN := LI.next hI (by omega) c q B1 m2 A2 B2 G
    simp (disch := omega) only [q_invv5, inv_1, q_istore6, q_aload2, q_aload2N, q_invv0, q_iload5, q_ic_eq, q_iconst, q_zret, e_279_18, L_0, k_some, k_none, pRm_i, pRm_r, pRm_0, pF_1, pF_2, inv_s, m_51, q_aload0, q_aload0N, q_get_i, pTag_1, pRf_s, q_iret, e_51_0, u0, th, eq_self, Nat.reduceLT, Bool.false_eq_true, Nat.add_zero, Nat.zero_add, Nat.reduceAdd, Nat.reduceMul, Nat.reduceSub, Nat.zero_le, Nat.reduceLeDiff, Nat.reduceEqDiff, Nat.le_refl, not_false_eq_true, not_true_eq_false, false_implies, true_implies, forall_const, true_and, and_true, if_true, if_false, implies_true, and_self, ne_eq, false_and, and_false, or_false, false_or, true_or, or_true]
    rw [e_279_19]
    by_cases k0 : k = 0
    · subst k0
      have hv := hv rfl
      have hw := hw rfl
      subst hw
      have u3 : gS M2 100 = (101, 1) := NN.2.2.1
      have gj : gJ M2 100 0 = w.toInt64 := by rw [A2.J]; exact hv
      simp (disch := omega) only [q_iload5, q_if_ne, q_aload3, q_aload3N, q_iconst, q_lald, q_iload6, q_i2l, q_lcmp, q_if_eq, q_zret, q_goto, e_279_19, e_279_20, L_0, u3, gj, lg_self, pIn_n, pIx_n, nN_le, nN_lt, nN_eq, nN_add, nN_mul, nN_lt0, nN_ge0, nN_gt0, nN_le0, nN_eq0, nN_eq1, nN_neN, pIn_n, pIx_n, eq_self, Nat.reduceLT, Bool.false_eq_true, Nat.add_zero, Nat.zero_add, Nat.reduceAdd, Nat.reduceMul, Nat.reduceSub, Nat.zero_le, Nat.reduceLeDiff, Nat.reduceEqDiff, Nat.le_refl, not_false_eq_true, not_true_eq_false, false_implies, true_implies, forall_const, true_and, and_true, if_true, if_false, implies_true, and_self, ne_eq, false_and, and_false, or_false, false_or, true_or, or_true]
      exact go M2 _ _ NN
    · have k1 : ¬ nN k = 0 := by rw [nN_eq0 (by omega)]; exact k0
      simp (disch := omega) only [q_iload5, q_if_ne, q_aload3, q_aload3N, q_iconst, q_lald, q_iload6, q_i2l, q_lcmp, q_if_eq, q_zret, q_goto, e_279_19, e_279_20, L_0, k1, eq_self, Nat.reduceLT, Bool.false_eq_true, Nat.add_zero, Nat.zero_add, Nat.reduceAdd, Nat.reduceMul, Nat.reduceSub, Nat.zero_le, Nat.reduceLeDiff, Nat.reduceEqDiff, Nat.le_refl, not_false_eq_true, not_true_eq_false, false_implies, true_implies, forall_const, true_and, and_true, if_true, if_false, implies_true, and_self, ne_eq, false_and, and_false, or_false, false_or, true_or, or_true]
      exact go M2 _ _ NN
  · obtain ⟨k, v, a', ak', img', n', b', fl', C, T, G⟩ := P true
    rw [b1] at C T
    simp (disch := omega) only [q_aload1, q_aload1N, q_aload0, q_aload0N, q_iload4, q_iconst, q_iadd, q_iald, q_if_eq, q_goto, q_nop, q_aload3, q_aload3N, q_invs7_22, q_istore5, q_aload2, q_aload2N, e_279_14, e_279_15, e_279_16, L_0, L_1, L_2, L_3, L_4, L_5, k_some, k_none, pRm_i, pRm_r, pRm_0, pF_1, pF_2, inv_s, c5, h4, h5, l1, l2, l3, l4, l5, pIn_n, pIx_n, nN_add, eq_self, Nat.reduceLT, Bool.false_eq_true, Nat.add_zero, Nat.zero_add, Nat.reduceAdd, Nat.reduceMul, Nat.reduceSub, Nat.zero_le, Nat.reduceLeDiff, Nat.reduceEqDiff, Nat.le_refl, not_false_eq_true, not_true_eq_false, false_implies, true_implies, forall_const, true_and, and_true, if_true, if_false, implies_true, and_self, ne_eq, false_and, and_false, or_false, false_or, true_or, or_true]
    refine mw_mono (mw_bm (X_give s0 h3 C) S.bm) ?_
    rintro _ M1 ⟨⟨rfl, kb, hv, c, q⟩, B1⟩
    have m1 := S.mi.mf q.1
    have t0 : gS M1 86 = (12, 0) := m1.mr.1.k0
    have t4 : gS M1 900000 = (103, L) := by rw [q.1.2.2 900000 (Or.inr (by omega))]; exact h4
    have t5 : ∀ k, gI M1 900000 k = xs k := fun k => by rw [q.1.1 _ _ (Or.inr rfl)]; exact h5 k
    simp (disch := omega) only [q_aload3, q_aload3N, q_invs7_22, q_istore5, q_aload2, q_aload2N, q_aload0, q_aload0N, q_iload4, q_iconst, q_iadd, q_iald, q_if_eq, q_goto, q_nop, q_invv5, inv_1, q_istore6, q_invv0, q_iload5, q_ic_eq, q_zret, e_279_16, e_279_17, e_279_18, L_0, L_1, L_2, L_3, L_4, L_5, k_some, k_none, pRm_i, pRm_r, pRm_0, pF_1, pF_2, inv_s, c5, t0, t4, t5, l1, l2, l3, l4, l5, pIn_n, pIx_n, nN_add, eq_self, Nat.reduceLT, Bool.false_eq_true, Nat.add_zero, Nat.zero_add, Nat.reduceAdd, Nat.reduceMul, Nat.reduceSub, Nat.zero_le, Nat.reduceLeDiff, Nat.reduceEqDiff, Nat.le_refl, not_false_eq_true, not_true_eq_false, false_implies, true_implies, forall_const, true_and, and_true, if_true, if_false, implies_true, and_self, ne_eq, false_and, and_false, or_false, false_or, true_or, or_true]
    refine mw_mono (mw_bm (T M1 m1 B1) B1) ?_
    rintro o M2 ⟨⟨⟨⟨w, rfl, hw⟩, th⟩, m2, A2⟩, B2⟩
    have u0 : gS M2 86 = (12, 0) := m2.mr.1.k0
    have NN := LI.next hI (by omega) c q B1 m2 A2 B2 G
    simp (disch := omega) only [q_invv5, inv_1, q_istore6, q_aload2, q_aload2N, q_invv0, q_iload5, q_ic_eq, q_iconst, q_zret, e_279_18, L_0, k_some, k_none, pRm_i, pRm_r, pRm_0, pF_1, pF_2, inv_s, m_51, q_aload0, q_aload0N, q_get_i, pTag_1, pRf_s, q_iret, e_51_0, u0, th, eq_self, Nat.reduceLT, Bool.false_eq_true, Nat.add_zero, Nat.zero_add, Nat.reduceAdd, Nat.reduceMul, Nat.reduceSub, Nat.zero_le, Nat.reduceLeDiff, Nat.reduceEqDiff, Nat.le_refl, not_false_eq_true, not_true_eq_false, false_implies, true_implies, forall_const, true_and, and_true, if_true, if_false, implies_true, and_self, ne_eq, false_and, and_false, or_false, false_or, true_or, or_true]
    rw [e_279_19]
    by_cases k0 : k = 0
    · subst k0
      have hv := hv rfl
      have hw := hw rfl
      subst hw
      have u3 : gS M2 100 = (101, 1) := NN.2.2.1
      have gj : gJ M2 100 0 = w.toInt64 := by rw [A2.J]; exact hv
      simp (disch := omega) only [q_iload5, q_if_ne, q_aload3, q_aload3N, q_iconst, q_lald, q_iload6, q_i2l, q_lcmp, q_if_eq, q_zret, q_goto, e_279_19, e_279_20, L_0, u3, gj, lg_self, pIn_n, pIx_n, nN_le, nN_lt, nN_eq, nN_add, nN_mul, nN_lt0, nN_ge0, nN_gt0, nN_le0, nN_eq0, nN_eq1, nN_neN, pIn_n, pIx_n, eq_self, Nat.reduceLT, Bool.false_eq_true, Nat.add_zero, Nat.zero_add, Nat.reduceAdd, Nat.reduceMul, Nat.reduceSub, Nat.zero_le, Nat.reduceLeDiff, Nat.reduceEqDiff, Nat.le_refl, not_false_eq_true, not_true_eq_false, false_implies, true_implies, forall_const, true_and, and_true, if_true, if_false, implies_true, and_self, ne_eq, false_and, and_false, or_false, false_or, true_or, or_true]
      exact go M2 _ _ NN
    · have k1 : ¬ nN k = 0 := by rw [nN_eq0 (by omega)]; exact k0
      simp (disch := omega) only [q_iload5, q_if_ne, q_aload3, q_aload3N, q_iconst, q_lald, q_iload6, q_i2l, q_lcmp, q_if_eq, q_zret, q_goto, e_279_19, e_279_20, L_0, k1, eq_self, Nat.reduceLT, Bool.false_eq_true, Nat.add_zero, Nat.zero_add, Nat.reduceAdd, Nat.reduceMul, Nat.reduceSub, Nat.zero_le, Nat.reduceLeDiff, Nat.reduceEqDiff, Nat.le_refl, not_false_eq_true, not_true_eq_false, false_implies, true_implies, forall_const, true_and, and_true, if_true, if_false, implies_true, and_self, ne_eq, false_and, and_false, or_false, false_or, true_or, or_true]
      exact go M2 _ _ NN
end LWG
